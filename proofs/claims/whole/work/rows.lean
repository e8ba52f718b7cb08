section
-- ===== PART A: goes FIRST, ahead of the names: the tables' words, and 'selects' of the private methods out of them =====
/-- a private method of a class that the tables say can be made, by its rows of tables_1 -/
def lw_okq (q : MethodName × Nat) : Prop := (q.1.cls ≠ "java/lang/invoke/MethodHandle" ∧ q.1.cls ≠ "java/lang/invoke/VarHandle") ∧ Cond.instantiable q.1.cls q.2 ∈ tables_1 ∧ Cond.privateMethod q.1 ∈ tables_1 ∧ Cond.instanceMethod q.1 ∈ tables_1
theorem lw_p0 : lw_okq (⟨"HopBeams$Land", "hasCell", "(I)Z"⟩, 8) := ⟨⟨by decide +kernel, by decide +kernel⟩, List.mem_of_getElem? (i := 23) (by decide +kernel), List.mem_of_getElem? (i := 248) (by decide +kernel), List.mem_of_getElem? (i := 249) (by decide +kernel)⟩
theorem lw_p1 : lw_okq (⟨"HopBeams$Shelf", "refusal", "(III)I"⟩, 3) := ⟨⟨by decide +kernel, by decide +kernel⟩, List.mem_of_getElem? (i := 89) (by decide +kernel), List.mem_of_getElem? (i := 272) (by decide +kernel), List.mem_of_getElem? (i := 273) (by decide +kernel)⟩
theorem lw_p2 : lw_okq (⟨"HopBeams$Shelf", "areWithin", "(III)Z"⟩, 3) := ⟨⟨by decide +kernel, by decide +kernel⟩, List.mem_of_getElem? (i := 89) (by decide +kernel), List.mem_of_getElem? (i := 279) (by decide +kernel), List.mem_of_getElem? (i := 280) (by decide +kernel)⟩
theorem lw_p3 : lw_okq (⟨"HopBeams$Shelf", "number", "(II)J"⟩, 3) := ⟨⟨by decide +kernel, by decide +kernel⟩, List.mem_of_getElem? (i := 89) (by decide +kernel), List.mem_of_getElem? (i := 283) (by decide +kernel), List.mem_of_getElem? (i := 284) (by decide +kernel)⟩
theorem lw_p4 : lw_okq (⟨"HopBeams$Shelf", "lengthOf", "(I)I"⟩, 3) := ⟨⟨by decide +kernel, by decide +kernel⟩, List.mem_of_getElem? (i := 89) (by decide +kernel), List.mem_of_getElem? (i := 287) (by decide +kernel), List.mem_of_getElem? (i := 288) (by decide +kernel)⟩
theorem lw_p5 : lw_okq (⟨"HopBeams$Land", "allCells", "()I"⟩, 8) := ⟨⟨by decide +kernel, by decide +kernel⟩, List.mem_of_getElem? (i := 23) (by decide +kernel), List.mem_of_getElem? (i := 301) (by decide +kernel), List.mem_of_getElem? (i := 302) (by decide +kernel)⟩
theorem lw_p6 : lw_okq (⟨"HopBeams$Land", "allows", "(I)Z"⟩, 8) := ⟨⟨by decide +kernel, by decide +kernel⟩, List.mem_of_getElem? (i := 23) (by decide +kernel), List.mem_of_getElem? (i := 305) (by decide +kernel), List.mem_of_getElem? (i := 306) (by decide +kernel)⟩
theorem lw_p7 : lw_okq (⟨"HopBeams$Cell", "powerNow", "()I"⟩, 16) := ⟨⟨by decide +kernel, by decide +kernel⟩, List.mem_of_getElem? (i := 179) (by decide +kernel), List.mem_of_getElem? (i := 316) (by decide +kernel), List.mem_of_getElem? (i := 317) (by decide +kernel)⟩
theorem lw_p8 : lw_okq (⟨"HopBeams$Land", "haveRoom", "(I)Z"⟩, 8) := ⟨⟨by decide +kernel, by decide +kernel⟩, List.mem_of_getElem? (i := 23) (by decide +kernel), List.mem_of_getElem? (i := 320) (by decide +kernel), List.mem_of_getElem? (i := 321) (by decide +kernel)⟩
theorem lw_p9 : lw_okq (⟨"HopBeams$LegalSets", "find", "(LHopBeams$Land;)V"⟩, 4) := ⟨⟨by decide +kernel, by decide +kernel⟩, List.mem_of_getElem? (i := 66) (by decide +kernel), List.mem_of_getElem? (i := 328) (by decide +kernel), List.mem_of_getElem? (i := 329) (by decide +kernel)⟩
theorem lw_p10 : lw_okq (⟨"HopBeams$Land", "lacksAtFirst", "()J"⟩, 8) := ⟨⟨by decide +kernel, by decide +kernel⟩, List.mem_of_getElem? (i := 23) (by decide +kernel), List.mem_of_getElem? (i := 341) (by decide +kernel), List.mem_of_getElem? (i := 342) (by decide +kernel)⟩
theorem lw_p11 : lw_okq (⟨"HopBeams$Land", "canMeetNeeds", "()Z"⟩, 8) := ⟨⟨by decide +kernel, by decide +kernel⟩, List.mem_of_getElem? (i := 23) (by decide +kernel), List.mem_of_getElem? (i := 345) (by decide +kernel), List.mem_of_getElem? (i := 346) (by decide +kernel)⟩
theorem lw_p12 : lw_okq (⟨"HopBeams$Search", "reachesEnd", "(LHopBeams$LegalSets;J)Z"⟩, 10) := ⟨⟨by decide +kernel, by decide +kernel⟩, List.mem_of_getElem? (i := 350) (by decide +kernel), List.mem_of_getElem? (i := 388) (by decide +kernel), List.mem_of_getElem? (i := 389) (by decide +kernel)⟩
theorem lw_p13 : lw_okq (⟨"HopBeams$Search", "prepare", "(LHopBeams$LegalSets;)V"⟩, 10) := ⟨⟨by decide +kernel, by decide +kernel⟩, List.mem_of_getElem? (i := 350) (by decide +kernel), List.mem_of_getElem? (i := 392) (by decide +kernel), List.mem_of_getElem? (i := 393) (by decide +kernel)⟩
theorem lw_p14 : lw_okq (⟨"HopBeams$LegalSets", "roomBeside", "(I)I"⟩, 4) := ⟨⟨by decide +kernel, by decide +kernel⟩, List.mem_of_getElem? (i := 66) (by decide +kernel), List.mem_of_getElem? (i := 399) (by decide +kernel), List.mem_of_getElem? (i := 400) (by decide +kernel)⟩
theorem lw_p15 : lw_okq (⟨"HopBeams$LegalSets", "has", "(I)Z"⟩, 4) := ⟨⟨by decide +kernel, by decide +kernel⟩, List.mem_of_getElem? (i := 66) (by decide +kernel), List.mem_of_getElem? (i := 404) (by decide +kernel), List.mem_of_getElem? (i := 405) (by decide +kernel)⟩
def lw_privs_1 : List (MethodName × Nat) := [(⟨"HopBeams$Land", "hasCell", "(I)Z"⟩, 8), (⟨"HopBeams$Shelf", "refusal", "(III)I"⟩, 3), (⟨"HopBeams$Shelf", "areWithin", "(III)Z"⟩, 3), (⟨"HopBeams$Shelf", "number", "(II)J"⟩, 3), (⟨"HopBeams$Shelf", "lengthOf", "(I)I"⟩, 3), (⟨"HopBeams$Land", "allCells", "()I"⟩, 8), (⟨"HopBeams$Land", "allows", "(I)Z"⟩, 8), (⟨"HopBeams$Cell", "powerNow", "()I"⟩, 16), (⟨"HopBeams$Land", "haveRoom", "(I)Z"⟩, 8), (⟨"HopBeams$LegalSets", "find", "(LHopBeams$Land;)V"⟩, 4), (⟨"HopBeams$Land", "lacksAtFirst", "()J"⟩, 8), (⟨"HopBeams$Land", "canMeetNeeds", "()Z"⟩, 8), (⟨"HopBeams$Search", "reachesEnd", "(LHopBeams$LegalSets;J)Z"⟩, 10), (⟨"HopBeams$Search", "prepare", "(LHopBeams$LegalSets;)V"⟩, 10), (⟨"HopBeams$LegalSets", "roomBeside", "(I)I"⟩, 4), (⟨"HopBeams$LegalSets", "has", "(I)Z"⟩, 4)]
theorem lw_r1 : ∀ q ∈ lw_privs_1, lw_okq q := List.forall_mem_cons.mpr ⟨lw_p0, List.forall_mem_cons.mpr ⟨lw_p1, List.forall_mem_cons.mpr ⟨lw_p2, List.forall_mem_cons.mpr ⟨lw_p3, List.forall_mem_cons.mpr ⟨lw_p4, List.forall_mem_cons.mpr ⟨lw_p5, List.forall_mem_cons.mpr ⟨lw_p6, List.forall_mem_cons.mpr ⟨lw_p7, List.forall_mem_cons.mpr ⟨lw_p8, List.forall_mem_cons.mpr ⟨lw_p9, List.forall_mem_cons.mpr ⟨lw_p10, List.forall_mem_cons.mpr ⟨lw_p11, List.forall_mem_cons.mpr ⟨lw_p12, List.forall_mem_cons.mpr ⟨lw_p13, List.forall_mem_cons.mpr ⟨lw_p14, List.forall_mem_cons.mpr ⟨lw_p15, fun _ h => absurd h List.not_mem_nil⟩⟩⟩⟩⟩⟩⟩⟩⟩⟩⟩⟩⟩⟩⟩⟩
theorem lw_p16 : lw_okq (⟨"HopBeams$Search", "spotOf", "(J)I"⟩, 10) := ⟨⟨by decide +kernel, by decide +kernel⟩, List.mem_of_getElem? (i := 350) (by decide +kernel), List.mem_of_getElem? (i := 412) (by decide +kernel), List.mem_of_getElem? (i := 413) (by decide +kernel)⟩
theorem lw_p17 : lw_okq (⟨"HopBeams$Search", "remember", "(JII)V"⟩, 10) := ⟨⟨by decide +kernel, by decide +kernel⟩, List.mem_of_getElem? (i := 350) (by decide +kernel), List.mem_of_getElem? (i := 417) (by decide +kernel), List.mem_of_getElem? (i := 418) (by decide +kernel)⟩
theorem lw_p18 : lw_okq (⟨"HopBeams$Search", "chooseWidest", "(LHopBeams$LegalSets;I)V"⟩, 10) := ⟨⟨by decide +kernel, by decide +kernel⟩, List.mem_of_getElem? (i := 350) (by decide +kernel), List.mem_of_getElem? (i := 425) (by decide +kernel), List.mem_of_getElem? (i := 426) (by decide +kernel)⟩
theorem lw_p19 : lw_okq (⟨"HopBeams$Search", "tellRow", "(LHopBeams$Frame;)V"⟩, 10) := ⟨⟨by decide +kernel, by decide +kernel⟩, List.mem_of_getElem? (i := 350) (by decide +kernel), List.mem_of_getElem? (i := 429) (by decide +kernel), List.mem_of_getElem? (i := 430) (by decide +kernel)⟩
theorem lw_p20 : lw_okq (⟨"HopBeams$Frame", "has", "(I)Z"⟩, 2) := ⟨⟨by decide +kernel, by decide +kernel⟩, List.mem_of_getElem? (i := 108) (by decide +kernel), List.mem_of_getElem? (i := 437) (by decide +kernel), List.mem_of_getElem? (i := 438) (by decide +kernel)⟩
theorem lw_p21 : lw_okq (⟨"HopBeams$LegalSets", "worthiest", "([I)I"⟩, 4) := ⟨⟨by decide +kernel, by decide +kernel⟩, List.mem_of_getElem? (i := 66) (by decide +kernel), List.mem_of_getElem? (i := 453) (by decide +kernel), List.mem_of_getElem? (i := 454) (by decide +kernel)⟩
theorem lw_p22 : lw_okq (⟨"HopBeams$Tally", "countRows", "(LHopBeams$LegalSets;II)V"⟩, 5) := ⟨⟨by decide +kernel, by decide +kernel⟩, List.mem_of_getElem? (i := 463) (by decide +kernel), List.mem_of_getElem? (i := 486) (by decide +kernel), List.mem_of_getElem? (i := 487) (by decide +kernel)⟩
theorem lw_p23 : lw_okq (⟨"HopBeams$Tally", "countWithin", "(LHopBeams$LegalSets;I)V"⟩, 5) := ⟨⟨by decide +kernel, by decide +kernel⟩, List.mem_of_getElem? (i := 463) (by decide +kernel), List.mem_of_getElem? (i := 490) (by decide +kernel), List.mem_of_getElem? (i := 491) (by decide +kernel)⟩
theorem lw_p24 : lw_okq (⟨"HopBeams$Tally", "raise", "(II)V"⟩, 5) := ⟨⟨by decide +kernel, by decide +kernel⟩, List.mem_of_getElem? (i := 463) (by decide +kernel), List.mem_of_getElem? (i := 502) (by decide +kernel), List.mem_of_getElem? (i := 503) (by decide +kernel)⟩
theorem lw_p25 : lw_okq (⟨"HopBeams$Tally", "addPower", "(I)V"⟩, 5) := ⟨⟨by decide +kernel, by decide +kernel⟩, List.mem_of_getElem? (i := 463) (by decide +kernel), List.mem_of_getElem? (i := 507) (by decide +kernel), List.mem_of_getElem? (i := 508) (by decide +kernel)⟩
theorem lw_p26 : lw_okq (⟨"HopBeams$Tally", "carry", "()V"⟩, 5) := ⟨⟨by decide +kernel, by decide +kernel⟩, List.mem_of_getElem? (i := 463) (by decide +kernel), List.mem_of_getElem? (i := 511) (by decide +kernel), List.mem_of_getElem? (i := 512) (by decide +kernel)⟩
theorem lw_p27 : lw_okq (⟨"HopBeams$Tally", "writeDigits", "()V"⟩, 5) := ⟨⟨by decide +kernel, by decide +kernel⟩, List.mem_of_getElem? (i := 463) (by decide +kernel), List.mem_of_getElem? (i := 521) (by decide +kernel), List.mem_of_getElem? (i := 522) (by decide +kernel)⟩
theorem lw_p28 : lw_okq (⟨"HopBeams$Tally", "digitsUsed", "()I"⟩, 5) := ⟨⟨by decide +kernel, by decide +kernel⟩, List.mem_of_getElem? (i := 463) (by decide +kernel), List.mem_of_getElem? (i := 526) (by decide +kernel), List.mem_of_getElem? (i := 527) (by decide +kernel)⟩
theorem lw_p29 : lw_okq (⟨"HopBeams$Tally", "digitAt", "(I)I"⟩, 5) := ⟨⟨by decide +kernel, by decide +kernel⟩, List.mem_of_getElem? (i := 463) (by decide +kernel), List.mem_of_getElem? (i := 534) (by decide +kernel), List.mem_of_getElem? (i := 535) (by decide +kernel)⟩
theorem lw_p30 : lw_okq (⟨"HopBeams", "passSlot", "()V"⟩, 11) := ⟨⟨by decide +kernel, by decide +kernel⟩, List.mem_of_getElem? (i := 15) (by decide +kernel), List.mem_of_getElem? (i := 547) (by decide +kernel), List.mem_of_getElem? (i := 548) (by decide +kernel)⟩
theorem lw_p31 : lw_okq (⟨"HopBeams$Land", "takeAsked", "()V"⟩, 8) := ⟨⟨by decide +kernel, by decide +kernel⟩, List.mem_of_getElem? (i := 23) (by decide +kernel), List.mem_of_getElem? (i := 551) (by decide +kernel), List.mem_of_getElem? (i := 552) (by decide +kernel)⟩
def lw_privs_2 : List (MethodName × Nat) := [(⟨"HopBeams$Search", "spotOf", "(J)I"⟩, 10), (⟨"HopBeams$Search", "remember", "(JII)V"⟩, 10), (⟨"HopBeams$Search", "chooseWidest", "(LHopBeams$LegalSets;I)V"⟩, 10), (⟨"HopBeams$Search", "tellRow", "(LHopBeams$Frame;)V"⟩, 10), (⟨"HopBeams$Frame", "has", "(I)Z"⟩, 2), (⟨"HopBeams$LegalSets", "worthiest", "([I)I"⟩, 4), (⟨"HopBeams$Tally", "countRows", "(LHopBeams$LegalSets;II)V"⟩, 5), (⟨"HopBeams$Tally", "countWithin", "(LHopBeams$LegalSets;I)V"⟩, 5), (⟨"HopBeams$Tally", "raise", "(II)V"⟩, 5), (⟨"HopBeams$Tally", "addPower", "(I)V"⟩, 5), (⟨"HopBeams$Tally", "carry", "()V"⟩, 5), (⟨"HopBeams$Tally", "writeDigits", "()V"⟩, 5), (⟨"HopBeams$Tally", "digitsUsed", "()I"⟩, 5), (⟨"HopBeams$Tally", "digitAt", "(I)I"⟩, 5), (⟨"HopBeams", "passSlot", "()V"⟩, 11), (⟨"HopBeams$Land", "takeAsked", "()V"⟩, 8)]
theorem lw_r2 : ∀ q ∈ lw_privs_2, lw_okq q := List.forall_mem_cons.mpr ⟨lw_p16, List.forall_mem_cons.mpr ⟨lw_p17, List.forall_mem_cons.mpr ⟨lw_p18, List.forall_mem_cons.mpr ⟨lw_p19, List.forall_mem_cons.mpr ⟨lw_p20, List.forall_mem_cons.mpr ⟨lw_p21, List.forall_mem_cons.mpr ⟨lw_p22, List.forall_mem_cons.mpr ⟨lw_p23, List.forall_mem_cons.mpr ⟨lw_p24, List.forall_mem_cons.mpr ⟨lw_p25, List.forall_mem_cons.mpr ⟨lw_p26, List.forall_mem_cons.mpr ⟨lw_p27, List.forall_mem_cons.mpr ⟨lw_p28, List.forall_mem_cons.mpr ⟨lw_p29, List.forall_mem_cons.mpr ⟨lw_p30, List.forall_mem_cons.mpr ⟨lw_p31, fun _ h => absurd h List.not_mem_nil⟩⟩⟩⟩⟩⟩⟩⟩⟩⟩⟩⟩⟩⟩⟩⟩
theorem lw_p32 : lw_okq (⟨"HopBeams$Cell", "takeAsked", "()V"⟩, 16) := ⟨⟨by decide +kernel, by decide +kernel⟩, List.mem_of_getElem? (i := 179) (by decide +kernel), List.mem_of_getElem? (i := 555) (by decide +kernel), List.mem_of_getElem? (i := 556) (by decide +kernel)⟩
theorem lw_p33 : lw_okq (⟨"HopBeams", "heaviestSet", "()I"⟩, 11) := ⟨⟨by decide +kernel, by decide +kernel⟩, List.mem_of_getElem? (i := 15) (by decide +kernel), List.mem_of_getElem? (i := 559) (by decide +kernel), List.mem_of_getElem? (i := 560) (by decide +kernel)⟩
theorem lw_p34 : lw_okq (⟨"HopBeams$Cell", "weightIfLit", "()I"⟩, 16) := ⟨⟨by decide +kernel, by decide +kernel⟩, List.mem_of_getElem? (i := 179) (by decide +kernel), List.mem_of_getElem? (i := 563) (by decide +kernel), List.mem_of_getElem? (i := 564) (by decide +kernel)⟩
theorem lw_p35 : lw_okq (⟨"HopBeams$Cell", "held", "()I"⟩, 16) := ⟨⟨by decide +kernel, by decide +kernel⟩, List.mem_of_getElem? (i := 179) (by decide +kernel), List.mem_of_getElem? (i := 567) (by decide +kernel), List.mem_of_getElem? (i := 568) (by decide +kernel)⟩
theorem lw_p36 : lw_okq (⟨"HopBeams$Cell", "rateNow", "()I"⟩, 16) := ⟨⟨by decide +kernel, by decide +kernel⟩, List.mem_of_getElem? (i := 179) (by decide +kernel), List.mem_of_getElem? (i := 571) (by decide +kernel), List.mem_of_getElem? (i := 572) (by decide +kernel)⟩
theorem lw_p37 : lw_okq (⟨"HopBeams", "setOfFrame", "()I"⟩, 11) := ⟨⟨by decide +kernel, by decide +kernel⟩, List.mem_of_getElem? (i := 15) (by decide +kernel), List.mem_of_getElem? (i := 576) (by decide +kernel), List.mem_of_getElem? (i := 577) (by decide +kernel)⟩
theorem lw_p38 : lw_okq (⟨"HopBeams$Land", "serve", "(I)V"⟩, 8) := ⟨⟨by decide +kernel, by decide +kernel⟩, List.mem_of_getElem? (i := 23) (by decide +kernel), List.mem_of_getElem? (i := 581) (by decide +kernel), List.mem_of_getElem? (i := 582) (by decide +kernel)⟩
theorem lw_p39 : lw_okq (⟨"HopBeams$Cell", "send", "()V"⟩, 16) := ⟨⟨by decide +kernel, by decide +kernel⟩, List.mem_of_getElem? (i := 179) (by decide +kernel), List.mem_of_getElem? (i := 585) (by decide +kernel), List.mem_of_getElem? (i := 586) (by decide +kernel)⟩
theorem lw_p40 : lw_okq (⟨"HopBeams$Cell", "markLight", "(Z)V"⟩, 16) := ⟨⟨by decide +kernel, by decide +kernel⟩, List.mem_of_getElem? (i := 179) (by decide +kernel), List.mem_of_getElem? (i := 589) (by decide +kernel), List.mem_of_getElem? (i := 590) (by decide +kernel)⟩
theorem lw_p41 : lw_okq (⟨"HopBeams$Cell", "growOlder", "(I)V"⟩, 16) := ⟨⟨by decide +kernel, by decide +kernel⟩, List.mem_of_getElem? (i := 179) (by decide +kernel), List.mem_of_getElem? (i := 596) (by decide +kernel), List.mem_of_getElem? (i := 597) (by decide +kernel)⟩
theorem lw_p42 : lw_okq (⟨"HopBeams$Land", "handOn", "()Z"⟩, 8) := ⟨⟨by decide +kernel, by decide +kernel⟩, List.mem_of_getElem? (i := 23) (by decide +kernel), List.mem_of_getElem? (i := 600) (by decide +kernel), List.mem_of_getElem? (i := 601) (by decide +kernel)⟩
theorem lw_p43 : lw_okq (⟨"HopBeams$Cell", "tell", "(I)I"⟩, 16) := ⟨⟨by decide +kernel, by decide +kernel⟩, List.mem_of_getElem? (i := 179) (by decide +kernel), List.mem_of_getElem? (i := 612) (by decide +kernel), List.mem_of_getElem? (i := 613) (by decide +kernel)⟩
theorem lw_p44 : lw_okq (⟨"HopBeams$Cell", "oldest", "()I"⟩, 16) := ⟨⟨by decide +kernel, by decide +kernel⟩, List.mem_of_getElem? (i := 179) (by decide +kernel), List.mem_of_getElem? (i := 617) (by decide +kernel), List.mem_of_getElem? (i := 618) (by decide +kernel)⟩
theorem lw_p45 : lw_okq (⟨"HopBeams$Cell", "tellUnits", "(I)J"⟩, 16) := ⟨⟨by decide +kernel, by decide +kernel⟩, List.mem_of_getElem? (i := 179) (by decide +kernel), List.mem_of_getElem? (i := 625) (by decide +kernel), List.mem_of_getElem? (i := 626) (by decide +kernel)⟩
theorem lw_p46 : lw_okq (⟨"HopBeams$Shelf", "placesWithRow", "()I"⟩, 3) := ⟨⟨by decide +kernel, by decide +kernel⟩, List.mem_of_getElem? (i := 89) (by decide +kernel), List.mem_of_getElem? (i := 635) (by decide +kernel), List.mem_of_getElem? (i := 636) (by decide +kernel)⟩
theorem lw_p47 : lw_okq (⟨"HopBeams$Land", "cellsOf", "(I)I"⟩, 8) := ⟨⟨by decide +kernel, by decide +kernel⟩, List.mem_of_getElem? (i := 23) (by decide +kernel), List.mem_of_getElem? (i := 643) (by decide +kernel), List.mem_of_getElem? (i := 644) (by decide +kernel)⟩
def lw_privs_3 : List (MethodName × Nat) := [(⟨"HopBeams$Cell", "takeAsked", "()V"⟩, 16), (⟨"HopBeams", "heaviestSet", "()I"⟩, 11), (⟨"HopBeams$Cell", "weightIfLit", "()I"⟩, 16), (⟨"HopBeams$Cell", "held", "()I"⟩, 16), (⟨"HopBeams$Cell", "rateNow", "()I"⟩, 16), (⟨"HopBeams", "setOfFrame", "()I"⟩, 11), (⟨"HopBeams$Land", "serve", "(I)V"⟩, 8), (⟨"HopBeams$Cell", "send", "()V"⟩, 16), (⟨"HopBeams$Cell", "markLight", "(Z)V"⟩, 16), (⟨"HopBeams$Cell", "growOlder", "(I)V"⟩, 16), (⟨"HopBeams$Land", "handOn", "()Z"⟩, 8), (⟨"HopBeams$Cell", "tell", "(I)I"⟩, 16), (⟨"HopBeams$Cell", "oldest", "()I"⟩, 16), (⟨"HopBeams$Cell", "tellUnits", "(I)J"⟩, 16), (⟨"HopBeams$Shelf", "placesWithRow", "()I"⟩, 3), (⟨"HopBeams$Land", "cellsOf", "(I)I"⟩, 8)]
theorem lw_r3 : ∀ q ∈ lw_privs_3, lw_okq q := List.forall_mem_cons.mpr ⟨lw_p32, List.forall_mem_cons.mpr ⟨lw_p33, List.forall_mem_cons.mpr ⟨lw_p34, List.forall_mem_cons.mpr ⟨lw_p35, List.forall_mem_cons.mpr ⟨lw_p36, List.forall_mem_cons.mpr ⟨lw_p37, List.forall_mem_cons.mpr ⟨lw_p38, List.forall_mem_cons.mpr ⟨lw_p39, List.forall_mem_cons.mpr ⟨lw_p40, List.forall_mem_cons.mpr ⟨lw_p41, List.forall_mem_cons.mpr ⟨lw_p42, List.forall_mem_cons.mpr ⟨lw_p43, List.forall_mem_cons.mpr ⟨lw_p44, List.forall_mem_cons.mpr ⟨lw_p45, List.forall_mem_cons.mpr ⟨lw_p46, List.forall_mem_cons.mpr ⟨lw_p47, fun _ h => absurd h List.not_mem_nil⟩⟩⟩⟩⟩⟩⟩⟩⟩⟩⟩⟩⟩⟩⟩⟩
theorem lw_p48 : lw_okq (⟨"HopBeams$Shelf", "lay", "(III)I"⟩, 3) := ⟨⟨by decide +kernel, by decide +kernel⟩, List.mem_of_getElem? (i := 89) (by decide +kernel), List.mem_of_getElem? (i := 651) (by decide +kernel), List.mem_of_getElem? (i := 652) (by decide +kernel)⟩
theorem lw_p49 : lw_okq (⟨"HopBeams$Shelf", "clear", "(I)Z"⟩, 3) := ⟨⟨by decide +kernel, by decide +kernel⟩, List.mem_of_getElem? (i := 89) (by decide +kernel), List.mem_of_getElem? (i := 661) (by decide +kernel), List.mem_of_getElem? (i := 662) (by decide +kernel)⟩
theorem lw_p50 : lw_okq (⟨"HopBeams$Shelf", "put", "(IIJ)I"⟩, 3) := ⟨⟨by decide +kernel, by decide +kernel⟩, List.mem_of_getElem? (i := 89) (by decide +kernel), List.mem_of_getElem? (i := 669) (by decide +kernel), List.mem_of_getElem? (i := 670) (by decide +kernel)⟩
theorem lw_p51 : lw_okq (⟨"HopBeams$Shelf", "copy", "(IIIII)I"⟩, 3) := ⟨⟨by decide +kernel, by decide +kernel⟩, List.mem_of_getElem? (i := 89) (by decide +kernel), List.mem_of_getElem? (i := 680) (by decide +kernel), List.mem_of_getElem? (i := 681) (by decide +kernel)⟩
theorem lw_p52 : lw_okq (⟨"HopBeamsModel", "isCell", "(I)Z"⟩, 48) := ⟨⟨by decide +kernel, by decide +kernel⟩, List.mem_of_getElem? (i := 687) (by decide +kernel), List.mem_of_getElem? (i := 883) (by decide +kernel), List.mem_of_getElem? (i := 884) (by decide +kernel)⟩
theorem lw_p53 : lw_okq (⟨"HopBeamsModel", "refuses", "(IJ)I"⟩, 48) := ⟨⟨by decide +kernel, by decide +kernel⟩, List.mem_of_getElem? (i := 687) (by decide +kernel), List.mem_of_getElem? (i := 907) (by decide +kernel), List.mem_of_getElem? (i := 908) (by decide +kernel)⟩
theorem lw_p54 : lw_okq (⟨"HopBeamsModel", "total", "([I)I"⟩, 48) := ⟨⟨by decide +kernel, by decide +kernel⟩, List.mem_of_getElem? (i := 687) (by decide +kernel), List.mem_of_getElem? (i := 911) (by decide +kernel), List.mem_of_getElem? (i := 912) (by decide +kernel)⟩
theorem lw_p55 : lw_okq (⟨"HopBeamsModel", "isSet", "(J)Z"⟩, 48) := ⟨⟨by decide +kernel, by decide +kernel⟩, List.mem_of_getElem? (i := 687) (by decide +kernel), List.mem_of_getElem? (i := 923) (by decide +kernel), List.mem_of_getElem? (i := 924) (by decide +kernel)⟩
theorem lw_p56 : lw_okq (⟨"HopBeamsModel", "isLegal", "(I)Z"⟩, 48) := ⟨⟨by decide +kernel, by decide +kernel⟩, List.mem_of_getElem? (i := 687) (by decide +kernel), List.mem_of_getElem? (i := 927) (by decide +kernel), List.mem_of_getElem? (i := 928) (by decide +kernel)⟩
theorem lw_p57 : lw_okq (⟨"HopBeamsModel", "powerNow", "(I)I"⟩, 48) := ⟨⟨by decide +kernel, by decide +kernel⟩, List.mem_of_getElem? (i := 687) (by decide +kernel), List.mem_of_getElem? (i := 931) (by decide +kernel), List.mem_of_getElem? (i := 932) (by decide +kernel)⟩
theorem lw_p58 : lw_okq (⟨"HopBeamsModel", "sumOf", "()I"⟩, 48) := ⟨⟨by decide +kernel, by decide +kernel⟩, List.mem_of_getElem? (i := 687) (by decide +kernel), List.mem_of_getElem? (i := 943) (by decide +kernel), List.mem_of_getElem? (i := 944) (by decide +kernel)⟩
theorem lw_p59 : lw_okq (⟨"HopBeamsModel", "lays", "(III)V"⟩, 48) := ⟨⟨by decide +kernel, by decide +kernel⟩, List.mem_of_getElem? (i := 687) (by decide +kernel), List.mem_of_getElem? (i := 947) (by decide +kernel), List.mem_of_getElem? (i := 948) (by decide +kernel)⟩
theorem lw_p60 : lw_okq (⟨"HopBeamsModel", "isWhole", "(II)Z"⟩, 48) := ⟨⟨by decide +kernel, by decide +kernel⟩, List.mem_of_getElem? (i := 687) (by decide +kernel), List.mem_of_getElem? (i := 951) (by decide +kernel), List.mem_of_getElem? (i := 952) (by decide +kernel)⟩
theorem lw_p61 : lw_okq (⟨"HopBeamsModel", "told", "(II)I"⟩, 48) := ⟨⟨by decide +kernel, by decide +kernel⟩, List.mem_of_getElem? (i := 687) (by decide +kernel), List.mem_of_getElem? (i := 955) (by decide +kernel), List.mem_of_getElem? (i := 956) (by decide +kernel)⟩
theorem lw_p62 : lw_okq (⟨"HopBeamsModel", "isNew", "(I)Z"⟩, 48) := ⟨⟨by decide +kernel, by decide +kernel⟩, List.mem_of_getElem? (i := 687) (by decide +kernel), List.mem_of_getElem? (i := 959) (by decide +kernel), List.mem_of_getElem? (i := 960) (by decide +kernel)⟩
theorem lw_p63 : lw_okq (⟨"HopBeamsModel", "goesBy", "()V"⟩, 48) := ⟨⟨by decide +kernel, by decide +kernel⟩, List.mem_of_getElem? (i := 687) (by decide +kernel), List.mem_of_getElem? (i := 1007) (by decide +kernel), List.mem_of_getElem? (i := 1008) (by decide +kernel)⟩
def lw_privs_4 : List (MethodName × Nat) := [(⟨"HopBeams$Shelf", "lay", "(III)I"⟩, 3), (⟨"HopBeams$Shelf", "clear", "(I)Z"⟩, 3), (⟨"HopBeams$Shelf", "put", "(IIJ)I"⟩, 3), (⟨"HopBeams$Shelf", "copy", "(IIIII)I"⟩, 3), (⟨"HopBeamsModel", "isCell", "(I)Z"⟩, 48), (⟨"HopBeamsModel", "refuses", "(IJ)I"⟩, 48), (⟨"HopBeamsModel", "total", "([I)I"⟩, 48), (⟨"HopBeamsModel", "isSet", "(J)Z"⟩, 48), (⟨"HopBeamsModel", "isLegal", "(I)Z"⟩, 48), (⟨"HopBeamsModel", "powerNow", "(I)I"⟩, 48), (⟨"HopBeamsModel", "sumOf", "()I"⟩, 48), (⟨"HopBeamsModel", "lays", "(III)V"⟩, 48), (⟨"HopBeamsModel", "isWhole", "(II)Z"⟩, 48), (⟨"HopBeamsModel", "told", "(II)I"⟩, 48), (⟨"HopBeamsModel", "isNew", "(I)Z"⟩, 48), (⟨"HopBeamsModel", "goesBy", "()V"⟩, 48)]
theorem lw_r4 : ∀ q ∈ lw_privs_4, lw_okq q := List.forall_mem_cons.mpr ⟨lw_p48, List.forall_mem_cons.mpr ⟨lw_p49, List.forall_mem_cons.mpr ⟨lw_p50, List.forall_mem_cons.mpr ⟨lw_p51, List.forall_mem_cons.mpr ⟨lw_p52, List.forall_mem_cons.mpr ⟨lw_p53, List.forall_mem_cons.mpr ⟨lw_p54, List.forall_mem_cons.mpr ⟨lw_p55, List.forall_mem_cons.mpr ⟨lw_p56, List.forall_mem_cons.mpr ⟨lw_p57, List.forall_mem_cons.mpr ⟨lw_p58, List.forall_mem_cons.mpr ⟨lw_p59, List.forall_mem_cons.mpr ⟨lw_p60, List.forall_mem_cons.mpr ⟨lw_p61, List.forall_mem_cons.mpr ⟨lw_p62, List.forall_mem_cons.mpr ⟨lw_p63, fun _ h => absurd h List.not_mem_nil⟩⟩⟩⟩⟩⟩⟩⟩⟩⟩⟩⟩⟩⟩⟩⟩
theorem lw_p64 : lw_okq (⟨"HopBeamsModel", "waiting", "(I)I"⟩, 48) := ⟨⟨by decide +kernel, by decide +kernel⟩, List.mem_of_getElem? (i := 687) (by decide +kernel), List.mem_of_getElem? (i := 1011) (by decide +kernel), List.mem_of_getElem? (i := 1012) (by decide +kernel)⟩
theorem lw_p65 : lw_okq (⟨"HopBeamsModel", "rateNow", "(I)I"⟩, 48) := ⟨⟨by decide +kernel, by decide +kernel⟩, List.mem_of_getElem? (i := 687) (by decide +kernel), List.mem_of_getElem? (i := 1015) (by decide +kernel), List.mem_of_getElem? (i := 1016) (by decide +kernel)⟩
theorem lw_p66 : lw_okq (⟨"HopBeamsModel", "byFrame", "()I"⟩, 48) := ⟨⟨by decide +kernel, by decide +kernel⟩, List.mem_of_getElem? (i := 687) (by decide +kernel), List.mem_of_getElem? (i := 1019) (by decide +kernel), List.mem_of_getElem? (i := 1020) (by decide +kernel)⟩
theorem lw_p67 : lw_okq (⟨"HopBeamsModel", "byWeight", "()I"⟩, 48) := ⟨⟨by decide +kernel, by decide +kernel⟩, List.mem_of_getElem? (i := 687) (by decide +kernel), List.mem_of_getElem? (i := 1023) (by decide +kernel), List.mem_of_getElem? (i := 1024) (by decide +kernel)⟩
theorem lw_p68 : lw_okq (⟨"HopBeamsModel", "sends", "(I)V"⟩, 48) := ⟨⟨by decide +kernel, by decide +kernel⟩, List.mem_of_getElem? (i := 687) (by decide +kernel), List.mem_of_getElem? (i := 1027) (by decide +kernel), List.mem_of_getElem? (i := 1028) (by decide +kernel)⟩
def lw_privs_5 : List (MethodName × Nat) := [(⟨"HopBeamsModel", "waiting", "(I)I"⟩, 48), (⟨"HopBeamsModel", "rateNow", "(I)I"⟩, 48), (⟨"HopBeamsModel", "byFrame", "()I"⟩, 48), (⟨"HopBeamsModel", "byWeight", "()I"⟩, 48), (⟨"HopBeamsModel", "sends", "(I)V"⟩, 48)]
theorem lw_r5 : ∀ q ∈ lw_privs_5, lw_okq q := List.forall_mem_cons.mpr ⟨lw_p64, List.forall_mem_cons.mpr ⟨lw_p65, List.forall_mem_cons.mpr ⟨lw_p66, List.forall_mem_cons.mpr ⟨lw_p67, List.forall_mem_cons.mpr ⟨lw_p68, fun _ h => absurd h List.not_mem_nil⟩⟩⟩⟩⟩
def lw_privs : List (MethodName × Nat) := lw_privs_1 ++ (lw_privs_2 ++ (lw_privs_3 ++ (lw_privs_4 ++ (lw_privs_5))))
def lw_tbl : List Cond := k2_sels lw_privs ++ tables_1
theorem lw_privs_ok : ∀ q ∈ lw_privs, lw_okq q := by
  show ∀ q ∈ lw_privs_1 ++ (lw_privs_2 ++ (lw_privs_3 ++ (lw_privs_4 ++ (lw_privs_5)))), lw_okq q
  exact List.forall_mem_append.mpr ⟨lw_r1, List.forall_mem_append.mpr ⟨lw_r2, List.forall_mem_append.mpr ⟨lw_r3, List.forall_mem_append.mpr ⟨lw_r4, lw_r5⟩⟩⟩⟩
end
section
def RX0 : String := "HopBeams$Cell"
def TX0 : u_T := fun k => match k with
  | 0 => ("HopBeams$Cell", "power", "I", true)
  | 1 => ("HopBeams$Cell", "rate", "I", true)
  | 2 => ("HopBeams$Cell", "rank", "I", true)
  | 3 => ("HopBeams$Cell", "gateway", "I", false)
  | 4 => ("HopBeams$Cell", "rain", "I", false)
  | 5 => ("HopBeams$Cell", "need", "I", false)
  | 6 => ("HopBeams$Cell", "ask", "I", false)
  | 7 => ("HopBeams$Cell", "handing", "I", false)
  | 8 => ("HopBeams$Cell", "forbidden", "I", false)
  | 9 => ("HopBeams$Cell", "waiting", "[I", true)
  | 10 => ("HopBeams$Cell", "came", "J", false)
  | 11 => ("HopBeams$Cell", "sent", "J", false)
  | 12 => ("HopBeams$Cell", "lost", "J", false)
  | 13 => ("HopBeams$Cell", "dark", "I", false)
  | 14 => ("HopBeams$Cell", "longestDark", "I", false)
  | _ => ("HopBeams$Cell", "timesLit", "I", false)
def tyX0 : Nat → FieldType := fun k => match k with
  | 0 => .int
  | 1 => .int
  | 2 => .int
  | 3 => .int
  | 4 => .int
  | 5 => .int
  | 6 => .int
  | 7 => .int
  | 8 => .int
  | 9 => .array .int
  | 10 => .long
  | 11 => .long
  | 12 => .long
  | 13 => .int
  | 14 => .int
  | _ => .int
abbrev wsX00 : List Cond := u_ws RX0 TX0 16
theorem nmX0 : ∀ a, a < 16 → ∀ b, b < 16 → a ≠ b → (TX0 a).2.1 ≠ (TX0 b).2.1 := by decide +kernel
theorem tyX0_ok : ∀ k, k < 16 → parseFieldDescriptor (TX0 k).2.2.1 = some (tyX0 k) := by decide +kernel
abbrev cX0_init : ByteArray := prog_2_method_1_code
def yX0_init : MethodName := ⟨RX0, "<init>", "(IIII)V"⟩
abbrev cX0_powerNow : ByteArray := prog_2_method_2_code
def yX0_powerNow : MethodName := ⟨RX0, "powerNow", "()I"⟩
abbrev cX0_rateNow : ByteArray := prog_2_method_3_code
def yX0_rateNow : MethodName := ⟨RX0, "rateNow", "()I"⟩
abbrev cX0_held : ByteArray := prog_2_method_4_code
def yX0_held : MethodName := ⟨RX0, "held", "()I"⟩
abbrev cX0_oldest : ByteArray := prog_2_method_5_code
def yX0_oldest : MethodName := ⟨RX0, "oldest", "()I"⟩
abbrev cX0_weightIfLit : ByteArray := prog_2_method_6_code
def yX0_weightIfLit : MethodName := ⟨RX0, "weightIfLit", "()I"⟩
abbrev cX0_takeAsked : ByteArray := prog_2_method_7_code
def yX0_takeAsked : MethodName := ⟨RX0, "takeAsked", "()V"⟩
abbrev cX0_send : ByteArray := prog_2_method_8_code
def yX0_send : MethodName := ⟨RX0, "send", "()V"⟩
abbrev cX0_growOlder : ByteArray := prog_2_method_9_code
def yX0_growOlder : MethodName := ⟨RX0, "growOlder", "(I)V"⟩
abbrev cX0_markLight : ByteArray := prog_2_method_10_code
def yX0_markLight : MethodName := ⟨RX0, "markLight", "(Z)V"⟩
abbrev cX0_tell : ByteArray := prog_2_method_11_code
def yX0_tell : MethodName := ⟨RX0, "tell", "(I)I"⟩
abbrev cX0_tellUnits : ByteArray := prog_2_method_12_code
def yX0_tellUnits : MethodName := ⟨RX0, "tellUnits", "(I)J"⟩
def RX1 : String := "HopBeams$Frame"
def TX1 : u_T := fun k => match k with
  | 0 => ("HopBeams$Frame", "members", "[I", true)
  | _ => ("HopBeams$Frame", "size", "I", false)
def tyX1 : Nat → FieldType := fun k => match k with
  | 0 => .array .int
  | _ => .int
abbrev wsX10 : List Cond := u_ws RX1 TX1 2
theorem nmX1 : ∀ a, a < 2 → ∀ b, b < 2 → a ≠ b → (TX1 a).2.1 ≠ (TX1 b).2.1 := by decide +kernel
theorem tyX1_ok : ∀ k, k < 2 → parseFieldDescriptor (TX1 k).2.2.1 = some (tyX1 k) := by decide +kernel
abbrev cX1_init : ByteArray := prog_3_method_1_code
def yX1_init : MethodName := ⟨RX1, "<init>", "()V"⟩
abbrev cX1_has : ByteArray := prog_3_method_2_code
def yX1_has : MethodName := ⟨RX1, "has", "(I)Z"⟩
def RX2 : String := "HopBeams$Land"
def TX2 : u_T := fun k => match k with
  | 0 => ("HopBeams$Land", "cells", "[LHopBeams$Cell;", true)
  | 1 => ("HopBeams$Land", "size", "I", false)
  | 2 => ("HopBeams$Land", "room", "[I", true)
  | 3 => ("HopBeams$Land", "up", "[Z", true)
  | 4 => ("HopBeams$Land", "beams", "I", false)
  | 5 => ("HopBeams$Land", "limit", "I", false)
  | 6 => ("HopBeams$Land", "latest", "I", false)
  | _ => ("HopBeams$Land", "hand", "I", false)
def tyX2 : Nat → FieldType := fun k => match k with
  | 0 => .array (.object "HopBeams$Cell")
  | 1 => .int
  | 2 => .array .int
  | 3 => .array .boolean
  | 4 => .int
  | 5 => .int
  | 6 => .int
  | _ => .int
abbrev wsX20 : List Cond := u_ws RX2 TX2 8
theorem nmX2 : ∀ a, a < 8 → ∀ b, b < 8 → a ≠ b → (TX2 a).2.1 ≠ (TX2 b).2.1 := by decide +kernel
theorem tyX2_ok : ∀ k, k < 8 → parseFieldDescriptor (TX2 k).2.2.1 = some (tyX2 k) := by decide +kernel
abbrev cX2_init : ByteArray := prog_4_method_1_code
def yX2_init : MethodName := ⟨RX2, "<init>", "()V"⟩
abbrev cX2_hasCell : ByteArray := prog_4_method_2_code
def yX2_hasCell : MethodName := ⟨RX2, "hasCell", "(I)Z"⟩
abbrev cX2_allCells : ByteArray := prog_4_method_3_code
def yX2_allCells : MethodName := ⟨RX2, "allCells", "()I"⟩
abbrev cX2_allows : ByteArray := prog_4_method_4_code
def yX2_allows : MethodName := ⟨RX2, "allows", "(I)Z"⟩
abbrev cX2_haveRoom : ByteArray := prog_4_method_5_code
def yX2_haveRoom : MethodName := ⟨RX2, "haveRoom", "(I)Z"⟩
abbrev cX2_cellsOf : ByteArray := prog_4_method_6_code
def yX2_cellsOf : MethodName := ⟨RX2, "cellsOf", "(I)I"⟩
abbrev cX2_canMeetNeeds : ByteArray := prog_4_method_7_code
def yX2_canMeetNeeds : MethodName := ⟨RX2, "canMeetNeeds", "()Z"⟩
abbrev cX2_lacksAtFirst : ByteArray := prog_4_method_8_code
def yX2_lacksAtFirst : MethodName := ⟨RX2, "lacksAtFirst", "()J"⟩
abbrev cX2_takeAsked : ByteArray := prog_4_method_9_code
def yX2_takeAsked : MethodName := ⟨RX2, "takeAsked", "()V"⟩
abbrev cX2_serve : ByteArray := prog_4_method_10_code
def yX2_serve : MethodName := ⟨RX2, "serve", "(I)V"⟩
abbrev cX2_handOn : ByteArray := prog_4_method_11_code
def yX2_handOn : MethodName := ⟨RX2, "handOn", "()Z"⟩
def RX3 : String := "HopBeams$LegalSets"
def TX3 : u_T := fun k => match k with
  | 0 => ("HopBeams$LegalSets", "isLegal", "[Z", true)
  | 1 => ("HopBeams$LegalSets", "list", "[I", true)
  | 2 => ("HopBeams$LegalSets", "size", "I", false)
  | _ => ("HopBeams$LegalSets", "sums", "[I", true)
def tyX3 : Nat → FieldType := fun k => match k with
  | 0 => .array .boolean
  | 1 => .array .int
  | 2 => .int
  | _ => .array .int
abbrev wsX30 : List Cond := u_ws RX3 TX3 4
theorem nmX3 : ∀ a, a < 4 → ∀ b, b < 4 → a ≠ b → (TX3 a).2.1 ≠ (TX3 b).2.1 := by decide +kernel
theorem tyX3_ok : ∀ k, k < 4 → parseFieldDescriptor (TX3 k).2.2.1 = some (tyX3 k) := by decide +kernel
abbrev cX3_init : ByteArray := prog_5_method_1_code
def yX3_init : MethodName := ⟨RX3, "<init>", "()V"⟩
abbrev cX3_find : ByteArray := prog_5_method_2_code
def yX3_find : MethodName := ⟨RX3, "find", "(LHopBeams$Land;)V"⟩
abbrev cX3_has : ByteArray := prog_5_method_3_code
def yX3_has : MethodName := ⟨RX3, "has", "(I)Z"⟩
abbrev cX3_worthiest : ByteArray := prog_5_method_4_code
def yX3_worthiest : MethodName := ⟨RX3, "worthiest", "([I)I"⟩
abbrev cX3_roomBeside : ByteArray := prog_5_method_5_code
def yX3_roomBeside : MethodName := ⟨RX3, "roomBeside", "(I)I"⟩
def RX4 : String := "HopBeams$Search"
def TX4 : u_T := fun k => match k with
  | 0 => ("HopBeams$Search", "states", "[J", true)
  | 1 => ("HopBeams$Search", "steps", "[I", true)
  | 2 => ("HopBeams$Search", "size", "I", false)
  | 3 => ("HopBeams$Search", "table", "[I", true)
  | 4 => ("HopBeams$Search", "beside", "[I", true)
  | 5 => ("HopBeams$Search", "given", "[J", true)
  | 6 => ("HopBeams$Search", "widest", "[I", true)
  | 7 => ("HopBeams$Search", "widestSize", "I", false)
  | 8 => ("HopBeams$Search", "widestOf", "I", false)
  | _ => ("HopBeams$Search", "lastStep", "I", false)
def tyX4 : Nat → FieldType := fun k => match k with
  | 0 => .array .long
  | 1 => .array .int
  | 2 => .int
  | 3 => .array .int
  | 4 => .array .int
  | 5 => .array .long
  | 6 => .array .int
  | 7 => .int
  | 8 => .int
  | _ => .int
abbrev wsX40 : List Cond := u_ws RX4 TX4 10
theorem nmX4 : ∀ a, a < 10 → ∀ b, b < 10 → a ≠ b → (TX4 a).2.1 ≠ (TX4 b).2.1 := by decide +kernel
theorem tyX4_ok : ∀ k, k < 10 → parseFieldDescriptor (TX4 k).2.2.1 = some (tyX4 k) := by decide +kernel
abbrev cX4_init : ByteArray := prog_6_method_1_code
def yX4_init : MethodName := ⟨RX4, "<init>", "()V"⟩
abbrev cX4_reachesEnd : ByteArray := prog_6_method_2_code
def yX4_reachesEnd : MethodName := ⟨RX4, "reachesEnd", "(LHopBeams$LegalSets;J)Z"⟩
abbrev cX4_prepare : ByteArray := prog_6_method_3_code
def yX4_prepare : MethodName := ⟨RX4, "prepare", "(LHopBeams$LegalSets;)V"⟩
abbrev cX4_onceEach : ByteArray := prog_6_method_4_code
def yX4_onceEach : MethodName := ⟨RX4, "onceEach", "(I)J"⟩
abbrev cX4_lacking : ByteArray := prog_6_method_5_code
def yX4_lacking : MethodName := ⟨RX4, "lacking", "(J)I"⟩
abbrev cX4_chooseWidest : ByteArray := prog_6_method_6_code
def yX4_chooseWidest : MethodName := ⟨RX4, "chooseWidest", "(LHopBeams$LegalSets;I)V"⟩
abbrev cX4_spotOf : ByteArray := prog_6_method_7_code
def yX4_spotOf : MethodName := ⟨RX4, "spotOf", "(J)I"⟩
abbrev cX4_remember : ByteArray := prog_6_method_8_code
def yX4_remember : MethodName := ⟨RX4, "remember", "(JII)V"⟩
abbrev cX4_tellRow : ByteArray := prog_6_method_9_code
def yX4_tellRow : MethodName := ⟨RX4, "tellRow", "(LHopBeams$Frame;)V"⟩
def RX5 : String := "HopBeams$Shelf"
def TX5 : u_T := fun k => match k with
  | 0 => ("HopBeams$Shelf", "numbers", "[[J", true)
  | 1 => ("HopBeams$Shelf", "widths", "[I", true)
  | _ => ("HopBeams$Shelf", "lengths", "[I", true)
def tyX5 : Nat → FieldType := fun k => match k with
  | 0 => .array (.array .long)
  | 1 => .array .int
  | _ => .array .int
abbrev wsX50 : List Cond := u_ws RX5 TX5 3
theorem nmX5 : ∀ a, a < 3 → ∀ b, b < 3 → a ≠ b → (TX5 a).2.1 ≠ (TX5 b).2.1 := by decide +kernel
theorem tyX5_ok : ∀ k, k < 3 → parseFieldDescriptor (TX5 k).2.2.1 = some (tyX5 k) := by decide +kernel
abbrev cX5_init : ByteArray := prog_7_method_1_code
def yX5_init : MethodName := ⟨RX5, "<init>", "()V"⟩
abbrev cX5_isPlace : ByteArray := prog_7_method_2_code
def yX5_isPlace : MethodName := ⟨RX5, "isPlace", "(I)Z"⟩
abbrev cX5_lengthOf : ByteArray := prog_7_method_3_code
def yX5_lengthOf : MethodName := ⟨RX5, "lengthOf", "(I)I"⟩
abbrev cX5_number : ByteArray := prog_7_method_4_code
def yX5_number : MethodName := ⟨RX5, "number", "(II)J"⟩
abbrev cX5_placesWithRow : ByteArray := prog_7_method_5_code
def yX5_placesWithRow : MethodName := ⟨RX5, "placesWithRow", "()I"⟩
abbrev cX5_refusal : ByteArray := prog_7_method_6_code
def yX5_refusal : MethodName := ⟨RX5, "refusal", "(III)I"⟩
abbrev cX5_areWithin : ByteArray := prog_7_method_7_code
def yX5_areWithin : MethodName := ⟨RX5, "areWithin", "(III)Z"⟩
abbrev cX5_lay : ByteArray := prog_7_method_8_code
def yX5_lay : MethodName := ⟨RX5, "lay", "(III)I"⟩
abbrev cX5_clear : ByteArray := prog_7_method_9_code
def yX5_clear : MethodName := ⟨RX5, "clear", "(I)Z"⟩
abbrev cX5_put : ByteArray := prog_7_method_10_code
def yX5_put : MethodName := ⟨RX5, "put", "(IIJ)I"⟩
abbrev cX5_cut : ByteArray := prog_7_method_11_code
def yX5_cut : MethodName := ⟨RX5, "cut", "(JI)J"⟩
abbrev cX5_copy : ByteArray := prog_7_method_12_code
def yX5_copy : MethodName := ⟨RX5, "copy", "(IIIII)I"⟩
def RX6 : String := "HopBeams$Tally"
def TX6 : u_T := fun k => match k with
  | 0 => ("HopBeams$Tally", "within", "[I", true)
  | 1 => ("HopBeams$Tally", "times", "[I", true)
  | 2 => ("HopBeams$Tally", "power", "[J", true)
  | 3 => ("HopBeams$Tally", "total", "[J", true)
  | _ => ("HopBeams$Tally", "digits", "[B", true)
def tyX6 : Nat → FieldType := fun k => match k with
  | 0 => .array .int
  | 1 => .array .int
  | 2 => .array .long
  | 3 => .array .long
  | _ => .array .byte
abbrev wsX60 : List Cond := u_ws RX6 TX6 5
theorem nmX6 : ∀ a, a < 5 → ∀ b, b < 5 → a ≠ b → (TX6 a).2.1 ≠ (TX6 b).2.1 := by decide +kernel
theorem tyX6_ok : ∀ k, k < 5 → parseFieldDescriptor (TX6 k).2.2.1 = some (tyX6 k) := by decide +kernel
abbrev cX6_init : ByteArray := prog_8_method_1_code
def yX6_init : MethodName := ⟨RX6, "<init>", "()V"⟩
abbrev cX6_countRows : ByteArray := prog_8_method_2_code
def yX6_countRows : MethodName := ⟨RX6, "countRows", "(LHopBeams$LegalSets;II)V"⟩
abbrev cX6_countWithin : ByteArray := prog_8_method_3_code
def yX6_countWithin : MethodName := ⟨RX6, "countWithin", "(LHopBeams$LegalSets;I)V"⟩
abbrev cX6_raise : ByteArray := prog_8_method_4_code
def yX6_raise : MethodName := ⟨RX6, "raise", "(II)V"⟩
abbrev cX6_addPower : ByteArray := prog_8_method_5_code
def yX6_addPower : MethodName := ⟨RX6, "addPower", "(I)V"⟩
abbrev cX6_carry : ByteArray := prog_8_method_6_code
def yX6_carry : MethodName := ⟨RX6, "carry", "()V"⟩
abbrev cX6_writeDigits : ByteArray := prog_8_method_7_code
def yX6_writeDigits : MethodName := ⟨RX6, "writeDigits", "()V"⟩
abbrev cX6_digitsUsed : ByteArray := prog_8_method_8_code
def yX6_digitsUsed : MethodName := ⟨RX6, "digitsUsed", "()I"⟩
abbrev cX6_digitAt : ByteArray := prog_8_method_9_code
def yX6_digitAt : MethodName := ⟨RX6, "digitAt", "(I)I"⟩
def RX7 : String := "HopBeams"
def TX7 : u_T := fun k => match k with
  | 0 => ("HopBeams", "land", "LHopBeams$Land;", true)
  | 1 => ("HopBeams", "legalSets", "LHopBeams$LegalSets;", true)
  | 2 => ("HopBeams", "shelf", "LHopBeams$Shelf;", true)
  | 3 => ("HopBeams", "inUse", "LHopBeams$Frame;", true)
  | 4 => ("HopBeams", "search", "LHopBeams$Search;", false)
  | 5 => ("HopBeams", "tally", "LHopBeams$Tally;", false)
  | 6 => ("HopBeams", "worth", "[I", true)
  | 7 => ("HopBeams", "ruleNow", "I", false)
  | 8 => ("HopBeams", "slot", "I", false)
  | 9 => ("HopBeams", "litLast", "I", false)
  | _ => ("HopBeams", "statesMet", "I", false)
def tyX7 : Nat → FieldType := fun k => match k with
  | 0 => .object "HopBeams$Land"
  | 1 => .object "HopBeams$LegalSets"
  | 2 => .object "HopBeams$Shelf"
  | 3 => .object "HopBeams$Frame"
  | 4 => .object "HopBeams$Search"
  | 5 => .object "HopBeams$Tally"
  | 6 => .array .int
  | 7 => .int
  | 8 => .int
  | 9 => .int
  | _ => .int
abbrev wsX70 : List Cond := u_ws RX7 TX7 11
theorem nmX7 : ∀ a, a < 11 → ∀ b, b < 11 → a ≠ b → (TX7 a).2.1 ≠ (TX7 b).2.1 := by decide +kernel
theorem tyX7_ok : ∀ k, k < 11 → parseFieldDescriptor (TX7 k).2.2.1 = some (tyX7 k) := by decide +kernel
abbrev cX7_init : ByteArray := prog_1_method_1_code
def yX7_init : MethodName := ⟨RX7, "<init>", "()V"⟩
abbrev cX7_terms : ByteArray := prog_1_method_2_code
def yX7_terms : MethodName := ⟨RX7, "terms", "(IIII)I"⟩
abbrev cX7_cell : ByteArray := prog_1_method_3_code
def yX7_cell : MethodName := ⟨RX7, "cell", "(IIII)I"⟩
abbrev cX7_forbid : ByteArray := prog_1_method_4_code
def yX7_forbid : MethodName := ⟨RX7, "forbid", "(IIZ)Z"⟩
abbrev cX7_rain : ByteArray := prog_1_method_5_code
def yX7_rain : MethodName := ⟨RX7, "rain", "(II)I"⟩
abbrev cX7_gateway : ByteArray := prog_1_method_6_code
def yX7_gateway : MethodName := ⟨RX7, "gateway", "(IIZ)I"⟩
abbrev cX7_swap : ByteArray := prog_1_method_7_code
def yX7_swap : MethodName := ⟨RX7, "swap", "(II)I"⟩
abbrev cX7_needs : ByteArray := prog_1_method_8_code
def yX7_needs : MethodName := ⟨RX7, "needs", "(I)I"⟩
abbrev cX7_asks : ByteArray := prog_1_method_9_code
def yX7_asks : MethodName := ⟨RX7, "asks", "(I)I"⟩
abbrev cX7_legal : ByteArray := prog_1_method_10_code
def yX7_legal : MethodName := ⟨RX7, "legal", "(I)I"⟩
abbrev cX7_sets : ByteArray := prog_1_method_11_code
def yX7_sets : MethodName := ⟨RX7, "sets", "()I"⟩
abbrev cX7_fewest : ByteArray := prog_1_method_12_code
def yX7_fewest : MethodName := ⟨RX7, "fewest", "()I"⟩
abbrev cX7_frame : ByteArray := prog_1_method_13_code
def yX7_frame : MethodName := ⟨RX7, "frame", "(I)I"⟩
abbrev cX7_frameOf : ByteArray := prog_1_method_14_code
def yX7_frameOf : MethodName := ⟨RX7, "frameOf", "(I)I"⟩
abbrev cX7_proof : ByteArray := prog_1_method_15_code
def yX7_proof : MethodName := ⟨RX7, "proof", "(I)J"⟩
abbrev cX7_ways : ByteArray := prog_1_method_16_code
def yX7_ways : MethodName := ⟨RX7, "ways", "(I)I"⟩
abbrev cX7_digit : ByteArray := prog_1_method_17_code
def yX7_digit : MethodName := ⟨RX7, "digit", "(I)I"⟩
abbrev cX7_rule : ByteArray := prog_1_method_18_code
def yX7_rule : MethodName := ⟨RX7, "rule", "(I)I"⟩
abbrev cX7_go : ByteArray := prog_1_method_19_code
def yX7_go : MethodName := ⟨RX7, "go", "(I)I"⟩
abbrev cX7_lit : ByteArray := prog_1_method_20_code
def yX7_lit : MethodName := ⟨RX7, "lit", "()I"⟩
abbrev cX7_cellOf : ByteArray := prog_1_method_21_code
def yX7_cellOf : MethodName := ⟨RX7, "cellOf", "(II)I"⟩
abbrev cX7_units : ByteArray := prog_1_method_22_code
def yX7_units : MethodName := ⟨RX7, "units", "(II)J"⟩
abbrev cX7_count : ByteArray := prog_1_method_23_code
def yX7_count : MethodName := ⟨RX7, "count", "(I)I"⟩
abbrev cX7_gatewayOf : ByteArray := prog_1_method_24_code
def yX7_gatewayOf : MethodName := ⟨RX7, "gatewayOf", "(II)I"⟩
abbrev cX7_row : ByteArray := prog_1_method_25_code
def yX7_row : MethodName := ⟨RX7, "row", "(III)I"⟩
abbrev cX7_tear : ByteArray := prog_1_method_26_code
def yX7_tear : MethodName := ⟨RX7, "tear", "(I)Z"⟩
abbrev cX7_write : ByteArray := prog_1_method_27_code
def yX7_write : MethodName := ⟨RX7, "write", "(IIJ)I"⟩
abbrev cX7_paste : ByteArray := prog_1_method_28_code
def yX7_paste : MethodName := ⟨RX7, "paste", "(IIIII)I"⟩
abbrev cX7_passSlot : ByteArray := prog_1_method_29_code
def yX7_passSlot : MethodName := ⟨RX7, "passSlot", "()V"⟩
abbrev cX7_setOfFrame : ByteArray := prog_1_method_30_code
def yX7_setOfFrame : MethodName := ⟨RX7, "setOfFrame", "()I"⟩
abbrev cX7_heaviestSet : ByteArray := prog_1_method_31_code
def yX7_heaviestSet : MethodName := ⟨RX7, "heaviestSet", "()I"⟩
abbrev cX7_isWithin : ByteArray := prog_1_method_32_code
def yX7_isWithin : MethodName := ⟨RX7, "isWithin", "(JJJ)Z"⟩
abbrev cX7_isGateway : ByteArray := prog_1_method_33_code
def yX7_isGateway : MethodName := ⟨RX7, "isGateway", "(I)Z"⟩
abbrev cX7_contains : ByteArray := prog_1_method_34_code
def yX7_contains : MethodName := ⟨RX7, "contains", "(II)Z"⟩
def RX8 : String := "HopBeamsModel"
def TX8 : u_T := fun k => match k with
  | 0 => ("HopBeamsModel", "thrown", "I", false)
  | 1 => ("HopBeamsModel", "width", "[I", true)
  | 2 => ("HopBeamsModel", "size", "[I", true)
  | 3 => ("HopBeamsModel", "numbers", "[J", true)
  | 4 => ("HopBeamsModel", "moved", "[J", true)
  | 5 => ("HopBeamsModel", "cells", "I", false)
  | 6 => ("HopBeamsModel", "beams", "I", false)
  | 7 => ("HopBeamsModel", "limit", "I", false)
  | 8 => ("HopBeamsModel", "latest", "I", false)
  | 9 => ("HopBeamsModel", "hand", "I", false)
  | 10 => ("HopBeamsModel", "slot", "I", false)
  | 11 => ("HopBeamsModel", "rule", "I", false)
  | 12 => ("HopBeamsModel", "lit", "I", false)
  | 13 => ("HopBeamsModel", "frames", "I", false)
  | 14 => ("HopBeamsModel", "states", "I", false)
  | 15 => ("HopBeamsModel", "power", "[I", true)
  | 16 => ("HopBeamsModel", "rate", "[I", true)
  | 17 => ("HopBeamsModel", "rank", "[I", true)
  | 18 => ("HopBeamsModel", "gate", "[I", true)
  | 19 => ("HopBeamsModel", "handed", "[I", true)
  | 20 => ("HopBeamsModel", "need", "[I", true)
  | 21 => ("HopBeamsModel", "ask", "[I", true)
  | 22 => ("HopBeamsModel", "rain", "[I", true)
  | 23 => ("HopBeamsModel", "forbidden", "[I", true)
  | 24 => ("HopBeamsModel", "gap", "[I", true)
  | 25 => ("HopBeamsModel", "longest", "[I", true)
  | 26 => ("HopBeamsModel", "times", "[I", true)
  | 27 => ("HopBeamsModel", "room", "[I", true)
  | 28 => ("HopBeamsModel", "isUp", "[Z", true)
  | 29 => ("HopBeamsModel", "frame", "[I", true)
  | 30 => ("HopBeamsModel", "waits", "[I", true)
  | 31 => ("HopBeamsModel", "came", "[J", true)
  | 32 => ("HopBeamsModel", "sent", "[J", true)
  | 33 => ("HopBeamsModel", "lost", "[J", true)
  | 34 => ("HopBeamsModel", "lacks", "[I", true)
  | 35 => ("HopBeamsModel", "sum", "[I", true)
  | 36 => ("HopBeamsModel", "from", "[I", true)
  | 37 => ("HopBeamsModel", "by", "[I", true)
  | 38 => ("HopBeamsModel", "next", "[I", true)
  | 39 => ("HopBeamsModel", "heads", "[I", true)
  | 40 => ("HopBeamsModel", "alike", "[I", true)
  | 41 => ("HopBeamsModel", "legalNow", "[Z", true)
  | 42 => ("HopBeamsModel", "plus", "[I", true)
  | 43 => ("HopBeamsModel", "minus", "[I", true)
  | 44 => ("HopBeamsModel", "times0", "[I", true)
  | 45 => ("HopBeamsModel", "digits", "[I", true)
  | 46 => ("HopBeamsModel", "digitMany", "I", false)
  | _ => ("HopBeamsModel", "could", "[I", true)
def tyX8 : Nat → FieldType := fun k => match k with
  | 0 => .int
  | 1 => .array .int
  | 2 => .array .int
  | 3 => .array .long
  | 4 => .array .long
  | 5 => .int
  | 6 => .int
  | 7 => .int
  | 8 => .int
  | 9 => .int
  | 10 => .int
  | 11 => .int
  | 12 => .int
  | 13 => .int
  | 14 => .int
  | 15 => .array .int
  | 16 => .array .int
  | 17 => .array .int
  | 18 => .array .int
  | 19 => .array .int
  | 20 => .array .int
  | 21 => .array .int
  | 22 => .array .int
  | 23 => .array .int
  | 24 => .array .int
  | 25 => .array .int
  | 26 => .array .int
  | 27 => .array .int
  | 28 => .array .boolean
  | 29 => .array .int
  | 30 => .array .int
  | 31 => .array .long
  | 32 => .array .long
  | 33 => .array .long
  | 34 => .array .int
  | 35 => .array .int
  | 36 => .array .int
  | 37 => .array .int
  | 38 => .array .int
  | 39 => .array .int
  | 40 => .array .int
  | 41 => .array .boolean
  | 42 => .array .int
  | 43 => .array .int
  | 44 => .array .int
  | 45 => .array .int
  | 46 => .int
  | _ => .array .int
abbrev wsX80 : List Cond := u_ws RX8 TX8 48
theorem nmX8 : ∀ a, a < 48 → ∀ b, b < 48 → a ≠ b → (TX8 a).2.1 ≠ (TX8 b).2.1 := by decide +kernel
theorem tyX8_ok : ∀ k, k < 48 → parseFieldDescriptor (TX8 k).2.2.1 = some (tyX8 k) := by decide +kernel
abbrev cX8_init : ByteArray := prog_10_method_1_code
def yX8_init : MethodName := ⟨RX8, "<init>", "()V"⟩
abbrev cX8_in : ByteArray := prog_10_method_3_code
def yX8_in : MethodName := ⟨RX8, "in", "(JJJ)Z"⟩
abbrev cX8_isPlace : ByteArray := prog_10_method_4_code
def yX8_isPlace : MethodName := ⟨RX8, "isPlace", "(I)Z"⟩
abbrev cX8_cut : ByteArray := prog_10_method_5_code
def yX8_cut : MethodName := ⟨RX8, "cut", "(IJ)J"⟩
abbrev cX8_row : ByteArray := prog_10_method_6_code
def yX8_row : MethodName := ⟨RX8, "row", "(III)I"⟩
abbrev cX8_tear : ByteArray := prog_10_method_7_code
def yX8_tear : MethodName := ⟨RX8, "tear", "(I)Z"⟩
abbrev cX8_write : ByteArray := prog_10_method_8_code
def yX8_write : MethodName := ⟨RX8, "write", "(IIJ)I"⟩
abbrev cX8_paste : ByteArray := prog_10_method_9_code
def yX8_paste : MethodName := ⟨RX8, "paste", "(IIIII)I"⟩
abbrev cX8_refuses : ByteArray := prog_10_method_10_code
def yX8_refuses : MethodName := ⟨RX8, "refuses", "(IJ)I"⟩
abbrev cX8_terms : ByteArray := prog_10_method_11_code
def yX8_terms : MethodName := ⟨RX8, "terms", "(IIII)I"⟩
abbrev cX8_cell : ByteArray := prog_10_method_12_code
def yX8_cell : MethodName := ⟨RX8, "cell", "(IIII)I"⟩
abbrev cX8_isCell : ByteArray := prog_10_method_13_code
def yX8_isCell : MethodName := ⟨RX8, "isCell", "(I)Z"⟩
abbrev cX8_isGate : ByteArray := prog_10_method_14_code
def yX8_isGate : MethodName := ⟨RX8, "isGate", "(I)Z"⟩
abbrev cX8_isSet : ByteArray := prog_10_method_15_code
def yX8_isSet : MethodName := ⟨RX8, "isSet", "(J)Z"⟩
abbrev cX8_forbid : ByteArray := prog_10_method_16_code
def yX8_forbid : MethodName := ⟨RX8, "forbid", "(IIZ)Z"⟩
abbrev cX8_rain : ByteArray := prog_10_method_17_code
def yX8_rain : MethodName := ⟨RX8, "rain", "(II)I"⟩
abbrev cX8_gateway : ByteArray := prog_10_method_18_code
def yX8_gateway : MethodName := ⟨RX8, "gateway", "(IIZ)I"⟩
abbrev cX8_swap : ByteArray := prog_10_method_19_code
def yX8_swap : MethodName := ⟨RX8, "swap", "(II)I"⟩
abbrev cX8_total : ByteArray := prog_10_method_20_code
def yX8_total : MethodName := ⟨RX8, "total", "([I)I"⟩
abbrev cX8_needs : ByteArray := prog_10_method_21_code
def yX8_needs : MethodName := ⟨RX8, "needs", "(I)I"⟩
abbrev cX8_asks : ByteArray := prog_10_method_22_code
def yX8_asks : MethodName := ⟨RX8, "asks", "(I)I"⟩
abbrev cX8_powerNow : ByteArray := prog_10_method_23_code
def yX8_powerNow : MethodName := ⟨RX8, "powerNow", "(I)I"⟩
abbrev cX8_rateNow : ByteArray := prog_10_method_24_code
def yX8_rateNow : MethodName := ⟨RX8, "rateNow", "(I)I"⟩
abbrev cX8_isLegal : ByteArray := prog_10_method_25_code
def yX8_isLegal : MethodName := ⟨RX8, "isLegal", "(I)Z"⟩
abbrev cX8_legal : ByteArray := prog_10_method_26_code
def yX8_legal : MethodName := ⟨RX8, "legal", "(I)I"⟩
abbrev cX8_sets : ByteArray := prog_10_method_27_code
def yX8_sets : MethodName := ⟨RX8, "sets", "()I"⟩
abbrev cX8_isWhole : ByteArray := prog_10_method_28_code
def yX8_isWhole : MethodName := ⟨RX8, "isWhole", "(II)Z"⟩
abbrev cX8_sumOf : ByteArray := prog_10_method_29_code
def yX8_sumOf : MethodName := ⟨RX8, "sumOf", "()I"⟩
abbrev cX8_isNew : ByteArray := prog_10_method_30_code
def yX8_isNew : MethodName := ⟨RX8, "isNew", "(I)Z"⟩
abbrev cX8_lays : ByteArray := prog_10_method_31_code
def yX8_lays : MethodName := ⟨RX8, "lays", "(III)V"⟩
abbrev cX8_told : ByteArray := prog_10_method_32_code
def yX8_told : MethodName := ⟨RX8, "told", "(II)I"⟩
abbrev cX8_fewest : ByteArray := prog_10_method_33_code
def yX8_fewest : MethodName := ⟨RX8, "fewest", "()I"⟩
abbrev cX8_frame : ByteArray := prog_10_method_34_code
def yX8_frame : MethodName := ⟨RX8, "frame", "(I)I"⟩
abbrev cX8_frameOf : ByteArray := prog_10_method_35_code
def yX8_frameOf : MethodName := ⟨RX8, "frameOf", "(I)I"⟩
abbrev cX8_proof : ByteArray := prog_10_method_36_code
def yX8_proof : MethodName := ⟨RX8, "proof", "(I)J"⟩
abbrev cX8_adds : ByteArray := prog_10_method_37_code
def yX8_adds : MethodName := ⟨RX8, "adds", "([I[I)V"⟩
abbrev cX8_multiplies : ByteArray := prog_10_method_38_code
def yX8_multiplies : MethodName := ⟨RX8, "multiplies", "([II)V"⟩
abbrev cX8_ways : ByteArray := prog_10_method_39_code
def yX8_ways : MethodName := ⟨RX8, "ways", "(I)I"⟩
abbrev cX8_digit : ByteArray := prog_10_method_40_code
def yX8_digit : MethodName := ⟨RX8, "digit", "(I)I"⟩
abbrev cX8_rule : ByteArray := prog_10_method_41_code
def yX8_rule : MethodName := ⟨RX8, "rule", "(I)I"⟩
abbrev cX8_waiting : ByteArray := prog_10_method_42_code
def yX8_waiting : MethodName := ⟨RX8, "waiting", "(I)I"⟩
abbrev cX8_byFrame : ByteArray := prog_10_method_43_code
def yX8_byFrame : MethodName := ⟨RX8, "byFrame", "()I"⟩
abbrev cX8_byWeight : ByteArray := prog_10_method_44_code
def yX8_byWeight : MethodName := ⟨RX8, "byWeight", "()I"⟩
abbrev cX8_sends : ByteArray := prog_10_method_45_code
def yX8_sends : MethodName := ⟨RX8, "sends", "(I)V"⟩
abbrev cX8_goesBy : ByteArray := prog_10_method_46_code
def yX8_goesBy : MethodName := ⟨RX8, "goesBy", "()V"⟩
abbrev cX8_go : ByteArray := prog_10_method_47_code
def yX8_go : MethodName := ⟨RX8, "go", "(I)I"⟩
abbrev cX8_lit : ByteArray := prog_10_method_48_code
def yX8_lit : MethodName := ⟨RX8, "lit", "()I"⟩
abbrev cX8_cellOf : ByteArray := prog_10_method_49_code
def yX8_cellOf : MethodName := ⟨RX8, "cellOf", "(II)I"⟩
abbrev cX8_units : ByteArray := prog_10_method_50_code
def yX8_units : MethodName := ⟨RX8, "units", "(II)J"⟩
abbrev cX8_count : ByteArray := prog_10_method_51_code
def yX8_count : MethodName := ⟨RX8, "count", "(I)I"⟩
abbrev cX8_gatewayOf : ByteArray := prog_10_method_52_code
def yX8_gatewayOf : MethodName := ⟨RX8, "gatewayOf", "(II)I"⟩
def RJ6 : String := "java/lang/Integer"
def TJ6 : u_T := fun k => match k with
  | _ => ("", "", "", false)
def tyJ6 : Nat → FieldType := fun k => match k with
  | _ => .int
abbrev wsJ60 : List Cond := u_ws RJ6 TJ6 0
theorem nmJ6 : ∀ a, a < 0 → ∀ b, b < 0 → a ≠ b → (TJ6 a).2.1 ≠ (TJ6 b).2.1 := by decide +kernel
theorem tyJ6_ok : ∀ k, k < 0 → parseFieldDescriptor (TJ6 k).2.2.1 = some (tyJ6 k) := by decide +kernel
abbrev cJ6_bitCount_0f7a4 : ByteArray := prog_11_method_49_code
def yJ6_bitCount_0f7a4 : MethodName := ⟨RJ6, "bitCount", "(I)I"⟩
def RJ9 : String := "java/lang/Math"
def TJ9 : u_T := fun k => match k with
  | _ => ("", "", "", false)
def tyJ9 : Nat → FieldType := fun k => match k with
  | _ => .int
abbrev wsJ90 : List Cond := u_ws RJ9 TJ9 0
theorem nmJ9 : ∀ a, a < 0 → ∀ b, b < 0 → a ≠ b → (TJ9 a).2.1 ≠ (TJ9 b).2.1 := by decide +kernel
theorem tyJ9_ok : ∀ k, k < 0 → parseFieldDescriptor (TJ9 k).2.2.1 = some (tyJ9 k) := by decide +kernel
abbrev cJ9_floorDiv_f86c9 : ByteArray := prog_12_method_49_code
def yJ9_floorDiv_f86c9 : MethodName := ⟨RJ9, "floorDiv", "(JJ)J"⟩
abbrev cJ9_floorMod_f86c9 : ByteArray := prog_12_method_52_code
def yJ9_floorMod_f86c9 : MethodName := ⟨RJ9, "floorMod", "(JJ)J"⟩
abbrev cJ9_max_7cf53 : ByteArray := prog_12_method_65_code
def yJ9_max_7cf53 : MethodName := ⟨RJ9, "max", "(II)I"⟩
abbrev cJ9_max_f86c9 : ByteArray := prog_12_method_66_code
def yJ9_max_f86c9 : MethodName := ⟨RJ9, "max", "(JJ)J"⟩
abbrev cJ9_min_7cf53 : ByteArray := prog_12_method_69_code
def yJ9_min_7cf53 : MethodName := ⟨RJ9, "min", "(II)I"⟩
def RJ10 : String := "java/lang/System"
def TJ10 : u_T := fun k => match k with
  | _ => ("", "", "", false)
def tyJ10 : Nat → FieldType := fun k => match k with
  | _ => .int
abbrev wsJ100 : List Cond := u_ws RJ10 TJ10 0
theorem nmJ10 : ∀ a, a < 0 → ∀ b, b < 0 → a ≠ b → (TJ10 a).2.1 ≠ (TJ10 b).2.1 := by decide +kernel
theorem tyJ10_ok : ∀ k, k < 0 → parseFieldDescriptor (TJ10 k).2.2.1 = some (tyJ10 k) := by decide +kernel
def RJ7 : String := "java/util/Arrays"
def TJ7 : u_T := fun k => match k with
  | _ => ("", "", "", false)
def tyJ7 : Nat → FieldType := fun k => match k with
  | _ => .int
abbrev wsJ70 : List Cond := u_ws RJ7 TJ7 0
theorem nmJ7 : ∀ a, a < 0 → ∀ b, b < 0 → a ≠ b → (TJ7 a).2.1 ≠ (TJ7 b).2.1 := by decide +kernel
theorem tyJ7_ok : ∀ k, k < 0 → parseFieldDescriptor (TJ7 k).2.2.1 = some (tyJ7 k) := by decide +kernel
abbrev cJ7_fill_d0a16 : ByteArray := prog_14_method_101_code
def yJ7_fill_d0a16 : MethodName := ⟨RJ7, "fill", "([JJ)V"⟩
abbrev cJ7_fill_53178 : ByteArray := prog_14_method_103_code
def yJ7_fill_53178 : MethodName := ⟨RJ7, "fill", "([II)V"⟩
def RL : String := "HopBeamsLaw"
abbrev cL_law : ByteArray := code
def yL_law : MethodName := ⟨RL, "law", "([I)Z"⟩
abbrev vwCl : List vw_C := [(RX0, TX0, 16), (RX1, TX1, 2), (RX2, TX2, 8), (RX3, TX3, 4), (RX4, TX4, 10), (RX5, TX5, 3), (RX6, TX6, 5), (RX7, TX7, 11), (RX8, TX8, 48)]
end
section
theorem dX0_init_0 : decode cX0_init 0 = .ok (.aload_n 0, 1) := by decide +kernel
theorem dX0_init_1 : decode cX0_init 1 = .ok (.invokespecial 3, 3) := by decide +kernel
theorem dX0_init_4 : decode cX0_init 4 = .ok (.aload_n 0, 1) := by decide +kernel
theorem dX0_init_5 : decode cX0_init 5 = .ok (.bipush 21, 2) := by decide +kernel
theorem dX0_init_7 : decode cX0_init 7 = .ok (.newarray .int, 2) := by decide +kernel
theorem dX0_init_9 : decode cX0_init 9 = .ok (.putfield 9, 3) := by decide +kernel
theorem dX0_init_12 : decode cX0_init 12 = .ok (.aload_n 0, 1) := by decide +kernel
theorem dX0_init_13 : decode cX0_init 13 = .ok (.iload_n 1, 1) := by decide +kernel
theorem dX0_init_14 : decode cX0_init 14 = .ok (.putfield 15, 3) := by decide +kernel
theorem dX0_init_17 : decode cX0_init 17 = .ok (.aload_n 0, 1) := by decide +kernel
theorem dX0_init_18 : decode cX0_init 18 = .ok (.iload_n 2, 1) := by decide +kernel
theorem dX0_init_19 : decode cX0_init 19 = .ok (.putfield 19, 3) := by decide +kernel
theorem dX0_init_22 : decode cX0_init 22 = .ok (.aload_n 0, 1) := by decide +kernel
theorem dX0_init_23 : decode cX0_init 23 = .ok (.iload_n 3, 1) := by decide +kernel
theorem dX0_init_24 : decode cX0_init 24 = .ok (.putfield 22, 3) := by decide +kernel
theorem dX0_init_27 : decode cX0_init 27 = .ok (.aload_n 0, 1) := by decide +kernel
theorem dX0_init_28 : decode cX0_init 28 = .ok (.iload 4, 2) := by decide +kernel
theorem dX0_init_30 : decode cX0_init 30 = .ok (.putfield 25, 3) := by decide +kernel
theorem dX0_init_33 : decode cX0_init 33 = .ok (.return_, 1) := by decide +kernel
theorem dX0_powerNow_0 : decode cX0_powerNow 0 = .ok (.aload_n 0, 1) := by decide +kernel
theorem dX0_powerNow_1 : decode cX0_powerNow 1 = .ok (.getfield 15, 3) := by decide +kernel
theorem dX0_powerNow_4 : decode cX0_powerNow 4 = .ok (.iconst 2, 1) := by decide +kernel
theorem dX0_powerNow_5 : decode cX0_powerNow 5 = .ok (.aload_n 0, 1) := by decide +kernel
theorem dX0_powerNow_6 : decode cX0_powerNow 6 = .ok (.getfield 28, 3) := by decide +kernel
theorem dX0_powerNow_9 : decode cX0_powerNow 9 = .ok (.iadd, 1) := by decide +kernel
theorem dX0_powerNow_10 : decode cX0_powerNow 10 = .ok (.imul, 1) := by decide +kernel
theorem dX0_powerNow_11 : decode cX0_powerNow 11 = .ok (.iconst 2, 1) := by decide +kernel
theorem dX0_powerNow_12 : decode cX0_powerNow 12 = .ok (.idiv, 1) := by decide +kernel
theorem dX0_powerNow_13 : decode cX0_powerNow 13 = .ok (.ireturn, 1) := by decide +kernel
theorem dX0_rateNow_0 : decode cX0_rateNow 0 = .ok (.aload_n 0, 1) := by decide +kernel
theorem dX0_rateNow_1 : decode cX0_rateNow 1 = .ok (.getfield 28, 3) := by decide +kernel
theorem dX0_rateNow_4 : decode cX0_rateNow 4 = .ok (.ifCond .ne 8, 3) := by decide +kernel
theorem dX0_rateNow_7 : decode cX0_rateNow 7 = .ok (.aload_n 0, 1) := by decide +kernel
theorem dX0_rateNow_8 : decode cX0_rateNow 8 = .ok (.getfield 19, 3) := by decide +kernel
theorem dX0_rateNow_11 : decode cX0_rateNow 11 = .ok (.ireturn, 1) := by decide +kernel
theorem dX0_rateNow_12 : decode cX0_rateNow 12 = .ok (.aload_n 0, 1) := by decide +kernel
theorem dX0_rateNow_13 : decode cX0_rateNow 13 = .ok (.getfield 28, 3) := by decide +kernel
theorem dX0_rateNow_16 : decode cX0_rateNow 16 = .ok (.iconst 1, 1) := by decide +kernel
theorem dX0_rateNow_17 : decode cX0_rateNow 17 = .ok (.if_icmp .ne 12, 3) := by decide +kernel
theorem dX0_rateNow_20 : decode cX0_rateNow 20 = .ok (.aload_n 0, 1) := by decide +kernel
theorem dX0_rateNow_21 : decode cX0_rateNow 21 = .ok (.getfield 19, 3) := by decide +kernel
theorem dX0_rateNow_24 : decode cX0_rateNow 24 = .ok (.iconst 2, 1) := by decide +kernel
theorem dX0_rateNow_25 : decode cX0_rateNow 25 = .ok (.idiv, 1) := by decide +kernel
theorem dX0_rateNow_26 : decode cX0_rateNow 26 = .ok (.goto 4, 3) := by decide +kernel
theorem dX0_rateNow_29 : decode cX0_rateNow 29 = .ok (.iconst 0, 1) := by decide +kernel
theorem dX0_rateNow_30 : decode cX0_rateNow 30 = .ok (.ireturn, 1) := by decide +kernel
theorem dX0_held_0 : decode cX0_held 0 = .ok (.aload_n 0, 1) := by decide +kernel
theorem dX0_held_1 : decode cX0_held 1 = .ok (.getfield 31, 3) := by decide +kernel
theorem dX0_held_4 : decode cX0_held 4 = .ok (.aload_n 0, 1) := by decide +kernel
theorem dX0_held_5 : decode cX0_held 5 = .ok (.getfield 35, 3) := by decide +kernel
theorem dX0_held_8 : decode cX0_held 8 = .ok (.lsub, 1) := by decide +kernel
theorem dX0_held_9 : decode cX0_held 9 = .ok (.aload_n 0, 1) := by decide +kernel
theorem dX0_held_10 : decode cX0_held 10 = .ok (.getfield 38, 3) := by decide +kernel
theorem dX0_held_13 : decode cX0_held 13 = .ok (.lsub, 1) := by decide +kernel
theorem dX0_held_14 : decode cX0_held 14 = .ok (.l2i, 1) := by decide +kernel
theorem dX0_held_15 : decode cX0_held 15 = .ok (.ireturn, 1) := by decide +kernel
theorem dX0_oldest_0 : decode cX0_oldest 0 = .ok (.bipush 20, 2) := by decide +kernel
theorem dX0_oldest_2 : decode cX0_oldest 2 = .ok (.istore_n 1, 1) := by decide +kernel
theorem dX0_oldest_3 : decode cX0_oldest 3 = .ok (.iload_n 1, 1) := by decide +kernel
theorem dX0_oldest_4 : decode cX0_oldest 4 = .ok (.ifCond .lt 20, 3) := by decide +kernel
theorem dX0_oldest_7 : decode cX0_oldest 7 = .ok (.aload_n 0, 1) := by decide +kernel
theorem dX0_oldest_8 : decode cX0_oldest 8 = .ok (.getfield 9, 3) := by decide +kernel
theorem dX0_oldest_11 : decode cX0_oldest 11 = .ok (.iload_n 1, 1) := by decide +kernel
theorem dX0_oldest_12 : decode cX0_oldest 12 = .ok (.iaload, 1) := by decide +kernel
theorem dX0_oldest_13 : decode cX0_oldest 13 = .ok (.ifCond .le 5, 3) := by decide +kernel
theorem dX0_oldest_16 : decode cX0_oldest 16 = .ok (.iload_n 1, 1) := by decide +kernel
theorem dX0_oldest_17 : decode cX0_oldest 17 = .ok (.ireturn, 1) := by decide +kernel
theorem dX0_oldest_18 : decode cX0_oldest 18 = .ok (.iinc 1 (-1), 3) := by decide +kernel
theorem dX0_oldest_21 : decode cX0_oldest 21 = .ok (.goto (-18), 3) := by decide +kernel
theorem dX0_oldest_24 : decode cX0_oldest 24 = .ok (.iconst (-1), 1) := by decide +kernel
theorem dX0_oldest_25 : decode cX0_oldest 25 = .ok (.ireturn, 1) := by decide +kernel
theorem dX0_weightIfLit_0 : decode cX0_weightIfLit 0 = .ok (.aload_n 0, 1) := by decide +kernel
theorem dX0_weightIfLit_1 : decode cX0_weightIfLit 1 = .ok (.getfield 22, 3) := by decide +kernel
theorem dX0_weightIfLit_4 : decode cX0_weightIfLit 4 = .ok (.aload_n 0, 1) := by decide +kernel
theorem dX0_weightIfLit_5 : decode cX0_weightIfLit 5 = .ok (.invokevirtual 41, 3) := by decide +kernel
theorem dX0_weightIfLit_8 : decode cX0_weightIfLit 8 = .ok (.aload_n 0, 1) := by decide +kernel
theorem dX0_weightIfLit_9 : decode cX0_weightIfLit 9 = .ok (.invokevirtual 45, 3) := by decide +kernel
theorem dX0_weightIfLit_12 : decode cX0_weightIfLit 12 = .ok (.invokestatic 48, 3) := by decide +kernel
theorem dX0_weightIfLit_15 : decode cX0_weightIfLit 15 = .ok (.imul, 1) := by decide +kernel
theorem dX0_weightIfLit_16 : decode cX0_weightIfLit 16 = .ok (.ireturn, 1) := by decide +kernel
theorem dX0_takeAsked_0 : decode cX0_takeAsked 0 = .ok (.aload_n 0, 1) := by decide +kernel
theorem dX0_takeAsked_1 : decode cX0_takeAsked 1 = .ok (.getfield 9, 3) := by decide +kernel
theorem dX0_takeAsked_4 : decode cX0_takeAsked 4 = .ok (.iconst 0, 1) := by decide +kernel
theorem dX0_takeAsked_5 : decode cX0_takeAsked 5 = .ok (.dup2, 1) := by decide +kernel
theorem dX0_takeAsked_6 : decode cX0_takeAsked 6 = .ok (.iaload, 1) := by decide +kernel
theorem dX0_takeAsked_7 : decode cX0_takeAsked 7 = .ok (.aload_n 0, 1) := by decide +kernel
theorem dX0_takeAsked_8 : decode cX0_takeAsked 8 = .ok (.getfield 54, 3) := by decide +kernel
theorem dX0_takeAsked_11 : decode cX0_takeAsked 11 = .ok (.iadd, 1) := by decide +kernel
theorem dX0_takeAsked_12 : decode cX0_takeAsked 12 = .ok (.iastore, 1) := by decide +kernel
theorem dX0_takeAsked_13 : decode cX0_takeAsked 13 = .ok (.aload_n 0, 1) := by decide +kernel
theorem dX0_takeAsked_14 : decode cX0_takeAsked 14 = .ok (.dup, 1) := by decide +kernel
theorem dX0_takeAsked_15 : decode cX0_takeAsked 15 = .ok (.getfield 31, 3) := by decide +kernel
theorem dX0_takeAsked_18 : decode cX0_takeAsked 18 = .ok (.aload_n 0, 1) := by decide +kernel
theorem dX0_takeAsked_19 : decode cX0_takeAsked 19 = .ok (.getfield 54, 3) := by decide +kernel
theorem dX0_takeAsked_22 : decode cX0_takeAsked 22 = .ok (.i2l, 1) := by decide +kernel
theorem dX0_takeAsked_23 : decode cX0_takeAsked 23 = .ok (.ladd, 1) := by decide +kernel
theorem dX0_takeAsked_24 : decode cX0_takeAsked 24 = .ok (.putfield 31, 3) := by decide +kernel
theorem dX0_takeAsked_27 : decode cX0_takeAsked 27 = .ok (.return_, 1) := by decide +kernel
theorem dX0_send_0 : decode cX0_send 0 = .ok (.aload_n 0, 1) := by decide +kernel
theorem dX0_send_1 : decode cX0_send 1 = .ok (.invokevirtual 45, 3) := by decide +kernel
theorem dX0_send_4 : decode cX0_send 4 = .ok (.istore_n 1, 1) := by decide +kernel
theorem dX0_send_5 : decode cX0_send 5 = .ok (.bipush 20, 2) := by decide +kernel
theorem dX0_send_7 : decode cX0_send 7 = .ok (.istore_n 2, 1) := by decide +kernel
theorem dX0_send_8 : decode cX0_send 8 = .ok (.iload_n 2, 1) := by decide +kernel
theorem dX0_send_9 : decode cX0_send 9 = .ok (.ifCond .lt 49, 3) := by decide +kernel
theorem dX0_send_12 : decode cX0_send 12 = .ok (.iload_n 1, 1) := by decide +kernel
theorem dX0_send_13 : decode cX0_send 13 = .ok (.ifCond .le 45, 3) := by decide +kernel
theorem dX0_send_16 : decode cX0_send 16 = .ok (.iload_n 1, 1) := by decide +kernel
theorem dX0_send_17 : decode cX0_send 17 = .ok (.aload_n 0, 1) := by decide +kernel
theorem dX0_send_18 : decode cX0_send 18 = .ok (.getfield 9, 3) := by decide +kernel
theorem dX0_send_21 : decode cX0_send 21 = .ok (.iload_n 2, 1) := by decide +kernel
theorem dX0_send_22 : decode cX0_send 22 = .ok (.iaload, 1) := by decide +kernel
theorem dX0_send_23 : decode cX0_send 23 = .ok (.invokestatic 48, 3) := by decide +kernel
theorem dX0_send_26 : decode cX0_send 26 = .ok (.istore_n 3, 1) := by decide +kernel
theorem dX0_send_27 : decode cX0_send 27 = .ok (.aload_n 0, 1) := by decide +kernel
theorem dX0_send_28 : decode cX0_send 28 = .ok (.getfield 9, 3) := by decide +kernel
theorem dX0_send_31 : decode cX0_send 31 = .ok (.iload_n 2, 1) := by decide +kernel
theorem dX0_send_32 : decode cX0_send 32 = .ok (.dup2, 1) := by decide +kernel
theorem dX0_send_33 : decode cX0_send 33 = .ok (.iaload, 1) := by decide +kernel
theorem dX0_send_34 : decode cX0_send 34 = .ok (.iload_n 3, 1) := by decide +kernel
theorem dX0_send_35 : decode cX0_send 35 = .ok (.isub, 1) := by decide +kernel
theorem dX0_send_36 : decode cX0_send 36 = .ok (.iastore, 1) := by decide +kernel
theorem dX0_send_37 : decode cX0_send 37 = .ok (.iload_n 1, 1) := by decide +kernel
theorem dX0_send_38 : decode cX0_send 38 = .ok (.iload_n 3, 1) := by decide +kernel
theorem dX0_send_39 : decode cX0_send 39 = .ok (.isub, 1) := by decide +kernel
theorem dX0_send_40 : decode cX0_send 40 = .ok (.istore_n 1, 1) := by decide +kernel
theorem dX0_send_41 : decode cX0_send 41 = .ok (.aload_n 0, 1) := by decide +kernel
theorem dX0_send_42 : decode cX0_send 42 = .ok (.dup, 1) := by decide +kernel
theorem dX0_send_43 : decode cX0_send 43 = .ok (.getfield 35, 3) := by decide +kernel
theorem dX0_send_46 : decode cX0_send 46 = .ok (.iload_n 3, 1) := by decide +kernel
theorem dX0_send_47 : decode cX0_send 47 = .ok (.i2l, 1) := by decide +kernel
theorem dX0_send_48 : decode cX0_send 48 = .ok (.ladd, 1) := by decide +kernel
theorem dX0_send_49 : decode cX0_send 49 = .ok (.putfield 35, 3) := by decide +kernel
theorem dX0_send_52 : decode cX0_send 52 = .ok (.iinc 2 (-1), 3) := by decide +kernel
theorem dX0_send_55 : decode cX0_send 55 = .ok (.goto (-47), 3) := by decide +kernel
theorem dX0_send_58 : decode cX0_send 58 = .ok (.return_, 1) := by decide +kernel
theorem dX0_growOlder_0 : decode cX0_growOlder 0 = .ok (.bipush 20, 2) := by decide +kernel
theorem dX0_growOlder_2 : decode cX0_growOlder 2 = .ok (.istore_n 2, 1) := by decide +kernel
theorem dX0_growOlder_3 : decode cX0_growOlder 3 = .ok (.iload_n 2, 1) := by decide +kernel
theorem dX0_growOlder_4 : decode cX0_growOlder 4 = .ok (.ifCond .le 23, 3) := by decide +kernel
theorem dX0_growOlder_7 : decode cX0_growOlder 7 = .ok (.aload_n 0, 1) := by decide +kernel
theorem dX0_growOlder_8 : decode cX0_growOlder 8 = .ok (.getfield 9, 3) := by decide +kernel
theorem dX0_growOlder_11 : decode cX0_growOlder 11 = .ok (.iload_n 2, 1) := by decide +kernel
theorem dX0_growOlder_12 : decode cX0_growOlder 12 = .ok (.aload_n 0, 1) := by decide +kernel
theorem dX0_growOlder_13 : decode cX0_growOlder 13 = .ok (.getfield 9, 3) := by decide +kernel
theorem dX0_growOlder_16 : decode cX0_growOlder 16 = .ok (.iload_n 2, 1) := by decide +kernel
theorem dX0_growOlder_17 : decode cX0_growOlder 17 = .ok (.iconst 1, 1) := by decide +kernel
theorem dX0_growOlder_18 : decode cX0_growOlder 18 = .ok (.isub, 1) := by decide +kernel
theorem dX0_growOlder_19 : decode cX0_growOlder 19 = .ok (.iaload, 1) := by decide +kernel
theorem dX0_growOlder_20 : decode cX0_growOlder 20 = .ok (.iastore, 1) := by decide +kernel
theorem dX0_growOlder_21 : decode cX0_growOlder 21 = .ok (.iinc 2 (-1), 3) := by decide +kernel
theorem dX0_growOlder_24 : decode cX0_growOlder 24 = .ok (.goto (-21), 3) := by decide +kernel
theorem dX0_growOlder_27 : decode cX0_growOlder 27 = .ok (.aload_n 0, 1) := by decide +kernel
theorem dX0_growOlder_28 : decode cX0_growOlder 28 = .ok (.getfield 9, 3) := by decide +kernel
theorem dX0_growOlder_31 : decode cX0_growOlder 31 = .ok (.iconst 0, 1) := by decide +kernel
theorem dX0_growOlder_32 : decode cX0_growOlder 32 = .ok (.iconst 0, 1) := by decide +kernel
theorem dX0_growOlder_33 : decode cX0_growOlder 33 = .ok (.iastore, 1) := by decide +kernel
theorem dX0_growOlder_34 : decode cX0_growOlder 34 = .ok (.bipush 20, 2) := by decide +kernel
theorem dX0_growOlder_36 : decode cX0_growOlder 36 = .ok (.istore_n 2, 1) := by decide +kernel
theorem dX0_growOlder_37 : decode cX0_growOlder 37 = .ok (.iload_n 2, 1) := by decide +kernel
theorem dX0_growOlder_38 : decode cX0_growOlder 38 = .ok (.iload_n 1, 1) := by decide +kernel
theorem dX0_growOlder_39 : decode cX0_growOlder 39 = .ok (.if_icmp .lt 36, 3) := by decide +kernel
theorem dX0_growOlder_42 : decode cX0_growOlder 42 = .ok (.iload_n 2, 1) := by decide +kernel
theorem dX0_growOlder_43 : decode cX0_growOlder 43 = .ok (.ifCond .lt 32, 3) := by decide +kernel
theorem dX0_growOlder_46 : decode cX0_growOlder 46 = .ok (.aload_n 0, 1) := by decide +kernel
theorem dX0_growOlder_47 : decode cX0_growOlder 47 = .ok (.dup, 1) := by decide +kernel
theorem dX0_growOlder_48 : decode cX0_growOlder 48 = .ok (.getfield 38, 3) := by decide +kernel
theorem dX0_growOlder_51 : decode cX0_growOlder 51 = .ok (.aload_n 0, 1) := by decide +kernel
theorem dX0_growOlder_52 : decode cX0_growOlder 52 = .ok (.getfield 9, 3) := by decide +kernel
theorem dX0_growOlder_55 : decode cX0_growOlder 55 = .ok (.iload_n 2, 1) := by decide +kernel
theorem dX0_growOlder_56 : decode cX0_growOlder 56 = .ok (.iaload, 1) := by decide +kernel
theorem dX0_growOlder_57 : decode cX0_growOlder 57 = .ok (.i2l, 1) := by decide +kernel
theorem dX0_growOlder_58 : decode cX0_growOlder 58 = .ok (.ladd, 1) := by decide +kernel
theorem dX0_growOlder_59 : decode cX0_growOlder 59 = .ok (.putfield 38, 3) := by decide +kernel
theorem dX0_growOlder_62 : decode cX0_growOlder 62 = .ok (.aload_n 0, 1) := by decide +kernel
theorem dX0_growOlder_63 : decode cX0_growOlder 63 = .ok (.getfield 9, 3) := by decide +kernel
theorem dX0_growOlder_66 : decode cX0_growOlder 66 = .ok (.iload_n 2, 1) := by decide +kernel
theorem dX0_growOlder_67 : decode cX0_growOlder 67 = .ok (.iconst 0, 1) := by decide +kernel
theorem dX0_growOlder_68 : decode cX0_growOlder 68 = .ok (.iastore, 1) := by decide +kernel
theorem dX0_growOlder_69 : decode cX0_growOlder 69 = .ok (.iinc 2 (-1), 3) := by decide +kernel
theorem dX0_growOlder_72 : decode cX0_growOlder 72 = .ok (.goto (-35), 3) := by decide +kernel
theorem dX0_growOlder_75 : decode cX0_growOlder 75 = .ok (.return_, 1) := by decide +kernel
theorem dX0_markLight_0 : decode cX0_markLight 0 = .ok (.iload_n 1, 1) := by decide +kernel
theorem dX0_markLight_1 : decode cX0_markLight 1 = .ok (.ifCond .eq 21, 3) := by decide +kernel
theorem dX0_markLight_4 : decode cX0_markLight 4 = .ok (.aload_n 0, 1) := by decide +kernel
theorem dX0_markLight_5 : decode cX0_markLight 5 = .ok (.iconst 0, 1) := by decide +kernel
theorem dX0_markLight_6 : decode cX0_markLight 6 = .ok (.putfield 57, 3) := by decide +kernel
theorem dX0_markLight_9 : decode cX0_markLight 9 = .ok (.aload_n 0, 1) := by decide +kernel
theorem dX0_markLight_10 : decode cX0_markLight 10 = .ok (.dup, 1) := by decide +kernel
theorem dX0_markLight_11 : decode cX0_markLight 11 = .ok (.getfield 60, 3) := by decide +kernel
theorem dX0_markLight_14 : decode cX0_markLight 14 = .ok (.iconst 1, 1) := by decide +kernel
theorem dX0_markLight_15 : decode cX0_markLight 15 = .ok (.iadd, 1) := by decide +kernel
theorem dX0_markLight_16 : decode cX0_markLight 16 = .ok (.putfield 60, 3) := by decide +kernel
theorem dX0_markLight_19 : decode cX0_markLight 19 = .ok (.goto 28, 3) := by decide +kernel
theorem dX0_markLight_22 : decode cX0_markLight 22 = .ok (.aload_n 0, 1) := by decide +kernel
theorem dX0_markLight_23 : decode cX0_markLight 23 = .ok (.dup, 1) := by decide +kernel
theorem dX0_markLight_24 : decode cX0_markLight 24 = .ok (.getfield 57, 3) := by decide +kernel
theorem dX0_markLight_27 : decode cX0_markLight 27 = .ok (.iconst 1, 1) := by decide +kernel
theorem dX0_markLight_28 : decode cX0_markLight 28 = .ok (.iadd, 1) := by decide +kernel
theorem dX0_markLight_29 : decode cX0_markLight 29 = .ok (.putfield 57, 3) := by decide +kernel
theorem dX0_markLight_32 : decode cX0_markLight 32 = .ok (.aload_n 0, 1) := by decide +kernel
theorem dX0_markLight_33 : decode cX0_markLight 33 = .ok (.aload_n 0, 1) := by decide +kernel
theorem dX0_markLight_34 : decode cX0_markLight 34 = .ok (.getfield 63, 3) := by decide +kernel
theorem dX0_markLight_37 : decode cX0_markLight 37 = .ok (.aload_n 0, 1) := by decide +kernel
theorem dX0_markLight_38 : decode cX0_markLight 38 = .ok (.getfield 57, 3) := by decide +kernel
theorem dX0_markLight_41 : decode cX0_markLight 41 = .ok (.invokestatic 66, 3) := by decide +kernel
theorem dX0_markLight_44 : decode cX0_markLight 44 = .ok (.putfield 63, 3) := by decide +kernel
theorem dX0_markLight_47 : decode cX0_markLight 47 = .ok (.return_, 1) := by decide +kernel
theorem dX0_tell_0 : decode cX0_tell 0 = .ok (.iload_n 1, 1) := by decide +kernel
theorem dX0_tell_1 : decode cX0_tell 1 = .ok (.tableswitch 132 0 12 #[67, 72, 77, 82, 87, 92, 97, 102, 107, 112, 117, 122, 127], 67) := by decide +kernel
theorem dX0_tell_68 : decode cX0_tell 68 = .ok (.aload_n 0, 1) := by decide +kernel
theorem dX0_tell_69 : decode cX0_tell 69 = .ok (.invokevirtual 69, 3) := by decide +kernel
theorem dX0_tell_72 : decode cX0_tell 72 = .ok (.ireturn, 1) := by decide +kernel
theorem dX0_tell_73 : decode cX0_tell 73 = .ok (.aload_n 0, 1) := by decide +kernel
theorem dX0_tell_74 : decode cX0_tell 74 = .ok (.invokevirtual 45, 3) := by decide +kernel
theorem dX0_tell_77 : decode cX0_tell 77 = .ok (.ireturn, 1) := by decide +kernel
theorem dX0_tell_78 : decode cX0_tell 78 = .ok (.aload_n 0, 1) := by decide +kernel
theorem dX0_tell_79 : decode cX0_tell 79 = .ok (.getfield 25, 3) := by decide +kernel
theorem dX0_tell_82 : decode cX0_tell 82 = .ok (.ireturn, 1) := by decide +kernel
theorem dX0_tell_83 : decode cX0_tell 83 = .ok (.aload_n 0, 1) := by decide +kernel
theorem dX0_tell_84 : decode cX0_tell 84 = .ok (.getfield 72, 3) := by decide +kernel
theorem dX0_tell_87 : decode cX0_tell 87 = .ok (.ireturn, 1) := by decide +kernel
theorem dX0_tell_88 : decode cX0_tell 88 = .ok (.aload_n 0, 1) := by decide +kernel
theorem dX0_tell_89 : decode cX0_tell 89 = .ok (.getfield 75, 3) := by decide +kernel
theorem dX0_tell_92 : decode cX0_tell 92 = .ok (.ireturn, 1) := by decide +kernel
theorem dX0_tell_93 : decode cX0_tell 93 = .ok (.aload_n 0, 1) := by decide +kernel
theorem dX0_tell_94 : decode cX0_tell 94 = .ok (.getfield 54, 3) := by decide +kernel
theorem dX0_tell_97 : decode cX0_tell 97 = .ok (.ireturn, 1) := by decide +kernel
theorem dX0_tell_98 : decode cX0_tell 98 = .ok (.aload_n 0, 1) := by decide +kernel
theorem dX0_tell_99 : decode cX0_tell 99 = .ok (.invokevirtual 41, 3) := by decide +kernel
theorem dX0_tell_102 : decode cX0_tell 102 = .ok (.ireturn, 1) := by decide +kernel
theorem dX0_tell_103 : decode cX0_tell 103 = .ok (.aload_n 0, 1) := by decide +kernel
theorem dX0_tell_104 : decode cX0_tell 104 = .ok (.invokevirtual 78, 3) := by decide +kernel
theorem dX0_tell_107 : decode cX0_tell 107 = .ok (.ireturn, 1) := by decide +kernel
theorem dX0_tell_108 : decode cX0_tell 108 = .ok (.aload_n 0, 1) := by decide +kernel
theorem dX0_tell_109 : decode cX0_tell 109 = .ok (.getfield 63, 3) := by decide +kernel
theorem dX0_tell_112 : decode cX0_tell 112 = .ok (.ireturn, 1) := by decide +kernel
theorem dX0_tell_113 : decode cX0_tell 113 = .ok (.aload_n 0, 1) := by decide +kernel
theorem dX0_tell_114 : decode cX0_tell 114 = .ok (.getfield 60, 3) := by decide +kernel
theorem dX0_tell_117 : decode cX0_tell 117 = .ok (.ireturn, 1) := by decide +kernel
theorem dX0_tell_118 : decode cX0_tell 118 = .ok (.aload_n 0, 1) := by decide +kernel
theorem dX0_tell_119 : decode cX0_tell 119 = .ok (.getfield 81, 3) := by decide +kernel
theorem dX0_tell_122 : decode cX0_tell 122 = .ok (.ireturn, 1) := by decide +kernel
theorem dX0_tell_123 : decode cX0_tell 123 = .ok (.aload_n 0, 1) := by decide +kernel
theorem dX0_tell_124 : decode cX0_tell 124 = .ok (.getfield 28, 3) := by decide +kernel
theorem dX0_tell_127 : decode cX0_tell 127 = .ok (.ireturn, 1) := by decide +kernel
theorem dX0_tell_128 : decode cX0_tell 128 = .ok (.aload_n 0, 1) := by decide +kernel
theorem dX0_tell_129 : decode cX0_tell 129 = .ok (.getfield 22, 3) := by decide +kernel
theorem dX0_tell_132 : decode cX0_tell 132 = .ok (.ireturn, 1) := by decide +kernel
theorem dX0_tell_133 : decode cX0_tell 133 = .ok (.bipush (-2), 2) := by decide +kernel
theorem dX0_tell_135 : decode cX0_tell 135 = .ok (.ireturn, 1) := by decide +kernel
theorem dX0_tellUnits_0 : decode cX0_tellUnits 0 = .ok (.iload_n 1, 1) := by decide +kernel
theorem dX0_tellUnits_1 : decode cX0_tellUnits 1 = .ok (.tableswitch 42 0 2 #[27, 32, 37], 27) := by decide +kernel
theorem dX0_tellUnits_28 : decode cX0_tellUnits 28 = .ok (.aload_n 0, 1) := by decide +kernel
theorem dX0_tellUnits_29 : decode cX0_tellUnits 29 = .ok (.getfield 31, 3) := by decide +kernel
theorem dX0_tellUnits_32 : decode cX0_tellUnits 32 = .ok (.lreturn, 1) := by decide +kernel
theorem dX0_tellUnits_33 : decode cX0_tellUnits 33 = .ok (.aload_n 0, 1) := by decide +kernel
theorem dX0_tellUnits_34 : decode cX0_tellUnits 34 = .ok (.getfield 35, 3) := by decide +kernel
theorem dX0_tellUnits_37 : decode cX0_tellUnits 37 = .ok (.lreturn, 1) := by decide +kernel
theorem dX0_tellUnits_38 : decode cX0_tellUnits 38 = .ok (.aload_n 0, 1) := by decide +kernel
theorem dX0_tellUnits_39 : decode cX0_tellUnits 39 = .ok (.getfield 38, 3) := by decide +kernel
theorem dX0_tellUnits_42 : decode cX0_tellUnits 42 = .ok (.lreturn, 1) := by decide +kernel
theorem dX0_tellUnits_43 : decode cX0_tellUnits 43 = .ok (.ldc2_w 84, 3) := by decide +kernel
theorem dX0_tellUnits_46 : decode cX0_tellUnits 46 = .ok (.lreturn, 1) := by decide +kernel
theorem dX1_init_0 : decode cX1_init 0 = .ok (.aload_n 0, 1) := by decide +kernel
theorem dX1_init_1 : decode cX1_init 1 = .ok (.invokespecial 3, 3) := by decide +kernel
theorem dX1_init_4 : decode cX1_init 4 = .ok (.aload_n 0, 1) := by decide +kernel
theorem dX1_init_5 : decode cX1_init 5 = .ok (.bipush 90, 2) := by decide +kernel
theorem dX1_init_7 : decode cX1_init 7 = .ok (.newarray .int, 2) := by decide +kernel
theorem dX1_init_9 : decode cX1_init 9 = .ok (.putfield 9, 3) := by decide +kernel
theorem dX1_init_12 : decode cX1_init 12 = .ok (.return_, 1) := by decide +kernel
theorem dX1_has_0 : decode cX1_has 0 = .ok (.iload_n 1, 1) := by decide +kernel
theorem dX1_has_1 : decode cX1_has 1 = .ok (.ifCond .lt 15, 3) := by decide +kernel
theorem dX1_has_4 : decode cX1_has 4 = .ok (.iload_n 1, 1) := by decide +kernel
theorem dX1_has_5 : decode cX1_has 5 = .ok (.aload_n 0, 1) := by decide +kernel
theorem dX1_has_6 : decode cX1_has 6 = .ok (.getfield 15, 3) := by decide +kernel
theorem dX1_has_9 : decode cX1_has 9 = .ok (.if_icmp .ge 7, 3) := by decide +kernel
theorem dX1_has_12 : decode cX1_has 12 = .ok (.iconst 1, 1) := by decide +kernel
theorem dX1_has_13 : decode cX1_has 13 = .ok (.goto 4, 3) := by decide +kernel
theorem dX1_has_16 : decode cX1_has 16 = .ok (.iconst 0, 1) := by decide +kernel
theorem dX1_has_17 : decode cX1_has 17 = .ok (.ireturn, 1) := by decide +kernel
theorem dX2_init_0 : decode cX2_init 0 = .ok (.aload_n 0, 1) := by decide +kernel
theorem dX2_init_1 : decode cX2_init 1 = .ok (.invokespecial 3, 3) := by decide +kernel
theorem dX2_init_4 : decode cX2_init 4 = .ok (.aload_n 0, 1) := by decide +kernel
theorem dX2_init_5 : decode cX2_init 5 = .ok (.bipush 10, 2) := by decide +kernel
theorem dX2_init_7 : decode cX2_init 7 = .ok (.anewarray 9, 3) := by decide +kernel
theorem dX2_init_10 : decode cX2_init 10 = .ok (.putfield 11, 3) := by decide +kernel
theorem dX2_init_13 : decode cX2_init 13 = .ok (.aload_n 0, 1) := by decide +kernel
theorem dX2_init_14 : decode cX2_init 14 = .ok (.iconst 3, 1) := by decide +kernel
theorem dX2_init_15 : decode cX2_init 15 = .ok (.newarray .int, 2) := by decide +kernel
theorem dX2_init_17 : decode cX2_init 17 = .ok (.dup, 1) := by decide +kernel
theorem dX2_init_18 : decode cX2_init 18 = .ok (.iconst 0, 1) := by decide +kernel
theorem dX2_init_19 : decode cX2_init 19 = .ok (.bipush 10, 2) := by decide +kernel
theorem dX2_init_21 : decode cX2_init 21 = .ok (.iastore, 1) := by decide +kernel
theorem dX2_init_22 : decode cX2_init 22 = .ok (.dup, 1) := by decide +kernel
theorem dX2_init_23 : decode cX2_init 23 = .ok (.iconst 1, 1) := by decide +kernel
theorem dX2_init_24 : decode cX2_init 24 = .ok (.bipush 10, 2) := by decide +kernel
theorem dX2_init_26 : decode cX2_init 26 = .ok (.iastore, 1) := by decide +kernel
theorem dX2_init_27 : decode cX2_init 27 = .ok (.dup, 1) := by decide +kernel
theorem dX2_init_28 : decode cX2_init 28 = .ok (.iconst 2, 1) := by decide +kernel
theorem dX2_init_29 : decode cX2_init 29 = .ok (.bipush 10, 2) := by decide +kernel
theorem dX2_init_31 : decode cX2_init 31 = .ok (.iastore, 1) := by decide +kernel
theorem dX2_init_32 : decode cX2_init 32 = .ok (.putfield 17, 3) := by decide +kernel
theorem dX2_init_35 : decode cX2_init 35 = .ok (.aload_n 0, 1) := by decide +kernel
theorem dX2_init_36 : decode cX2_init 36 = .ok (.iconst 3, 1) := by decide +kernel
theorem dX2_init_37 : decode cX2_init 37 = .ok (.newarray .boolean, 2) := by decide +kernel
theorem dX2_init_39 : decode cX2_init 39 = .ok (.dup, 1) := by decide +kernel
theorem dX2_init_40 : decode cX2_init 40 = .ok (.iconst 0, 1) := by decide +kernel
theorem dX2_init_41 : decode cX2_init 41 = .ok (.iconst 1, 1) := by decide +kernel
theorem dX2_init_42 : decode cX2_init 42 = .ok (.bastore, 1) := by decide +kernel
theorem dX2_init_43 : decode cX2_init 43 = .ok (.dup, 1) := by decide +kernel
theorem dX2_init_44 : decode cX2_init 44 = .ok (.iconst 1, 1) := by decide +kernel
theorem dX2_init_45 : decode cX2_init 45 = .ok (.iconst 1, 1) := by decide +kernel
theorem dX2_init_46 : decode cX2_init 46 = .ok (.bastore, 1) := by decide +kernel
theorem dX2_init_47 : decode cX2_init 47 = .ok (.dup, 1) := by decide +kernel
theorem dX2_init_48 : decode cX2_init 48 = .ok (.iconst 2, 1) := by decide +kernel
theorem dX2_init_49 : decode cX2_init 49 = .ok (.iconst 1, 1) := by decide +kernel
theorem dX2_init_50 : decode cX2_init 50 = .ok (.bastore, 1) := by decide +kernel
theorem dX2_init_51 : decode cX2_init 51 = .ok (.putfield 21, 3) := by decide +kernel
theorem dX2_init_54 : decode cX2_init 54 = .ok (.aload_n 0, 1) := by decide +kernel
theorem dX2_init_55 : decode cX2_init 55 = .ok (.iconst 2, 1) := by decide +kernel
theorem dX2_init_56 : decode cX2_init 56 = .ok (.putfield 25, 3) := by decide +kernel
theorem dX2_init_59 : decode cX2_init 59 = .ok (.aload_n 0, 1) := by decide +kernel
theorem dX2_init_60 : decode cX2_init 60 = .ok (.bipush 100, 2) := by decide +kernel
theorem dX2_init_62 : decode cX2_init 62 = .ok (.putfield 29, 3) := by decide +kernel
theorem dX2_init_65 : decode cX2_init 65 = .ok (.aload_n 0, 1) := by decide +kernel
theorem dX2_init_66 : decode cX2_init 66 = .ok (.bipush 8, 2) := by decide +kernel
theorem dX2_init_68 : decode cX2_init 68 = .ok (.putfield 32, 3) := by decide +kernel
theorem dX2_init_71 : decode cX2_init 71 = .ok (.aload_n 0, 1) := by decide +kernel
theorem dX2_init_72 : decode cX2_init 72 = .ok (.iconst 2, 1) := by decide +kernel
theorem dX2_init_73 : decode cX2_init 73 = .ok (.putfield 35, 3) := by decide +kernel
theorem dX2_init_76 : decode cX2_init 76 = .ok (.return_, 1) := by decide +kernel
theorem dX2_hasCell_0 : decode cX2_hasCell 0 = .ok (.iload_n 1, 1) := by decide +kernel
theorem dX2_hasCell_1 : decode cX2_hasCell 1 = .ok (.ifCond .lt 15, 3) := by decide +kernel
theorem dX2_hasCell_4 : decode cX2_hasCell 4 = .ok (.iload_n 1, 1) := by decide +kernel
theorem dX2_hasCell_5 : decode cX2_hasCell 5 = .ok (.aload_n 0, 1) := by decide +kernel
theorem dX2_hasCell_6 : decode cX2_hasCell 6 = .ok (.getfield 38, 3) := by decide +kernel
theorem dX2_hasCell_9 : decode cX2_hasCell 9 = .ok (.if_icmp .ge 7, 3) := by decide +kernel
theorem dX2_hasCell_12 : decode cX2_hasCell 12 = .ok (.iconst 1, 1) := by decide +kernel
theorem dX2_hasCell_13 : decode cX2_hasCell 13 = .ok (.goto 4, 3) := by decide +kernel
theorem dX2_hasCell_16 : decode cX2_hasCell 16 = .ok (.iconst 0, 1) := by decide +kernel
theorem dX2_hasCell_17 : decode cX2_hasCell 17 = .ok (.ireturn, 1) := by decide +kernel
theorem dX2_allCells_0 : decode cX2_allCells 0 = .ok (.iconst 1, 1) := by decide +kernel
theorem dX2_allCells_1 : decode cX2_allCells 1 = .ok (.aload_n 0, 1) := by decide +kernel
theorem dX2_allCells_2 : decode cX2_allCells 2 = .ok (.getfield 38, 3) := by decide +kernel
theorem dX2_allCells_5 : decode cX2_allCells 5 = .ok (.ishl, 1) := by decide +kernel
theorem dX2_allCells_6 : decode cX2_allCells 6 = .ok (.iconst 1, 1) := by decide +kernel
theorem dX2_allCells_7 : decode cX2_allCells 7 = .ok (.isub, 1) := by decide +kernel
theorem dX2_allCells_8 : decode cX2_allCells 8 = .ok (.ireturn, 1) := by decide +kernel
theorem dX2_allows_0 : decode cX2_allows 0 = .ok (.iload_n 1, 1) := by decide +kernel
theorem dX2_allows_1 : decode cX2_allows 1 = .ok (.invokestatic 41, 3) := by decide +kernel
theorem dX2_allows_4 : decode cX2_allows 4 = .ok (.aload_n 0, 1) := by decide +kernel
theorem dX2_allows_5 : decode cX2_allows 5 = .ok (.getfield 25, 3) := by decide +kernel
theorem dX2_allows_8 : decode cX2_allows 8 = .ok (.if_icmp .le 5, 3) := by decide +kernel
theorem dX2_allows_11 : decode cX2_allows 11 = .ok (.iconst 0, 1) := by decide +kernel
theorem dX2_allows_12 : decode cX2_allows 12 = .ok (.ireturn, 1) := by decide +kernel
theorem dX2_allows_13 : decode cX2_allows 13 = .ok (.iconst 0, 1) := by decide +kernel
theorem dX2_allows_14 : decode cX2_allows 14 = .ok (.istore_n 2, 1) := by decide +kernel
theorem dX2_allows_15 : decode cX2_allows 15 = .ok (.iconst 0, 1) := by decide +kernel
theorem dX2_allows_16 : decode cX2_allows 16 = .ok (.istore_n 3, 1) := by decide +kernel
theorem dX2_allows_17 : decode cX2_allows 17 = .ok (.iconst 0, 1) := by decide +kernel
theorem dX2_allows_18 : decode cX2_allows 18 = .ok (.istore 4, 2) := by decide +kernel
theorem dX2_allows_20 : decode cX2_allows 20 = .ok (.iload 4, 2) := by decide +kernel
theorem dX2_allows_22 : decode cX2_allows 22 = .ok (.aload_n 0, 1) := by decide +kernel
theorem dX2_allows_23 : decode cX2_allows 23 = .ok (.getfield 38, 3) := by decide +kernel
theorem dX2_allows_26 : decode cX2_allows 26 = .ok (.if_icmp .ge 80, 3) := by decide +kernel
theorem dX2_allows_29 : decode cX2_allows 29 = .ok (.iload_n 1, 1) := by decide +kernel
theorem dX2_allows_30 : decode cX2_allows 30 = .ok (.iload 4, 2) := by decide +kernel
theorem dX2_allows_32 : decode cX2_allows 32 = .ok (.invokestatic 47, 3) := by decide +kernel
theorem dX2_allows_35 : decode cX2_allows 35 = .ok (.ifCond .eq 65, 3) := by decide +kernel
theorem dX2_allows_38 : decode cX2_allows 38 = .ok (.aload_n 0, 1) := by decide +kernel
theorem dX2_allows_39 : decode cX2_allows 39 = .ok (.getfield 11, 3) := by decide +kernel
theorem dX2_allows_42 : decode cX2_allows 42 = .ok (.iload 4, 2) := by decide +kernel
theorem dX2_allows_44 : decode cX2_allows 44 = .ok (.aaload, 1) := by decide +kernel
theorem dX2_allows_45 : decode cX2_allows 45 = .ok (.astore 5, 2) := by decide +kernel
theorem dX2_allows_47 : decode cX2_allows 47 = .ok (.aload 5, 2) := by decide +kernel
theorem dX2_allows_49 : decode cX2_allows 49 = .ok (.getfield 51, 3) := by decide +kernel
theorem dX2_allows_52 : decode cX2_allows 52 = .ok (.iload_n 1, 1) := by decide +kernel
theorem dX2_allows_53 : decode cX2_allows 53 = .ok (.iand, 1) := by decide +kernel
theorem dX2_allows_54 : decode cX2_allows 54 = .ok (.ifCond .ne 24, 3) := by decide +kernel
theorem dX2_allows_57 : decode cX2_allows 57 = .ok (.aload 5, 2) := by decide +kernel
theorem dX2_allows_59 : decode cX2_allows 59 = .ok (.getfield 54, 3) := by decide +kernel
theorem dX2_allows_62 : decode cX2_allows 62 = .ok (.ifCond .gt 16, 3) := by decide +kernel
theorem dX2_allows_65 : decode cX2_allows 65 = .ok (.aload_n 0, 1) := by decide +kernel
theorem dX2_allows_66 : decode cX2_allows 66 = .ok (.getfield 21, 3) := by decide +kernel
theorem dX2_allows_69 : decode cX2_allows 69 = .ok (.aload 5, 2) := by decide +kernel
theorem dX2_allows_71 : decode cX2_allows 71 = .ok (.getfield 57, 3) := by decide +kernel
theorem dX2_allows_74 : decode cX2_allows 74 = .ok (.baload, 1) := by decide +kernel
theorem dX2_allows_75 : decode cX2_allows 75 = .ok (.ifCond .ne 5, 3) := by decide +kernel
theorem dX2_allows_78 : decode cX2_allows 78 = .ok (.iconst 0, 1) := by decide +kernel
theorem dX2_allows_79 : decode cX2_allows 79 = .ok (.ireturn, 1) := by decide +kernel
theorem dX2_allows_80 : decode cX2_allows 80 = .ok (.iload_n 2, 1) := by decide +kernel
theorem dX2_allows_81 : decode cX2_allows 81 = .ok (.aload 5, 2) := by decide +kernel
theorem dX2_allows_83 : decode cX2_allows 83 = .ok (.invokevirtual 60, 3) := by decide +kernel
theorem dX2_allows_86 : decode cX2_allows 86 = .ok (.iadd, 1) := by decide +kernel
theorem dX2_allows_87 : decode cX2_allows 87 = .ok (.istore_n 2, 1) := by decide +kernel
theorem dX2_allows_88 : decode cX2_allows 88 = .ok (.iload_n 3, 1) := by decide +kernel
theorem dX2_allows_89 : decode cX2_allows 89 = .ok (.iconst 1, 1) := by decide +kernel
theorem dX2_allows_90 : decode cX2_allows 90 = .ok (.iconst 4, 1) := by decide +kernel
theorem dX2_allows_91 : decode cX2_allows 91 = .ok (.aload 5, 2) := by decide +kernel
theorem dX2_allows_93 : decode cX2_allows 93 = .ok (.getfield 57, 3) := by decide +kernel
theorem dX2_allows_96 : decode cX2_allows 96 = .ok (.imul, 1) := by decide +kernel
theorem dX2_allows_97 : decode cX2_allows 97 = .ok (.ishl, 1) := by decide +kernel
theorem dX2_allows_98 : decode cX2_allows 98 = .ok (.iadd, 1) := by decide +kernel
theorem dX2_allows_99 : decode cX2_allows 99 = .ok (.istore_n 3, 1) := by decide +kernel
theorem dX2_allows_100 : decode cX2_allows 100 = .ok (.iinc 4 1, 3) := by decide +kernel
theorem dX2_allows_103 : decode cX2_allows 103 = .ok (.goto (-83), 3) := by decide +kernel
theorem dX2_allows_106 : decode cX2_allows 106 = .ok (.iload_n 2, 1) := by decide +kernel
theorem dX2_allows_107 : decode cX2_allows 107 = .ok (.aload_n 0, 1) := by decide +kernel
theorem dX2_allows_108 : decode cX2_allows 108 = .ok (.getfield 29, 3) := by decide +kernel
theorem dX2_allows_111 : decode cX2_allows 111 = .ok (.if_icmp .gt 15, 3) := by decide +kernel
theorem dX2_allows_114 : decode cX2_allows 114 = .ok (.aload_n 0, 1) := by decide +kernel
theorem dX2_allows_115 : decode cX2_allows 115 = .ok (.iload_n 3, 1) := by decide +kernel
theorem dX2_allows_116 : decode cX2_allows 116 = .ok (.invokevirtual 64, 3) := by decide +kernel
theorem dX2_allows_119 : decode cX2_allows 119 = .ok (.ifCond .eq 7, 3) := by decide +kernel
theorem dX2_allows_122 : decode cX2_allows 122 = .ok (.iconst 1, 1) := by decide +kernel
theorem dX2_allows_123 : decode cX2_allows 123 = .ok (.goto 4, 3) := by decide +kernel
theorem dX2_allows_126 : decode cX2_allows 126 = .ok (.iconst 0, 1) := by decide +kernel
theorem dX2_allows_127 : decode cX2_allows 127 = .ok (.ireturn, 1) := by decide +kernel
theorem dX2_haveRoom_0 : decode cX2_haveRoom 0 = .ok (.iconst 0, 1) := by decide +kernel
theorem dX2_haveRoom_1 : decode cX2_haveRoom 1 = .ok (.istore_n 2, 1) := by decide +kernel
theorem dX2_haveRoom_2 : decode cX2_haveRoom 2 = .ok (.iload_n 2, 1) := by decide +kernel
theorem dX2_haveRoom_3 : decode cX2_haveRoom 3 = .ok (.iconst 3, 1) := by decide +kernel
theorem dX2_haveRoom_4 : decode cX2_haveRoom 4 = .ok (.if_icmp .ge 28, 3) := by decide +kernel
theorem dX2_haveRoom_7 : decode cX2_haveRoom 7 = .ok (.iload_n 1, 1) := by decide +kernel
theorem dX2_haveRoom_8 : decode cX2_haveRoom 8 = .ok (.iconst 4, 1) := by decide +kernel
theorem dX2_haveRoom_9 : decode cX2_haveRoom 9 = .ok (.iload_n 2, 1) := by decide +kernel
theorem dX2_haveRoom_10 : decode cX2_haveRoom 10 = .ok (.imul, 1) := by decide +kernel
theorem dX2_haveRoom_11 : decode cX2_haveRoom 11 = .ok (.ishr, 1) := by decide +kernel
theorem dX2_haveRoom_12 : decode cX2_haveRoom 12 = .ok (.bipush 15, 2) := by decide +kernel
theorem dX2_haveRoom_14 : decode cX2_haveRoom 14 = .ok (.iand, 1) := by decide +kernel
theorem dX2_haveRoom_15 : decode cX2_haveRoom 15 = .ok (.aload_n 0, 1) := by decide +kernel
theorem dX2_haveRoom_16 : decode cX2_haveRoom 16 = .ok (.getfield 17, 3) := by decide +kernel
theorem dX2_haveRoom_19 : decode cX2_haveRoom 19 = .ok (.iload_n 2, 1) := by decide +kernel
theorem dX2_haveRoom_20 : decode cX2_haveRoom 20 = .ok (.iaload, 1) := by decide +kernel
theorem dX2_haveRoom_21 : decode cX2_haveRoom 21 = .ok (.if_icmp .le 5, 3) := by decide +kernel
theorem dX2_haveRoom_24 : decode cX2_haveRoom 24 = .ok (.iconst 0, 1) := by decide +kernel
theorem dX2_haveRoom_25 : decode cX2_haveRoom 25 = .ok (.ireturn, 1) := by decide +kernel
theorem dX2_haveRoom_26 : decode cX2_haveRoom 26 = .ok (.iinc 2 1, 3) := by decide +kernel
theorem dX2_haveRoom_29 : decode cX2_haveRoom 29 = .ok (.goto (-27), 3) := by decide +kernel
theorem dX2_haveRoom_32 : decode cX2_haveRoom 32 = .ok (.iconst 1, 1) := by decide +kernel
theorem dX2_haveRoom_33 : decode cX2_haveRoom 33 = .ok (.ireturn, 1) := by decide +kernel
theorem dX2_cellsOf_0 : decode cX2_cellsOf 0 = .ok (.iconst 0, 1) := by decide +kernel
theorem dX2_cellsOf_1 : decode cX2_cellsOf 1 = .ok (.istore_n 2, 1) := by decide +kernel
theorem dX2_cellsOf_2 : decode cX2_cellsOf 2 = .ok (.iconst 0, 1) := by decide +kernel
theorem dX2_cellsOf_3 : decode cX2_cellsOf 3 = .ok (.istore_n 3, 1) := by decide +kernel
theorem dX2_cellsOf_4 : decode cX2_cellsOf 4 = .ok (.iload_n 3, 1) := by decide +kernel
theorem dX2_cellsOf_5 : decode cX2_cellsOf 5 = .ok (.aload_n 0, 1) := by decide +kernel
theorem dX2_cellsOf_6 : decode cX2_cellsOf 6 = .ok (.getfield 38, 3) := by decide +kernel
theorem dX2_cellsOf_9 : decode cX2_cellsOf 9 = .ok (.if_icmp .ge 25, 3) := by decide +kernel
theorem dX2_cellsOf_12 : decode cX2_cellsOf 12 = .ok (.aload_n 0, 1) := by decide +kernel
theorem dX2_cellsOf_13 : decode cX2_cellsOf 13 = .ok (.getfield 11, 3) := by decide +kernel
theorem dX2_cellsOf_16 : decode cX2_cellsOf 16 = .ok (.iload_n 3, 1) := by decide +kernel
theorem dX2_cellsOf_17 : decode cX2_cellsOf 17 = .ok (.aaload, 1) := by decide +kernel
theorem dX2_cellsOf_18 : decode cX2_cellsOf 18 = .ok (.getfield 57, 3) := by decide +kernel
theorem dX2_cellsOf_21 : decode cX2_cellsOf 21 = .ok (.iload_n 1, 1) := by decide +kernel
theorem dX2_cellsOf_22 : decode cX2_cellsOf 22 = .ok (.if_icmp .ne 6, 3) := by decide +kernel
theorem dX2_cellsOf_25 : decode cX2_cellsOf 25 = .ok (.iinc 2 1, 3) := by decide +kernel
theorem dX2_cellsOf_28 : decode cX2_cellsOf 28 = .ok (.iinc 3 1, 3) := by decide +kernel
theorem dX2_cellsOf_31 : decode cX2_cellsOf 31 = .ok (.goto (-27), 3) := by decide +kernel
theorem dX2_cellsOf_34 : decode cX2_cellsOf 34 = .ok (.iload_n 2, 1) := by decide +kernel
theorem dX2_cellsOf_35 : decode cX2_cellsOf 35 = .ok (.ireturn, 1) := by decide +kernel
theorem dX2_canMeetNeeds_0 : decode cX2_canMeetNeeds 0 = .ok (.iconst 0, 1) := by decide +kernel
theorem dX2_canMeetNeeds_1 : decode cX2_canMeetNeeds 1 = .ok (.istore_n 1, 1) := by decide +kernel
theorem dX2_canMeetNeeds_2 : decode cX2_canMeetNeeds 2 = .ok (.iload_n 1, 1) := by decide +kernel
theorem dX2_canMeetNeeds_3 : decode cX2_canMeetNeeds 3 = .ok (.aload_n 0, 1) := by decide +kernel
theorem dX2_canMeetNeeds_4 : decode cX2_canMeetNeeds 4 = .ok (.getfield 38, 3) := by decide +kernel
theorem dX2_canMeetNeeds_7 : decode cX2_canMeetNeeds 7 = .ok (.if_icmp .ge 33, 3) := by decide +kernel
theorem dX2_canMeetNeeds_10 : decode cX2_canMeetNeeds 10 = .ok (.aload_n 0, 1) := by decide +kernel
theorem dX2_canMeetNeeds_11 : decode cX2_canMeetNeeds 11 = .ok (.getfield 11, 3) := by decide +kernel
theorem dX2_canMeetNeeds_14 : decode cX2_canMeetNeeds 14 = .ok (.iload_n 1, 1) := by decide +kernel
theorem dX2_canMeetNeeds_15 : decode cX2_canMeetNeeds 15 = .ok (.aaload, 1) := by decide +kernel
theorem dX2_canMeetNeeds_16 : decode cX2_canMeetNeeds 16 = .ok (.getfield 68, 3) := by decide +kernel
theorem dX2_canMeetNeeds_19 : decode cX2_canMeetNeeds 19 = .ok (.ifCond .le 15, 3) := by decide +kernel
theorem dX2_canMeetNeeds_22 : decode cX2_canMeetNeeds 22 = .ok (.aload_n 0, 1) := by decide +kernel
theorem dX2_canMeetNeeds_23 : decode cX2_canMeetNeeds 23 = .ok (.iconst 1, 1) := by decide +kernel
theorem dX2_canMeetNeeds_24 : decode cX2_canMeetNeeds 24 = .ok (.iload_n 1, 1) := by decide +kernel
theorem dX2_canMeetNeeds_25 : decode cX2_canMeetNeeds 25 = .ok (.ishl, 1) := by decide +kernel
theorem dX2_canMeetNeeds_26 : decode cX2_canMeetNeeds 26 = .ok (.invokevirtual 71, 3) := by decide +kernel
theorem dX2_canMeetNeeds_29 : decode cX2_canMeetNeeds 29 = .ok (.ifCond .ne 5, 3) := by decide +kernel
theorem dX2_canMeetNeeds_32 : decode cX2_canMeetNeeds 32 = .ok (.iconst 0, 1) := by decide +kernel
theorem dX2_canMeetNeeds_33 : decode cX2_canMeetNeeds 33 = .ok (.ireturn, 1) := by decide +kernel
theorem dX2_canMeetNeeds_34 : decode cX2_canMeetNeeds 34 = .ok (.iinc 1 1, 3) := by decide +kernel
theorem dX2_canMeetNeeds_37 : decode cX2_canMeetNeeds 37 = .ok (.goto (-35), 3) := by decide +kernel
theorem dX2_canMeetNeeds_40 : decode cX2_canMeetNeeds 40 = .ok (.iconst 1, 1) := by decide +kernel
theorem dX2_canMeetNeeds_41 : decode cX2_canMeetNeeds 41 = .ok (.ireturn, 1) := by decide +kernel
theorem dX2_lacksAtFirst_0 : decode cX2_lacksAtFirst 0 = .ok (.lconst 0, 1) := by decide +kernel
theorem dX2_lacksAtFirst_1 : decode cX2_lacksAtFirst 1 = .ok (.lstore_n 1, 1) := by decide +kernel
theorem dX2_lacksAtFirst_2 : decode cX2_lacksAtFirst 2 = .ok (.iconst 0, 1) := by decide +kernel
theorem dX2_lacksAtFirst_3 : decode cX2_lacksAtFirst 3 = .ok (.istore_n 3, 1) := by decide +kernel
theorem dX2_lacksAtFirst_4 : decode cX2_lacksAtFirst 4 = .ok (.iload_n 3, 1) := by decide +kernel
theorem dX2_lacksAtFirst_5 : decode cX2_lacksAtFirst 5 = .ok (.aload_n 0, 1) := by decide +kernel
theorem dX2_lacksAtFirst_6 : decode cX2_lacksAtFirst 6 = .ok (.getfield 38, 3) := by decide +kernel
theorem dX2_lacksAtFirst_9 : decode cX2_lacksAtFirst 9 = .ok (.if_icmp .ge 26, 3) := by decide +kernel
theorem dX2_lacksAtFirst_12 : decode cX2_lacksAtFirst 12 = .ok (.lload_n 1, 1) := by decide +kernel
theorem dX2_lacksAtFirst_13 : decode cX2_lacksAtFirst 13 = .ok (.aload_n 0, 1) := by decide +kernel
theorem dX2_lacksAtFirst_14 : decode cX2_lacksAtFirst 14 = .ok (.getfield 11, 3) := by decide +kernel
theorem dX2_lacksAtFirst_17 : decode cX2_lacksAtFirst 17 = .ok (.iload_n 3, 1) := by decide +kernel
theorem dX2_lacksAtFirst_18 : decode cX2_lacksAtFirst 18 = .ok (.aaload, 1) := by decide +kernel
theorem dX2_lacksAtFirst_19 : decode cX2_lacksAtFirst 19 = .ok (.getfield 68, 3) := by decide +kernel
theorem dX2_lacksAtFirst_22 : decode cX2_lacksAtFirst 22 = .ok (.i2l, 1) := by decide +kernel
theorem dX2_lacksAtFirst_23 : decode cX2_lacksAtFirst 23 = .ok (.iconst 4, 1) := by decide +kernel
theorem dX2_lacksAtFirst_24 : decode cX2_lacksAtFirst 24 = .ok (.iload_n 3, 1) := by decide +kernel
theorem dX2_lacksAtFirst_25 : decode cX2_lacksAtFirst 25 = .ok (.imul, 1) := by decide +kernel
theorem dX2_lacksAtFirst_26 : decode cX2_lacksAtFirst 26 = .ok (.lshl, 1) := by decide +kernel
theorem dX2_lacksAtFirst_27 : decode cX2_lacksAtFirst 27 = .ok (.lor, 1) := by decide +kernel
theorem dX2_lacksAtFirst_28 : decode cX2_lacksAtFirst 28 = .ok (.lstore_n 1, 1) := by decide +kernel
theorem dX2_lacksAtFirst_29 : decode cX2_lacksAtFirst 29 = .ok (.iinc 3 1, 3) := by decide +kernel
theorem dX2_lacksAtFirst_32 : decode cX2_lacksAtFirst 32 = .ok (.goto (-28), 3) := by decide +kernel
theorem dX2_lacksAtFirst_35 : decode cX2_lacksAtFirst 35 = .ok (.lload_n 1, 1) := by decide +kernel
theorem dX2_lacksAtFirst_36 : decode cX2_lacksAtFirst 36 = .ok (.lreturn, 1) := by decide +kernel
theorem dX2_takeAsked_0 : decode cX2_takeAsked 0 = .ok (.iconst 0, 1) := by decide +kernel
theorem dX2_takeAsked_1 : decode cX2_takeAsked 1 = .ok (.istore_n 1, 1) := by decide +kernel
theorem dX2_takeAsked_2 : decode cX2_takeAsked 2 = .ok (.iload_n 1, 1) := by decide +kernel
theorem dX2_takeAsked_3 : decode cX2_takeAsked 3 = .ok (.aload_n 0, 1) := by decide +kernel
theorem dX2_takeAsked_4 : decode cX2_takeAsked 4 = .ok (.getfield 38, 3) := by decide +kernel
theorem dX2_takeAsked_7 : decode cX2_takeAsked 7 = .ok (.if_icmp .ge 18, 3) := by decide +kernel
theorem dX2_takeAsked_10 : decode cX2_takeAsked 10 = .ok (.aload_n 0, 1) := by decide +kernel
theorem dX2_takeAsked_11 : decode cX2_takeAsked 11 = .ok (.getfield 11, 3) := by decide +kernel
theorem dX2_takeAsked_14 : decode cX2_takeAsked 14 = .ok (.iload_n 1, 1) := by decide +kernel
theorem dX2_takeAsked_15 : decode cX2_takeAsked 15 = .ok (.aaload, 1) := by decide +kernel
theorem dX2_takeAsked_16 : decode cX2_takeAsked 16 = .ok (.invokevirtual 76, 3) := by decide +kernel
theorem dX2_takeAsked_19 : decode cX2_takeAsked 19 = .ok (.iinc 1 1, 3) := by decide +kernel
theorem dX2_takeAsked_22 : decode cX2_takeAsked 22 = .ok (.goto (-20), 3) := by decide +kernel
theorem dX2_takeAsked_25 : decode cX2_takeAsked 25 = .ok (.return_, 1) := by decide +kernel
theorem dX2_serve_0 : decode cX2_serve 0 = .ok (.iconst 0, 1) := by decide +kernel
theorem dX2_serve_1 : decode cX2_serve 1 = .ok (.istore_n 2, 1) := by decide +kernel
theorem dX2_serve_2 : decode cX2_serve 2 = .ok (.iload_n 2, 1) := by decide +kernel
theorem dX2_serve_3 : decode cX2_serve 3 = .ok (.aload_n 0, 1) := by decide +kernel
theorem dX2_serve_4 : decode cX2_serve 4 = .ok (.getfield 38, 3) := by decide +kernel
theorem dX2_serve_7 : decode cX2_serve 7 = .ok (.if_icmp .ge 51, 3) := by decide +kernel
theorem dX2_serve_10 : decode cX2_serve 10 = .ok (.iload_n 1, 1) := by decide +kernel
theorem dX2_serve_11 : decode cX2_serve 11 = .ok (.iload_n 2, 1) := by decide +kernel
theorem dX2_serve_12 : decode cX2_serve 12 = .ok (.invokestatic 47, 3) := by decide +kernel
theorem dX2_serve_15 : decode cX2_serve 15 = .ok (.istore_n 3, 1) := by decide +kernel
theorem dX2_serve_16 : decode cX2_serve 16 = .ok (.iload_n 3, 1) := by decide +kernel
theorem dX2_serve_17 : decode cX2_serve 17 = .ok (.ifCond .eq 12, 3) := by decide +kernel
theorem dX2_serve_20 : decode cX2_serve 20 = .ok (.aload_n 0, 1) := by decide +kernel
theorem dX2_serve_21 : decode cX2_serve 21 = .ok (.getfield 11, 3) := by decide +kernel
theorem dX2_serve_24 : decode cX2_serve 24 = .ok (.iload_n 2, 1) := by decide +kernel
theorem dX2_serve_25 : decode cX2_serve 25 = .ok (.aaload, 1) := by decide +kernel
theorem dX2_serve_26 : decode cX2_serve 26 = .ok (.invokevirtual 79, 3) := by decide +kernel
theorem dX2_serve_29 : decode cX2_serve 29 = .ok (.aload_n 0, 1) := by decide +kernel
theorem dX2_serve_30 : decode cX2_serve 30 = .ok (.getfield 11, 3) := by decide +kernel
theorem dX2_serve_33 : decode cX2_serve 33 = .ok (.iload_n 2, 1) := by decide +kernel
theorem dX2_serve_34 : decode cX2_serve 34 = .ok (.aaload, 1) := by decide +kernel
theorem dX2_serve_35 : decode cX2_serve 35 = .ok (.iload_n 3, 1) := by decide +kernel
theorem dX2_serve_36 : decode cX2_serve 36 = .ok (.invokevirtual 82, 3) := by decide +kernel
theorem dX2_serve_39 : decode cX2_serve 39 = .ok (.aload_n 0, 1) := by decide +kernel
theorem dX2_serve_40 : decode cX2_serve 40 = .ok (.getfield 11, 3) := by decide +kernel
theorem dX2_serve_43 : decode cX2_serve 43 = .ok (.iload_n 2, 1) := by decide +kernel
theorem dX2_serve_44 : decode cX2_serve 44 = .ok (.aaload, 1) := by decide +kernel
theorem dX2_serve_45 : decode cX2_serve 45 = .ok (.aload_n 0, 1) := by decide +kernel
theorem dX2_serve_46 : decode cX2_serve 46 = .ok (.getfield 32, 3) := by decide +kernel
theorem dX2_serve_49 : decode cX2_serve 49 = .ok (.invokevirtual 86, 3) := by decide +kernel
theorem dX2_serve_52 : decode cX2_serve 52 = .ok (.iinc 2 1, 3) := by decide +kernel
theorem dX2_serve_55 : decode cX2_serve 55 = .ok (.goto (-53), 3) := by decide +kernel
theorem dX2_serve_58 : decode cX2_serve 58 = .ok (.return_, 1) := by decide +kernel
theorem dX2_handOn_0 : decode cX2_handOn 0 = .ok (.iconst 0, 1) := by decide +kernel
theorem dX2_handOn_1 : decode cX2_handOn 1 = .ok (.istore_n 1, 1) := by decide +kernel
theorem dX2_handOn_2 : decode cX2_handOn 2 = .ok (.iconst 0, 1) := by decide +kernel
theorem dX2_handOn_3 : decode cX2_handOn 3 = .ok (.istore_n 2, 1) := by decide +kernel
theorem dX2_handOn_4 : decode cX2_handOn 4 = .ok (.iload_n 2, 1) := by decide +kernel
theorem dX2_handOn_5 : decode cX2_handOn 5 = .ok (.aload_n 0, 1) := by decide +kernel
theorem dX2_handOn_6 : decode cX2_handOn 6 = .ok (.getfield 38, 3) := by decide +kernel
theorem dX2_handOn_9 : decode cX2_handOn 9 = .ok (.if_icmp .ge 56, 3) := by decide +kernel
theorem dX2_handOn_12 : decode cX2_handOn 12 = .ok (.aload_n 0, 1) := by decide +kernel
theorem dX2_handOn_13 : decode cX2_handOn 13 = .ok (.getfield 11, 3) := by decide +kernel
theorem dX2_handOn_16 : decode cX2_handOn 16 = .ok (.iload_n 2, 1) := by decide +kernel
theorem dX2_handOn_17 : decode cX2_handOn 17 = .ok (.aaload, 1) := by decide +kernel
theorem dX2_handOn_18 : decode cX2_handOn 18 = .ok (.getfield 54, 3) := by decide +kernel
theorem dX2_handOn_21 : decode cX2_handOn 21 = .ok (.ifCond .le 38, 3) := by decide +kernel
theorem dX2_handOn_24 : decode cX2_handOn 24 = .ok (.aload_n 0, 1) := by decide +kernel
theorem dX2_handOn_25 : decode cX2_handOn 25 = .ok (.getfield 11, 3) := by decide +kernel
theorem dX2_handOn_28 : decode cX2_handOn 28 = .ok (.iload_n 2, 1) := by decide +kernel
theorem dX2_handOn_29 : decode cX2_handOn 29 = .ok (.aaload, 1) := by decide +kernel
theorem dX2_handOn_30 : decode cX2_handOn 30 = .ok (.dup, 1) := by decide +kernel
theorem dX2_handOn_31 : decode cX2_handOn 31 = .ok (.getfield 54, 3) := by decide +kernel
theorem dX2_handOn_34 : decode cX2_handOn 34 = .ok (.iconst 1, 1) := by decide +kernel
theorem dX2_handOn_35 : decode cX2_handOn 35 = .ok (.isub, 1) := by decide +kernel
theorem dX2_handOn_36 : decode cX2_handOn 36 = .ok (.putfield 54, 3) := by decide +kernel
theorem dX2_handOn_39 : decode cX2_handOn 39 = .ok (.iload_n 1, 1) := by decide +kernel
theorem dX2_handOn_40 : decode cX2_handOn 40 = .ok (.aload_n 0, 1) := by decide +kernel
theorem dX2_handOn_41 : decode cX2_handOn 41 = .ok (.getfield 11, 3) := by decide +kernel
theorem dX2_handOn_44 : decode cX2_handOn 44 = .ok (.iload_n 2, 1) := by decide +kernel
theorem dX2_handOn_45 : decode cX2_handOn 45 = .ok (.aaload, 1) := by decide +kernel
theorem dX2_handOn_46 : decode cX2_handOn 46 = .ok (.getfield 54, 3) := by decide +kernel
theorem dX2_handOn_49 : decode cX2_handOn 49 = .ok (.ifCond .ne 7, 3) := by decide +kernel
theorem dX2_handOn_52 : decode cX2_handOn 52 = .ok (.iconst 1, 1) := by decide +kernel
theorem dX2_handOn_53 : decode cX2_handOn 53 = .ok (.goto 4, 3) := by decide +kernel
theorem dX2_handOn_56 : decode cX2_handOn 56 = .ok (.iconst 0, 1) := by decide +kernel
theorem dX2_handOn_57 : decode cX2_handOn 57 = .ok (.ior, 1) := by decide +kernel
theorem dX2_handOn_58 : decode cX2_handOn 58 = .ok (.istore_n 1, 1) := by decide +kernel
theorem dX2_handOn_59 : decode cX2_handOn 59 = .ok (.iinc 2 1, 3) := by decide +kernel
theorem dX2_handOn_62 : decode cX2_handOn 62 = .ok (.goto (-58), 3) := by decide +kernel
theorem dX2_handOn_65 : decode cX2_handOn 65 = .ok (.iload_n 1, 1) := by decide +kernel
theorem dX2_handOn_66 : decode cX2_handOn 66 = .ok (.ireturn, 1) := by decide +kernel
theorem dX3_init_0 : decode cX3_init 0 = .ok (.aload_n 0, 1) := by decide +kernel
theorem dX3_init_1 : decode cX3_init 1 = .ok (.invokespecial 3, 3) := by decide +kernel
theorem dX3_init_4 : decode cX3_init 4 = .ok (.aload_n 0, 1) := by decide +kernel
theorem dX3_init_5 : decode cX3_init 5 = .ok (.sipush 1024, 3) := by decide +kernel
theorem dX3_init_8 : decode cX3_init 8 = .ok (.newarray .boolean, 2) := by decide +kernel
theorem dX3_init_10 : decode cX3_init 10 = .ok (.putfield 9, 3) := by decide +kernel
theorem dX3_init_13 : decode cX3_init 13 = .ok (.aload_n 0, 1) := by decide +kernel
theorem dX3_init_14 : decode cX3_init 14 = .ok (.sipush 386, 3) := by decide +kernel
theorem dX3_init_17 : decode cX3_init 17 = .ok (.newarray .int, 2) := by decide +kernel
theorem dX3_init_19 : decode cX3_init 19 = .ok (.putfield 15, 3) := by decide +kernel
theorem dX3_init_22 : decode cX3_init 22 = .ok (.aload_n 0, 1) := by decide +kernel
theorem dX3_init_23 : decode cX3_init 23 = .ok (.sipush 1024, 3) := by decide +kernel
theorem dX3_init_26 : decode cX3_init 26 = .ok (.newarray .int, 2) := by decide +kernel
theorem dX3_init_28 : decode cX3_init 28 = .ok (.putfield 19, 3) := by decide +kernel
theorem dX3_init_31 : decode cX3_init 31 = .ok (.return_, 1) := by decide +kernel
theorem dX3_find_0 : decode cX3_find 0 = .ok (.aload_n 0, 1) := by decide +kernel
theorem dX3_find_1 : decode cX3_find 1 = .ok (.iconst 0, 1) := by decide +kernel
theorem dX3_find_2 : decode cX3_find 2 = .ok (.putfield 22, 3) := by decide +kernel
theorem dX3_find_5 : decode cX3_find 5 = .ok (.aload_n 1, 1) := by decide +kernel
theorem dX3_find_6 : decode cX3_find 6 = .ok (.invokevirtual 26, 3) := by decide +kernel
theorem dX3_find_9 : decode cX3_find 9 = .ok (.sipush 1023, 3) := by decide +kernel
theorem dX3_find_12 : decode cX3_find 12 = .ok (.invokestatic 32, 3) := by decide +kernel
theorem dX3_find_15 : decode cX3_find 15 = .ok (.istore_n 2, 1) := by decide +kernel
theorem dX3_find_16 : decode cX3_find 16 = .ok (.iconst 0, 1) := by decide +kernel
theorem dX3_find_17 : decode cX3_find 17 = .ok (.istore_n 3, 1) := by decide +kernel
theorem dX3_find_18 : decode cX3_find 18 = .ok (.iload_n 3, 1) := by decide +kernel
theorem dX3_find_19 : decode cX3_find 19 = .ok (.iload_n 2, 1) := by decide +kernel
theorem dX3_find_20 : decode cX3_find 20 = .ok (.if_icmp .gt 59, 3) := by decide +kernel
theorem dX3_find_23 : decode cX3_find 23 = .ok (.aload_n 0, 1) := by decide +kernel
theorem dX3_find_24 : decode cX3_find 24 = .ok (.getfield 9, 3) := by decide +kernel
theorem dX3_find_27 : decode cX3_find 27 = .ok (.iload_n 3, 1) := by decide +kernel
theorem dX3_find_28 : decode cX3_find 28 = .ok (.aload_n 1, 1) := by decide +kernel
theorem dX3_find_29 : decode cX3_find 29 = .ok (.iload_n 3, 1) := by decide +kernel
theorem dX3_find_30 : decode cX3_find 30 = .ok (.invokevirtual 38, 3) := by decide +kernel
theorem dX3_find_33 : decode cX3_find 33 = .ok (.bastore, 1) := by decide +kernel
theorem dX3_find_34 : decode cX3_find 34 = .ok (.aload_n 0, 1) := by decide +kernel
theorem dX3_find_35 : decode cX3_find 35 = .ok (.getfield 9, 3) := by decide +kernel
theorem dX3_find_38 : decode cX3_find 38 = .ok (.iload_n 3, 1) := by decide +kernel
theorem dX3_find_39 : decode cX3_find 39 = .ok (.baload, 1) := by decide +kernel
theorem dX3_find_40 : decode cX3_find 40 = .ok (.ifCond .eq 33, 3) := by decide +kernel
theorem dX3_find_43 : decode cX3_find 43 = .ok (.aload_n 0, 1) := by decide +kernel
theorem dX3_find_44 : decode cX3_find 44 = .ok (.getfield 22, 3) := by decide +kernel
theorem dX3_find_47 : decode cX3_find 47 = .ok (.sipush 386, 3) := by decide +kernel
theorem dX3_find_50 : decode cX3_find 50 = .ok (.if_icmp .ge 23, 3) := by decide +kernel
theorem dX3_find_53 : decode cX3_find 53 = .ok (.aload_n 0, 1) := by decide +kernel
theorem dX3_find_54 : decode cX3_find 54 = .ok (.getfield 15, 3) := by decide +kernel
theorem dX3_find_57 : decode cX3_find 57 = .ok (.aload_n 0, 1) := by decide +kernel
theorem dX3_find_58 : decode cX3_find 58 = .ok (.getfield 22, 3) := by decide +kernel
theorem dX3_find_61 : decode cX3_find 61 = .ok (.iload_n 3, 1) := by decide +kernel
theorem dX3_find_62 : decode cX3_find 62 = .ok (.iastore, 1) := by decide +kernel
theorem dX3_find_63 : decode cX3_find 63 = .ok (.aload_n 0, 1) := by decide +kernel
theorem dX3_find_64 : decode cX3_find 64 = .ok (.dup, 1) := by decide +kernel
theorem dX3_find_65 : decode cX3_find 65 = .ok (.getfield 22, 3) := by decide +kernel
theorem dX3_find_68 : decode cX3_find 68 = .ok (.iconst 1, 1) := by decide +kernel
theorem dX3_find_69 : decode cX3_find 69 = .ok (.iadd, 1) := by decide +kernel
theorem dX3_find_70 : decode cX3_find 70 = .ok (.putfield 22, 3) := by decide +kernel
theorem dX3_find_73 : decode cX3_find 73 = .ok (.iinc 3 1, 3) := by decide +kernel
theorem dX3_find_76 : decode cX3_find 76 = .ok (.goto (-58), 3) := by decide +kernel
theorem dX3_find_79 : decode cX3_find 79 = .ok (.return_, 1) := by decide +kernel
theorem dX3_has_0 : decode cX3_has 0 = .ok (.iload_n 1, 1) := by decide +kernel
theorem dX3_has_1 : decode cX3_has 1 = .ok (.ifCond .lt 23, 3) := by decide +kernel
theorem dX3_has_4 : decode cX3_has 4 = .ok (.iload_n 1, 1) := by decide +kernel
theorem dX3_has_5 : decode cX3_has 5 = .ok (.sipush 1024, 3) := by decide +kernel
theorem dX3_has_8 : decode cX3_has 8 = .ok (.if_icmp .ge 16, 3) := by decide +kernel
theorem dX3_has_11 : decode cX3_has 11 = .ok (.aload_n 0, 1) := by decide +kernel
theorem dX3_has_12 : decode cX3_has 12 = .ok (.getfield 9, 3) := by decide +kernel
theorem dX3_has_15 : decode cX3_has 15 = .ok (.iload_n 1, 1) := by decide +kernel
theorem dX3_has_16 : decode cX3_has 16 = .ok (.baload, 1) := by decide +kernel
theorem dX3_has_17 : decode cX3_has 17 = .ok (.ifCond .eq 7, 3) := by decide +kernel
theorem dX3_has_20 : decode cX3_has 20 = .ok (.iconst 1, 1) := by decide +kernel
theorem dX3_has_21 : decode cX3_has 21 = .ok (.goto 4, 3) := by decide +kernel
theorem dX3_has_24 : decode cX3_has 24 = .ok (.iconst 0, 1) := by decide +kernel
theorem dX3_has_25 : decode cX3_has 25 = .ok (.ireturn, 1) := by decide +kernel
theorem dX3_worthiest_0 : decode cX3_worthiest 0 = .ok (.iconst 0, 1) := by decide +kernel
theorem dX3_worthiest_1 : decode cX3_worthiest 1 = .ok (.istore_n 2, 1) := by decide +kernel
theorem dX3_worthiest_2 : decode cX3_worthiest 2 = .ok (.iconst 0, 1) := by decide +kernel
theorem dX3_worthiest_3 : decode cX3_worthiest 3 = .ok (.istore_n 3, 1) := by decide +kernel
theorem dX3_worthiest_4 : decode cX3_worthiest 4 = .ok (.iconst 1, 1) := by decide +kernel
theorem dX3_worthiest_5 : decode cX3_worthiest 5 = .ok (.istore 4, 2) := by decide +kernel
theorem dX3_worthiest_7 : decode cX3_worthiest 7 = .ok (.iload 4, 2) := by decide +kernel
theorem dX3_worthiest_9 : decode cX3_worthiest 9 = .ok (.aload_n 0, 1) := by decide +kernel
theorem dX3_worthiest_10 : decode cX3_worthiest 10 = .ok (.getfield 22, 3) := by decide +kernel
theorem dX3_worthiest_13 : decode cX3_worthiest 13 = .ok (.if_icmp .ge 82, 3) := by decide +kernel
theorem dX3_worthiest_16 : decode cX3_worthiest 16 = .ok (.aload_n 0, 1) := by decide +kernel
theorem dX3_worthiest_17 : decode cX3_worthiest 17 = .ok (.getfield 15, 3) := by decide +kernel
theorem dX3_worthiest_20 : decode cX3_worthiest 20 = .ok (.iload 4, 2) := by decide +kernel
theorem dX3_worthiest_22 : decode cX3_worthiest 22 = .ok (.iaload, 1) := by decide +kernel
theorem dX3_worthiest_23 : decode cX3_worthiest 23 = .ok (.istore 5, 2) := by decide +kernel
theorem dX3_worthiest_25 : decode cX3_worthiest 25 = .ok (.iload_n 3, 1) := by decide +kernel
theorem dX3_worthiest_26 : decode cX3_worthiest 26 = .ok (.bipush 9, 2) := by decide +kernel
theorem dX3_worthiest_28 : decode cX3_worthiest 28 = .ok (.if_icmp .ge 18, 3) := by decide +kernel
theorem dX3_worthiest_31 : decode cX3_worthiest 31 = .ok (.iload 5, 2) := by decide +kernel
theorem dX3_worthiest_33 : decode cX3_worthiest 33 = .ok (.iload_n 3, 1) := by decide +kernel
theorem dX3_worthiest_34 : decode cX3_worthiest 34 = .ok (.iconst 1, 1) := by decide +kernel
theorem dX3_worthiest_35 : decode cX3_worthiest 35 = .ok (.iadd, 1) := by decide +kernel
theorem dX3_worthiest_36 : decode cX3_worthiest 36 = .ok (.ishr, 1) := by decide +kernel
theorem dX3_worthiest_37 : decode cX3_worthiest 37 = .ok (.ifCond .eq 9, 3) := by decide +kernel
theorem dX3_worthiest_40 : decode cX3_worthiest 40 = .ok (.iinc 3 1, 3) := by decide +kernel
theorem dX3_worthiest_43 : decode cX3_worthiest 43 = .ok (.goto (-18), 3) := by decide +kernel
theorem dX3_worthiest_46 : decode cX3_worthiest 46 = .ok (.aload_n 0, 1) := by decide +kernel
theorem dX3_worthiest_47 : decode cX3_worthiest 47 = .ok (.getfield 19, 3) := by decide +kernel
theorem dX3_worthiest_50 : decode cX3_worthiest 50 = .ok (.iload 5, 2) := by decide +kernel
theorem dX3_worthiest_52 : decode cX3_worthiest 52 = .ok (.aload_n 0, 1) := by decide +kernel
theorem dX3_worthiest_53 : decode cX3_worthiest 53 = .ok (.getfield 19, 3) := by decide +kernel
theorem dX3_worthiest_56 : decode cX3_worthiest 56 = .ok (.iload 5, 2) := by decide +kernel
theorem dX3_worthiest_58 : decode cX3_worthiest 58 = .ok (.iconst 1, 1) := by decide +kernel
theorem dX3_worthiest_59 : decode cX3_worthiest 59 = .ok (.iload_n 3, 1) := by decide +kernel
theorem dX3_worthiest_60 : decode cX3_worthiest 60 = .ok (.ishl, 1) := by decide +kernel
theorem dX3_worthiest_61 : decode cX3_worthiest 61 = .ok (.iconst (-1), 1) := by decide +kernel
theorem dX3_worthiest_62 : decode cX3_worthiest 62 = .ok (.ixor, 1) := by decide +kernel
theorem dX3_worthiest_63 : decode cX3_worthiest 63 = .ok (.iand, 1) := by decide +kernel
theorem dX3_worthiest_64 : decode cX3_worthiest 64 = .ok (.iaload, 1) := by decide +kernel
theorem dX3_worthiest_65 : decode cX3_worthiest 65 = .ok (.aload_n 1, 1) := by decide +kernel
theorem dX3_worthiest_66 : decode cX3_worthiest 66 = .ok (.iload_n 3, 1) := by decide +kernel
theorem dX3_worthiest_67 : decode cX3_worthiest 67 = .ok (.iaload, 1) := by decide +kernel
theorem dX3_worthiest_68 : decode cX3_worthiest 68 = .ok (.iadd, 1) := by decide +kernel
theorem dX3_worthiest_69 : decode cX3_worthiest 69 = .ok (.iastore, 1) := by decide +kernel
theorem dX3_worthiest_70 : decode cX3_worthiest 70 = .ok (.aload_n 0, 1) := by decide +kernel
theorem dX3_worthiest_71 : decode cX3_worthiest 71 = .ok (.getfield 19, 3) := by decide +kernel
theorem dX3_worthiest_74 : decode cX3_worthiest 74 = .ok (.iload 5, 2) := by decide +kernel
theorem dX3_worthiest_76 : decode cX3_worthiest 76 = .ok (.iaload, 1) := by decide +kernel
theorem dX3_worthiest_77 : decode cX3_worthiest 77 = .ok (.aload_n 0, 1) := by decide +kernel
theorem dX3_worthiest_78 : decode cX3_worthiest 78 = .ok (.getfield 19, 3) := by decide +kernel
theorem dX3_worthiest_81 : decode cX3_worthiest 81 = .ok (.iload_n 2, 1) := by decide +kernel
theorem dX3_worthiest_82 : decode cX3_worthiest 82 = .ok (.iaload, 1) := by decide +kernel
theorem dX3_worthiest_83 : decode cX3_worthiest 83 = .ok (.if_icmp .le 6, 3) := by decide +kernel
theorem dX3_worthiest_86 : decode cX3_worthiest 86 = .ok (.iload 5, 2) := by decide +kernel
theorem dX3_worthiest_88 : decode cX3_worthiest 88 = .ok (.istore_n 2, 1) := by decide +kernel
theorem dX3_worthiest_89 : decode cX3_worthiest 89 = .ok (.iinc 4 1, 3) := by decide +kernel
theorem dX3_worthiest_92 : decode cX3_worthiest 92 = .ok (.goto (-85), 3) := by decide +kernel
theorem dX3_worthiest_95 : decode cX3_worthiest 95 = .ok (.iload_n 2, 1) := by decide +kernel
theorem dX3_worthiest_96 : decode cX3_worthiest 96 = .ok (.ireturn, 1) := by decide +kernel
theorem dX3_roomBeside_0 : decode cX3_roomBeside 0 = .ok (.iconst 0, 1) := by decide +kernel
theorem dX3_roomBeside_1 : decode cX3_roomBeside 1 = .ok (.istore_n 2, 1) := by decide +kernel
theorem dX3_roomBeside_2 : decode cX3_roomBeside 2 = .ok (.iconst 0, 1) := by decide +kernel
theorem dX3_roomBeside_3 : decode cX3_roomBeside 3 = .ok (.istore_n 3, 1) := by decide +kernel
theorem dX3_roomBeside_4 : decode cX3_roomBeside 4 = .ok (.iload_n 3, 1) := by decide +kernel
theorem dX3_roomBeside_5 : decode cX3_roomBeside 5 = .ok (.bipush 10, 2) := by decide +kernel
theorem dX3_roomBeside_7 : decode cX3_roomBeside 7 = .ok (.if_icmp .ge 35, 3) := by decide +kernel
theorem dX3_roomBeside_10 : decode cX3_roomBeside 10 = .ok (.iload_n 1, 1) := by decide +kernel
theorem dX3_roomBeside_11 : decode cX3_roomBeside 11 = .ok (.iload_n 3, 1) := by decide +kernel
theorem dX3_roomBeside_12 : decode cX3_roomBeside 12 = .ok (.invokestatic 42, 3) := by decide +kernel
theorem dX3_roomBeside_15 : decode cX3_roomBeside 15 = .ok (.ifCond .ne 21, 3) := by decide +kernel
theorem dX3_roomBeside_18 : decode cX3_roomBeside 18 = .ok (.aload_n 0, 1) := by decide +kernel
theorem dX3_roomBeside_19 : decode cX3_roomBeside 19 = .ok (.iload_n 1, 1) := by decide +kernel
theorem dX3_roomBeside_20 : decode cX3_roomBeside 20 = .ok (.iconst 1, 1) := by decide +kernel
theorem dX3_roomBeside_21 : decode cX3_roomBeside 21 = .ok (.iload_n 3, 1) := by decide +kernel
theorem dX3_roomBeside_22 : decode cX3_roomBeside 22 = .ok (.ishl, 1) := by decide +kernel
theorem dX3_roomBeside_23 : decode cX3_roomBeside 23 = .ok (.ior, 1) := by decide +kernel
theorem dX3_roomBeside_24 : decode cX3_roomBeside 24 = .ok (.invokevirtual 46, 3) := by decide +kernel
theorem dX3_roomBeside_27 : decode cX3_roomBeside 27 = .ok (.ifCond .eq 9, 3) := by decide +kernel
theorem dX3_roomBeside_30 : decode cX3_roomBeside 30 = .ok (.iload_n 2, 1) := by decide +kernel
theorem dX3_roomBeside_31 : decode cX3_roomBeside 31 = .ok (.iconst 1, 1) := by decide +kernel
theorem dX3_roomBeside_32 : decode cX3_roomBeside 32 = .ok (.iload_n 3, 1) := by decide +kernel
theorem dX3_roomBeside_33 : decode cX3_roomBeside 33 = .ok (.ishl, 1) := by decide +kernel
theorem dX3_roomBeside_34 : decode cX3_roomBeside 34 = .ok (.ior, 1) := by decide +kernel
theorem dX3_roomBeside_35 : decode cX3_roomBeside 35 = .ok (.istore_n 2, 1) := by decide +kernel
theorem dX3_roomBeside_36 : decode cX3_roomBeside 36 = .ok (.iinc 3 1, 3) := by decide +kernel
theorem dX3_roomBeside_39 : decode cX3_roomBeside 39 = .ok (.goto (-35), 3) := by decide +kernel
theorem dX3_roomBeside_42 : decode cX3_roomBeside 42 = .ok (.iload_n 2, 1) := by decide +kernel
theorem dX3_roomBeside_43 : decode cX3_roomBeside 43 = .ok (.ireturn, 1) := by decide +kernel
theorem dX4_init_0 : decode cX4_init 0 = .ok (.aload_n 0, 1) := by decide +kernel
theorem dX4_init_1 : decode cX4_init 1 = .ok (.invokespecial 3, 3) := by decide +kernel
theorem dX4_init_4 : decode cX4_init 4 = .ok (.aload_n 0, 1) := by decide +kernel
theorem dX4_init_5 : decode cX4_init 5 = .ok (.sipush 5000, 3) := by decide +kernel
theorem dX4_init_8 : decode cX4_init 8 = .ok (.newarray .long, 2) := by decide +kernel
theorem dX4_init_10 : decode cX4_init 10 = .ok (.putfield 9, 3) := by decide +kernel
theorem dX4_init_13 : decode cX4_init 13 = .ok (.aload_n 0, 1) := by decide +kernel
theorem dX4_init_14 : decode cX4_init 14 = .ok (.sipush 5000, 3) := by decide +kernel
theorem dX4_init_17 : decode cX4_init 17 = .ok (.newarray .int, 2) := by decide +kernel
theorem dX4_init_19 : decode cX4_init 19 = .ok (.putfield 15, 3) := by decide +kernel
theorem dX4_init_22 : decode cX4_init 22 = .ok (.aload_n 0, 1) := by decide +kernel
theorem dX4_init_23 : decode cX4_init 23 = .ok (.sipush 8192, 3) := by decide +kernel
theorem dX4_init_26 : decode cX4_init 26 = .ok (.newarray .int, 2) := by decide +kernel
theorem dX4_init_28 : decode cX4_init 28 = .ok (.putfield 19, 3) := by decide +kernel
theorem dX4_init_31 : decode cX4_init 31 = .ok (.aload_n 0, 1) := by decide +kernel
theorem dX4_init_32 : decode cX4_init 32 = .ok (.sipush 386, 3) := by decide +kernel
theorem dX4_init_35 : decode cX4_init 35 = .ok (.newarray .int, 2) := by decide +kernel
theorem dX4_init_37 : decode cX4_init 37 = .ok (.putfield 22, 3) := by decide +kernel
theorem dX4_init_40 : decode cX4_init 40 = .ok (.aload_n 0, 1) := by decide +kernel
theorem dX4_init_41 : decode cX4_init 41 = .ok (.sipush 386, 3) := by decide +kernel
theorem dX4_init_44 : decode cX4_init 44 = .ok (.newarray .long, 2) := by decide +kernel
theorem dX4_init_46 : decode cX4_init 46 = .ok (.putfield 25, 3) := by decide +kernel
theorem dX4_init_49 : decode cX4_init 49 = .ok (.aload_n 0, 1) := by decide +kernel
theorem dX4_init_50 : decode cX4_init 50 = .ok (.sipush 386, 3) := by decide +kernel
theorem dX4_init_53 : decode cX4_init 53 = .ok (.newarray .int, 2) := by decide +kernel
theorem dX4_init_55 : decode cX4_init 55 = .ok (.putfield 28, 3) := by decide +kernel
theorem dX4_init_58 : decode cX4_init 58 = .ok (.return_, 1) := by decide +kernel
theorem dX4_reachesEnd_0 : decode cX4_reachesEnd 0 = .ok (.aload_n 0, 1) := by decide +kernel
theorem dX4_reachesEnd_1 : decode cX4_reachesEnd 1 = .ok (.aload_n 1, 1) := by decide +kernel
theorem dX4_reachesEnd_2 : decode cX4_reachesEnd 2 = .ok (.invokevirtual 31, 3) := by decide +kernel
theorem dX4_reachesEnd_5 : decode cX4_reachesEnd 5 = .ok (.aload_n 0, 1) := by decide +kernel
theorem dX4_reachesEnd_6 : decode cX4_reachesEnd 6 = .ok (.lload_n 2, 1) := by decide +kernel
theorem dX4_reachesEnd_7 : decode cX4_reachesEnd 7 = .ok (.iconst 0, 1) := by decide +kernel
theorem dX4_reachesEnd_8 : decode cX4_reachesEnd 8 = .ok (.aload_n 0, 1) := by decide +kernel
theorem dX4_reachesEnd_9 : decode cX4_reachesEnd 9 = .ok (.lload_n 2, 1) := by decide +kernel
theorem dX4_reachesEnd_10 : decode cX4_reachesEnd 10 = .ok (.invokevirtual 35, 3) := by decide +kernel
theorem dX4_reachesEnd_13 : decode cX4_reachesEnd 13 = .ok (.invokevirtual 39, 3) := by decide +kernel
theorem dX4_reachesEnd_16 : decode cX4_reachesEnd 16 = .ok (.iconst 0, 1) := by decide +kernel
theorem dX4_reachesEnd_17 : decode cX4_reachesEnd 17 = .ok (.istore 4, 2) := by decide +kernel
theorem dX4_reachesEnd_19 : decode cX4_reachesEnd 19 = .ok (.iload 4, 2) := by decide +kernel
theorem dX4_reachesEnd_21 : decode cX4_reachesEnd 21 = .ok (.aload_n 0, 1) := by decide +kernel
theorem dX4_reachesEnd_22 : decode cX4_reachesEnd 22 = .ok (.getfield 43, 3) := by decide +kernel
theorem dX4_reachesEnd_25 : decode cX4_reachesEnd 25 = .ok (.if_icmp .ge 139, 3) := by decide +kernel
theorem dX4_reachesEnd_28 : decode cX4_reachesEnd 28 = .ok (.aload_n 0, 1) := by decide +kernel
theorem dX4_reachesEnd_29 : decode cX4_reachesEnd 29 = .ok (.aload_n 1, 1) := by decide +kernel
theorem dX4_reachesEnd_30 : decode cX4_reachesEnd 30 = .ok (.aload_n 0, 1) := by decide +kernel
theorem dX4_reachesEnd_31 : decode cX4_reachesEnd 31 = .ok (.getfield 9, 3) := by decide +kernel
theorem dX4_reachesEnd_34 : decode cX4_reachesEnd 34 = .ok (.iload 4, 2) := by decide +kernel
theorem dX4_reachesEnd_36 : decode cX4_reachesEnd 36 = .ok (.laload, 1) := by decide +kernel
theorem dX4_reachesEnd_37 : decode cX4_reachesEnd 37 = .ok (.invokestatic 47, 3) := by decide +kernel
theorem dX4_reachesEnd_40 : decode cX4_reachesEnd 40 = .ok (.invokevirtual 50, 3) := by decide +kernel
theorem dX4_reachesEnd_43 : decode cX4_reachesEnd 43 = .ok (.iconst 0, 1) := by decide +kernel
theorem dX4_reachesEnd_44 : decode cX4_reachesEnd 44 = .ok (.istore 5, 2) := by decide +kernel
theorem dX4_reachesEnd_46 : decode cX4_reachesEnd 46 = .ok (.iload 5, 2) := by decide +kernel
theorem dX4_reachesEnd_48 : decode cX4_reachesEnd 48 = .ok (.aload_n 0, 1) := by decide +kernel
theorem dX4_reachesEnd_49 : decode cX4_reachesEnd 49 = .ok (.getfield 54, 3) := by decide +kernel
theorem dX4_reachesEnd_52 : decode cX4_reachesEnd 52 = .ok (.if_icmp .ge 106, 3) := by decide +kernel
theorem dX4_reachesEnd_55 : decode cX4_reachesEnd 55 = .ok (.aload_n 0, 1) := by decide +kernel
theorem dX4_reachesEnd_56 : decode cX4_reachesEnd 56 = .ok (.getfield 28, 3) := by decide +kernel
theorem dX4_reachesEnd_59 : decode cX4_reachesEnd 59 = .ok (.iload 5, 2) := by decide +kernel
theorem dX4_reachesEnd_61 : decode cX4_reachesEnd 61 = .ok (.iaload, 1) := by decide +kernel
theorem dX4_reachesEnd_62 : decode cX4_reachesEnd 62 = .ok (.istore 6, 2) := by decide +kernel
theorem dX4_reachesEnd_64 : decode cX4_reachesEnd 64 = .ok (.aload_n 0, 1) := by decide +kernel
theorem dX4_reachesEnd_65 : decode cX4_reachesEnd 65 = .ok (.getfield 9, 3) := by decide +kernel
theorem dX4_reachesEnd_68 : decode cX4_reachesEnd 68 = .ok (.iload 4, 2) := by decide +kernel
theorem dX4_reachesEnd_70 : decode cX4_reachesEnd 70 = .ok (.laload, 1) := by decide +kernel
theorem dX4_reachesEnd_71 : decode cX4_reachesEnd 71 = .ok (.aload_n 0, 1) := by decide +kernel
theorem dX4_reachesEnd_72 : decode cX4_reachesEnd 72 = .ok (.getfield 25, 3) := by decide +kernel
theorem dX4_reachesEnd_75 : decode cX4_reachesEnd 75 = .ok (.iload 6, 2) := by decide +kernel
theorem dX4_reachesEnd_77 : decode cX4_reachesEnd 77 = .ok (.laload, 1) := by decide +kernel
theorem dX4_reachesEnd_78 : decode cX4_reachesEnd 78 = .ok (.lsub, 1) := by decide +kernel
theorem dX4_reachesEnd_79 : decode cX4_reachesEnd 79 = .ok (.lstore 7, 2) := by decide +kernel
theorem dX4_reachesEnd_81 : decode cX4_reachesEnd 81 = .ok (.iload 4, 2) := by decide +kernel
theorem dX4_reachesEnd_83 : decode cX4_reachesEnd 83 = .ok (.sipush 1024, 3) := by decide +kernel
theorem dX4_reachesEnd_86 : decode cX4_reachesEnd 86 = .ok (.imul, 1) := by decide +kernel
theorem dX4_reachesEnd_87 : decode cX4_reachesEnd 87 = .ok (.aload_n 1, 1) := by decide +kernel
theorem dX4_reachesEnd_88 : decode cX4_reachesEnd 88 = .ok (.getfield 57, 3) := by decide +kernel
theorem dX4_reachesEnd_91 : decode cX4_reachesEnd 91 = .ok (.iload 6, 2) := by decide +kernel
theorem dX4_reachesEnd_93 : decode cX4_reachesEnd 93 = .ok (.iaload, 1) := by decide +kernel
theorem dX4_reachesEnd_94 : decode cX4_reachesEnd 94 = .ok (.iadd, 1) := by decide +kernel
theorem dX4_reachesEnd_95 : decode cX4_reachesEnd 95 = .ok (.istore 9, 2) := by decide +kernel
theorem dX4_reachesEnd_97 : decode cX4_reachesEnd 97 = .ok (.lload 7, 2) := by decide +kernel
theorem dX4_reachesEnd_99 : decode cX4_reachesEnd 99 = .ok (.lconst 0, 1) := by decide +kernel
theorem dX4_reachesEnd_100 : decode cX4_reachesEnd 100 = .ok (.lcmp, 1) := by decide +kernel
theorem dX4_reachesEnd_101 : decode cX4_reachesEnd 101 = .ok (.ifCond .ne 11, 3) := by decide +kernel
theorem dX4_reachesEnd_104 : decode cX4_reachesEnd 104 = .ok (.aload_n 0, 1) := by decide +kernel
theorem dX4_reachesEnd_105 : decode cX4_reachesEnd 105 = .ok (.iload 9, 2) := by decide +kernel
theorem dX4_reachesEnd_107 : decode cX4_reachesEnd 107 = .ok (.putfield 62, 3) := by decide +kernel
theorem dX4_reachesEnd_110 : decode cX4_reachesEnd 110 = .ok (.iconst 1, 1) := by decide +kernel
theorem dX4_reachesEnd_111 : decode cX4_reachesEnd 111 = .ok (.ireturn, 1) := by decide +kernel
theorem dX4_reachesEnd_112 : decode cX4_reachesEnd 112 = .ok (.aload_n 0, 1) := by decide +kernel
theorem dX4_reachesEnd_113 : decode cX4_reachesEnd 113 = .ok (.lload 7, 2) := by decide +kernel
theorem dX4_reachesEnd_115 : decode cX4_reachesEnd 115 = .ok (.invokevirtual 35, 3) := by decide +kernel
theorem dX4_reachesEnd_118 : decode cX4_reachesEnd 118 = .ok (.istore 10, 2) := by decide +kernel
theorem dX4_reachesEnd_120 : decode cX4_reachesEnd 120 = .ok (.aload_n 0, 1) := by decide +kernel
theorem dX4_reachesEnd_121 : decode cX4_reachesEnd 121 = .ok (.getfield 19, 3) := by decide +kernel
theorem dX4_reachesEnd_124 : decode cX4_reachesEnd 124 = .ok (.iload 10, 2) := by decide +kernel
theorem dX4_reachesEnd_126 : decode cX4_reachesEnd 126 = .ok (.iaload, 1) := by decide +kernel
theorem dX4_reachesEnd_127 : decode cX4_reachesEnd 127 = .ok (.ifCond .ne 25, 3) := by decide +kernel
theorem dX4_reachesEnd_130 : decode cX4_reachesEnd 130 = .ok (.aload_n 0, 1) := by decide +kernel
theorem dX4_reachesEnd_131 : decode cX4_reachesEnd 131 = .ok (.getfield 43, 3) := by decide +kernel
theorem dX4_reachesEnd_134 : decode cX4_reachesEnd 134 = .ok (.sipush 5000, 3) := by decide +kernel
theorem dX4_reachesEnd_137 : decode cX4_reachesEnd 137 = .ok (.if_icmp .lt 5, 3) := by decide +kernel
theorem dX4_reachesEnd_140 : decode cX4_reachesEnd 140 = .ok (.iconst 0, 1) := by decide +kernel
theorem dX4_reachesEnd_141 : decode cX4_reachesEnd 141 = .ok (.ireturn, 1) := by decide +kernel
theorem dX4_reachesEnd_142 : decode cX4_reachesEnd 142 = .ok (.aload_n 0, 1) := by decide +kernel
theorem dX4_reachesEnd_143 : decode cX4_reachesEnd 143 = .ok (.lload 7, 2) := by decide +kernel
theorem dX4_reachesEnd_145 : decode cX4_reachesEnd 145 = .ok (.iload 9, 2) := by decide +kernel
theorem dX4_reachesEnd_147 : decode cX4_reachesEnd 147 = .ok (.iload 10, 2) := by decide +kernel
theorem dX4_reachesEnd_149 : decode cX4_reachesEnd 149 = .ok (.invokevirtual 39, 3) := by decide +kernel
theorem dX4_reachesEnd_152 : decode cX4_reachesEnd 152 = .ok (.iinc 5 1, 3) := by decide +kernel
theorem dX4_reachesEnd_155 : decode cX4_reachesEnd 155 = .ok (.goto (-109), 3) := by decide +kernel
theorem dX4_reachesEnd_158 : decode cX4_reachesEnd 158 = .ok (.iinc 4 1, 3) := by decide +kernel
theorem dX4_reachesEnd_161 : decode cX4_reachesEnd 161 = .ok (.goto (-142), 3) := by decide +kernel
theorem dX4_reachesEnd_164 : decode cX4_reachesEnd 164 = .ok (.iconst 0, 1) := by decide +kernel
theorem dX4_reachesEnd_165 : decode cX4_reachesEnd 165 = .ok (.ireturn, 1) := by decide +kernel
theorem dX4_prepare_0 : decode cX4_prepare 0 = .ok (.aload_n 0, 1) := by decide +kernel
theorem dX4_prepare_1 : decode cX4_prepare 1 = .ok (.getfield 19, 3) := by decide +kernel
theorem dX4_prepare_4 : decode cX4_prepare 4 = .ok (.iconst 0, 1) := by decide +kernel
theorem dX4_prepare_5 : decode cX4_prepare 5 = .ok (.invokestatic 65, 3) := by decide +kernel
theorem dX4_prepare_8 : decode cX4_prepare 8 = .ok (.aload_n 0, 1) := by decide +kernel
theorem dX4_prepare_9 : decode cX4_prepare 9 = .ok (.iconst 0, 1) := by decide +kernel
theorem dX4_prepare_10 : decode cX4_prepare 10 = .ok (.putfield 43, 3) := by decide +kernel
theorem dX4_prepare_13 : decode cX4_prepare 13 = .ok (.aload_n 0, 1) := by decide +kernel
theorem dX4_prepare_14 : decode cX4_prepare 14 = .ok (.iconst 0, 1) := by decide +kernel
theorem dX4_prepare_15 : decode cX4_prepare 15 = .ok (.putfield 71, 3) := by decide +kernel
theorem dX4_prepare_18 : decode cX4_prepare 18 = .ok (.aload_n 0, 1) := by decide +kernel
theorem dX4_prepare_19 : decode cX4_prepare 19 = .ok (.iconst 0, 1) := by decide +kernel
theorem dX4_prepare_20 : decode cX4_prepare 20 = .ok (.putfield 54, 3) := by decide +kernel
theorem dX4_prepare_23 : decode cX4_prepare 23 = .ok (.iconst 0, 1) := by decide +kernel
theorem dX4_prepare_24 : decode cX4_prepare 24 = .ok (.istore_n 2, 1) := by decide +kernel
theorem dX4_prepare_25 : decode cX4_prepare 25 = .ok (.iload_n 2, 1) := by decide +kernel
theorem dX4_prepare_26 : decode cX4_prepare 26 = .ok (.aload_n 1, 1) := by decide +kernel
theorem dX4_prepare_27 : decode cX4_prepare 27 = .ok (.getfield 74, 3) := by decide +kernel
theorem dX4_prepare_30 : decode cX4_prepare 30 = .ok (.if_icmp .ge 40, 3) := by decide +kernel
theorem dX4_prepare_33 : decode cX4_prepare 33 = .ok (.aload_n 0, 1) := by decide +kernel
theorem dX4_prepare_34 : decode cX4_prepare 34 = .ok (.getfield 22, 3) := by decide +kernel
theorem dX4_prepare_37 : decode cX4_prepare 37 = .ok (.iload_n 2, 1) := by decide +kernel
theorem dX4_prepare_38 : decode cX4_prepare 38 = .ok (.aload_n 1, 1) := by decide +kernel
theorem dX4_prepare_39 : decode cX4_prepare 39 = .ok (.aload_n 1, 1) := by decide +kernel
theorem dX4_prepare_40 : decode cX4_prepare 40 = .ok (.getfield 57, 3) := by decide +kernel
theorem dX4_prepare_43 : decode cX4_prepare 43 = .ok (.iload_n 2, 1) := by decide +kernel
theorem dX4_prepare_44 : decode cX4_prepare 44 = .ok (.iaload, 1) := by decide +kernel
theorem dX4_prepare_45 : decode cX4_prepare 45 = .ok (.invokevirtual 75, 3) := by decide +kernel
theorem dX4_prepare_48 : decode cX4_prepare 48 = .ok (.iastore, 1) := by decide +kernel
theorem dX4_prepare_49 : decode cX4_prepare 49 = .ok (.aload_n 0, 1) := by decide +kernel
theorem dX4_prepare_50 : decode cX4_prepare 50 = .ok (.getfield 25, 3) := by decide +kernel
theorem dX4_prepare_53 : decode cX4_prepare 53 = .ok (.iload_n 2, 1) := by decide +kernel
theorem dX4_prepare_54 : decode cX4_prepare 54 = .ok (.aload_n 1, 1) := by decide +kernel
theorem dX4_prepare_55 : decode cX4_prepare 55 = .ok (.getfield 57, 3) := by decide +kernel
theorem dX4_prepare_58 : decode cX4_prepare 58 = .ok (.iload_n 2, 1) := by decide +kernel
theorem dX4_prepare_59 : decode cX4_prepare 59 = .ok (.iaload, 1) := by decide +kernel
theorem dX4_prepare_60 : decode cX4_prepare 60 = .ok (.invokestatic 79, 3) := by decide +kernel
theorem dX4_prepare_63 : decode cX4_prepare 63 = .ok (.lastore, 1) := by decide +kernel
theorem dX4_prepare_64 : decode cX4_prepare 64 = .ok (.iinc 2 1, 3) := by decide +kernel
theorem dX4_prepare_67 : decode cX4_prepare 67 = .ok (.goto (-42), 3) := by decide +kernel
theorem dX4_prepare_70 : decode cX4_prepare 70 = .ok (.return_, 1) := by decide +kernel
theorem dX4_onceEach_0 : decode cX4_onceEach 0 = .ok (.lconst 0, 1) := by decide +kernel
theorem dX4_onceEach_1 : decode cX4_onceEach 1 = .ok (.lstore_n 1, 1) := by decide +kernel
theorem dX4_onceEach_2 : decode cX4_onceEach 2 = .ok (.iconst 0, 1) := by decide +kernel
theorem dX4_onceEach_3 : decode cX4_onceEach 3 = .ok (.istore_n 3, 1) := by decide +kernel
theorem dX4_onceEach_4 : decode cX4_onceEach 4 = .ok (.iload_n 3, 1) := by decide +kernel
theorem dX4_onceEach_5 : decode cX4_onceEach 5 = .ok (.bipush 10, 2) := by decide +kernel
theorem dX4_onceEach_7 : decode cX4_onceEach 7 = .ok (.if_icmp .ge 25, 3) := by decide +kernel
theorem dX4_onceEach_10 : decode cX4_onceEach 10 = .ok (.iload_n 0, 1) := by decide +kernel
theorem dX4_onceEach_11 : decode cX4_onceEach 11 = .ok (.iload_n 3, 1) := by decide +kernel
theorem dX4_onceEach_12 : decode cX4_onceEach 12 = .ok (.invokestatic 83, 3) := by decide +kernel
theorem dX4_onceEach_15 : decode cX4_onceEach 15 = .ok (.ifCond .eq 11, 3) := by decide +kernel
theorem dX4_onceEach_18 : decode cX4_onceEach 18 = .ok (.lload_n 1, 1) := by decide +kernel
theorem dX4_onceEach_19 : decode cX4_onceEach 19 = .ok (.lconst 1, 1) := by decide +kernel
theorem dX4_onceEach_20 : decode cX4_onceEach 20 = .ok (.iconst 4, 1) := by decide +kernel
theorem dX4_onceEach_21 : decode cX4_onceEach 21 = .ok (.iload_n 3, 1) := by decide +kernel
theorem dX4_onceEach_22 : decode cX4_onceEach 22 = .ok (.imul, 1) := by decide +kernel
theorem dX4_onceEach_23 : decode cX4_onceEach 23 = .ok (.lshl, 1) := by decide +kernel
theorem dX4_onceEach_24 : decode cX4_onceEach 24 = .ok (.lor, 1) := by decide +kernel
theorem dX4_onceEach_25 : decode cX4_onceEach 25 = .ok (.lstore_n 1, 1) := by decide +kernel
theorem dX4_onceEach_26 : decode cX4_onceEach 26 = .ok (.iinc 3 1, 3) := by decide +kernel
theorem dX4_onceEach_29 : decode cX4_onceEach 29 = .ok (.goto (-25), 3) := by decide +kernel
theorem dX4_onceEach_32 : decode cX4_onceEach 32 = .ok (.lload_n 1, 1) := by decide +kernel
theorem dX4_onceEach_33 : decode cX4_onceEach 33 = .ok (.lreturn, 1) := by decide +kernel
theorem dX4_lacking_0 : decode cX4_lacking 0 = .ok (.iconst 0, 1) := by decide +kernel
theorem dX4_lacking_1 : decode cX4_lacking 1 = .ok (.istore_n 2, 1) := by decide +kernel
theorem dX4_lacking_2 : decode cX4_lacking 2 = .ok (.iconst 0, 1) := by decide +kernel
theorem dX4_lacking_3 : decode cX4_lacking 3 = .ok (.istore_n 3, 1) := by decide +kernel
theorem dX4_lacking_4 : decode cX4_lacking 4 = .ok (.iload_n 3, 1) := by decide +kernel
theorem dX4_lacking_5 : decode cX4_lacking 5 = .ok (.bipush 10, 2) := by decide +kernel
theorem dX4_lacking_7 : decode cX4_lacking 7 = .ok (.if_icmp .ge 29, 3) := by decide +kernel
theorem dX4_lacking_10 : decode cX4_lacking 10 = .ok (.lload_n 0, 1) := by decide +kernel
theorem dX4_lacking_11 : decode cX4_lacking 11 = .ok (.iconst 4, 1) := by decide +kernel
theorem dX4_lacking_12 : decode cX4_lacking 12 = .ok (.iload_n 3, 1) := by decide +kernel
theorem dX4_lacking_13 : decode cX4_lacking 13 = .ok (.imul, 1) := by decide +kernel
theorem dX4_lacking_14 : decode cX4_lacking 14 = .ok (.lshr, 1) := by decide +kernel
theorem dX4_lacking_15 : decode cX4_lacking 15 = .ok (.ldc2_w 87, 3) := by decide +kernel
theorem dX4_lacking_18 : decode cX4_lacking 18 = .ok (.land, 1) := by decide +kernel
theorem dX4_lacking_19 : decode cX4_lacking 19 = .ok (.lconst 0, 1) := by decide +kernel
theorem dX4_lacking_20 : decode cX4_lacking 20 = .ok (.lcmp, 1) := by decide +kernel
theorem dX4_lacking_21 : decode cX4_lacking 21 = .ok (.ifCond .eq 9, 3) := by decide +kernel
theorem dX4_lacking_24 : decode cX4_lacking 24 = .ok (.iload_n 2, 1) := by decide +kernel
theorem dX4_lacking_25 : decode cX4_lacking 25 = .ok (.iconst 1, 1) := by decide +kernel
theorem dX4_lacking_26 : decode cX4_lacking 26 = .ok (.iload_n 3, 1) := by decide +kernel
theorem dX4_lacking_27 : decode cX4_lacking 27 = .ok (.ishl, 1) := by decide +kernel
theorem dX4_lacking_28 : decode cX4_lacking 28 = .ok (.ior, 1) := by decide +kernel
theorem dX4_lacking_29 : decode cX4_lacking 29 = .ok (.istore_n 2, 1) := by decide +kernel
theorem dX4_lacking_30 : decode cX4_lacking 30 = .ok (.iinc 3 1, 3) := by decide +kernel
theorem dX4_lacking_33 : decode cX4_lacking 33 = .ok (.goto (-29), 3) := by decide +kernel
theorem dX4_lacking_36 : decode cX4_lacking 36 = .ok (.iload_n 2, 1) := by decide +kernel
theorem dX4_lacking_37 : decode cX4_lacking 37 = .ok (.ireturn, 1) := by decide +kernel
theorem dX4_chooseWidest_0 : decode cX4_chooseWidest 0 = .ok (.iload_n 2, 1) := by decide +kernel
theorem dX4_chooseWidest_1 : decode cX4_chooseWidest 1 = .ok (.aload_n 0, 1) := by decide +kernel
theorem dX4_chooseWidest_2 : decode cX4_chooseWidest 2 = .ok (.getfield 71, 3) := by decide +kernel
theorem dX4_chooseWidest_5 : decode cX4_chooseWidest 5 = .ok (.if_icmp .ne 4, 3) := by decide +kernel
theorem dX4_chooseWidest_8 : decode cX4_chooseWidest 8 = .ok (.return_, 1) := by decide +kernel
theorem dX4_chooseWidest_9 : decode cX4_chooseWidest 9 = .ok (.aload_n 0, 1) := by decide +kernel
theorem dX4_chooseWidest_10 : decode cX4_chooseWidest 10 = .ok (.iload_n 2, 1) := by decide +kernel
theorem dX4_chooseWidest_11 : decode cX4_chooseWidest 11 = .ok (.putfield 71, 3) := by decide +kernel
theorem dX4_chooseWidest_14 : decode cX4_chooseWidest 14 = .ok (.aload_n 0, 1) := by decide +kernel
theorem dX4_chooseWidest_15 : decode cX4_chooseWidest 15 = .ok (.iconst 0, 1) := by decide +kernel
theorem dX4_chooseWidest_16 : decode cX4_chooseWidest 16 = .ok (.putfield 54, 3) := by decide +kernel
theorem dX4_chooseWidest_19 : decode cX4_chooseWidest 19 = .ok (.iconst 0, 1) := by decide +kernel
theorem dX4_chooseWidest_20 : decode cX4_chooseWidest 20 = .ok (.istore_n 3, 1) := by decide +kernel
theorem dX4_chooseWidest_21 : decode cX4_chooseWidest 21 = .ok (.iload_n 3, 1) := by decide +kernel
theorem dX4_chooseWidest_22 : decode cX4_chooseWidest 22 = .ok (.aload_n 1, 1) := by decide +kernel
theorem dX4_chooseWidest_23 : decode cX4_chooseWidest 23 = .ok (.getfield 74, 3) := by decide +kernel
theorem dX4_chooseWidest_26 : decode cX4_chooseWidest 26 = .ok (.if_icmp .ge 53, 3) := by decide +kernel
theorem dX4_chooseWidest_29 : decode cX4_chooseWidest 29 = .ok (.aload_n 1, 1) := by decide +kernel
theorem dX4_chooseWidest_30 : decode cX4_chooseWidest 30 = .ok (.getfield 57, 3) := by decide +kernel
theorem dX4_chooseWidest_33 : decode cX4_chooseWidest 33 = .ok (.iload_n 3, 1) := by decide +kernel
theorem dX4_chooseWidest_34 : decode cX4_chooseWidest 34 = .ok (.iaload, 1) := by decide +kernel
theorem dX4_chooseWidest_35 : decode cX4_chooseWidest 35 = .ok (.iload_n 2, 1) := by decide +kernel
theorem dX4_chooseWidest_36 : decode cX4_chooseWidest 36 = .ok (.iconst (-1), 1) := by decide +kernel
theorem dX4_chooseWidest_37 : decode cX4_chooseWidest 37 = .ok (.ixor, 1) := by decide +kernel
theorem dX4_chooseWidest_38 : decode cX4_chooseWidest 38 = .ok (.iand, 1) := by decide +kernel
theorem dX4_chooseWidest_39 : decode cX4_chooseWidest 39 = .ok (.ifCond .ne 34, 3) := by decide +kernel
theorem dX4_chooseWidest_42 : decode cX4_chooseWidest 42 = .ok (.aload_n 0, 1) := by decide +kernel
theorem dX4_chooseWidest_43 : decode cX4_chooseWidest 43 = .ok (.getfield 22, 3) := by decide +kernel
theorem dX4_chooseWidest_46 : decode cX4_chooseWidest 46 = .ok (.iload_n 3, 1) := by decide +kernel
theorem dX4_chooseWidest_47 : decode cX4_chooseWidest 47 = .ok (.iaload, 1) := by decide +kernel
theorem dX4_chooseWidest_48 : decode cX4_chooseWidest 48 = .ok (.iload_n 2, 1) := by decide +kernel
theorem dX4_chooseWidest_49 : decode cX4_chooseWidest 49 = .ok (.iand, 1) := by decide +kernel
theorem dX4_chooseWidest_50 : decode cX4_chooseWidest 50 = .ok (.ifCond .ne 23, 3) := by decide +kernel
theorem dX4_chooseWidest_53 : decode cX4_chooseWidest 53 = .ok (.aload_n 0, 1) := by decide +kernel
theorem dX4_chooseWidest_54 : decode cX4_chooseWidest 54 = .ok (.getfield 28, 3) := by decide +kernel
theorem dX4_chooseWidest_57 : decode cX4_chooseWidest 57 = .ok (.aload_n 0, 1) := by decide +kernel
theorem dX4_chooseWidest_58 : decode cX4_chooseWidest 58 = .ok (.getfield 54, 3) := by decide +kernel
theorem dX4_chooseWidest_61 : decode cX4_chooseWidest 61 = .ok (.iload_n 3, 1) := by decide +kernel
theorem dX4_chooseWidest_62 : decode cX4_chooseWidest 62 = .ok (.iastore, 1) := by decide +kernel
theorem dX4_chooseWidest_63 : decode cX4_chooseWidest 63 = .ok (.aload_n 0, 1) := by decide +kernel
theorem dX4_chooseWidest_64 : decode cX4_chooseWidest 64 = .ok (.dup, 1) := by decide +kernel
theorem dX4_chooseWidest_65 : decode cX4_chooseWidest 65 = .ok (.getfield 54, 3) := by decide +kernel
theorem dX4_chooseWidest_68 : decode cX4_chooseWidest 68 = .ok (.iconst 1, 1) := by decide +kernel
theorem dX4_chooseWidest_69 : decode cX4_chooseWidest 69 = .ok (.iadd, 1) := by decide +kernel
theorem dX4_chooseWidest_70 : decode cX4_chooseWidest 70 = .ok (.putfield 54, 3) := by decide +kernel
theorem dX4_chooseWidest_73 : decode cX4_chooseWidest 73 = .ok (.iinc 3 1, 3) := by decide +kernel
theorem dX4_chooseWidest_76 : decode cX4_chooseWidest 76 = .ok (.goto (-55), 3) := by decide +kernel
theorem dX4_chooseWidest_79 : decode cX4_chooseWidest 79 = .ok (.return_, 1) := by decide +kernel
theorem dX4_spotOf_0 : decode cX4_spotOf 0 = .ok (.lload_n 1, 1) := by decide +kernel
theorem dX4_spotOf_1 : decode cX4_spotOf 1 = .ok (.ldc2_w 89, 3) := by decide +kernel
theorem dX4_spotOf_4 : decode cX4_spotOf 4 = .ok (.lmul, 1) := by decide +kernel
theorem dX4_spotOf_5 : decode cX4_spotOf 5 = .ok (.bipush 51, 2) := by decide +kernel
theorem dX4_spotOf_7 : decode cX4_spotOf 7 = .ok (.lushr, 1) := by decide +kernel
theorem dX4_spotOf_8 : decode cX4_spotOf 8 = .ok (.l2i, 1) := by decide +kernel
theorem dX4_spotOf_9 : decode cX4_spotOf 9 = .ok (.istore_n 3, 1) := by decide +kernel
theorem dX4_spotOf_10 : decode cX4_spotOf 10 = .ok (.iconst 0, 1) := by decide +kernel
theorem dX4_spotOf_11 : decode cX4_spotOf 11 = .ok (.istore 4, 2) := by decide +kernel
theorem dX4_spotOf_13 : decode cX4_spotOf 13 = .ok (.iload 4, 2) := by decide +kernel
theorem dX4_spotOf_15 : decode cX4_spotOf 15 = .ok (.sipush 8192, 3) := by decide +kernel
theorem dX4_spotOf_18 : decode cX4_spotOf 18 = .ok (.if_icmp .ge 46, 3) := by decide +kernel
theorem dX4_spotOf_21 : decode cX4_spotOf 21 = .ok (.aload_n 0, 1) := by decide +kernel
theorem dX4_spotOf_22 : decode cX4_spotOf 22 = .ok (.getfield 19, 3) := by decide +kernel
theorem dX4_spotOf_25 : decode cX4_spotOf 25 = .ok (.iload_n 3, 1) := by decide +kernel
theorem dX4_spotOf_26 : decode cX4_spotOf 26 = .ok (.iaload, 1) := by decide +kernel
theorem dX4_spotOf_27 : decode cX4_spotOf 27 = .ok (.ifCond .eq 21, 3) := by decide +kernel
theorem dX4_spotOf_30 : decode cX4_spotOf 30 = .ok (.aload_n 0, 1) := by decide +kernel
theorem dX4_spotOf_31 : decode cX4_spotOf 31 = .ok (.getfield 9, 3) := by decide +kernel
theorem dX4_spotOf_34 : decode cX4_spotOf 34 = .ok (.aload_n 0, 1) := by decide +kernel
theorem dX4_spotOf_35 : decode cX4_spotOf 35 = .ok (.getfield 19, 3) := by decide +kernel
theorem dX4_spotOf_38 : decode cX4_spotOf 38 = .ok (.iload_n 3, 1) := by decide +kernel
theorem dX4_spotOf_39 : decode cX4_spotOf 39 = .ok (.iaload, 1) := by decide +kernel
theorem dX4_spotOf_40 : decode cX4_spotOf 40 = .ok (.iconst 1, 1) := by decide +kernel
theorem dX4_spotOf_41 : decode cX4_spotOf 41 = .ok (.isub, 1) := by decide +kernel
theorem dX4_spotOf_42 : decode cX4_spotOf 42 = .ok (.laload, 1) := by decide +kernel
theorem dX4_spotOf_43 : decode cX4_spotOf 43 = .ok (.lload_n 1, 1) := by decide +kernel
theorem dX4_spotOf_44 : decode cX4_spotOf 44 = .ok (.lcmp, 1) := by decide +kernel
theorem dX4_spotOf_45 : decode cX4_spotOf 45 = .ok (.ifCond .ne 5, 3) := by decide +kernel
theorem dX4_spotOf_48 : decode cX4_spotOf 48 = .ok (.iload_n 3, 1) := by decide +kernel
theorem dX4_spotOf_49 : decode cX4_spotOf 49 = .ok (.ireturn, 1) := by decide +kernel
theorem dX4_spotOf_50 : decode cX4_spotOf 50 = .ok (.iload_n 3, 1) := by decide +kernel
theorem dX4_spotOf_51 : decode cX4_spotOf 51 = .ok (.iconst 1, 1) := by decide +kernel
theorem dX4_spotOf_52 : decode cX4_spotOf 52 = .ok (.iadd, 1) := by decide +kernel
theorem dX4_spotOf_53 : decode cX4_spotOf 53 = .ok (.sipush 8191, 3) := by decide +kernel
theorem dX4_spotOf_56 : decode cX4_spotOf 56 = .ok (.iand, 1) := by decide +kernel
theorem dX4_spotOf_57 : decode cX4_spotOf 57 = .ok (.istore_n 3, 1) := by decide +kernel
theorem dX4_spotOf_58 : decode cX4_spotOf 58 = .ok (.iinc 4 1, 3) := by decide +kernel
theorem dX4_spotOf_61 : decode cX4_spotOf 61 = .ok (.goto (-48), 3) := by decide +kernel
theorem dX4_spotOf_64 : decode cX4_spotOf 64 = .ok (.iload_n 3, 1) := by decide +kernel
theorem dX4_spotOf_65 : decode cX4_spotOf 65 = .ok (.ireturn, 1) := by decide +kernel
theorem dX4_remember_0 : decode cX4_remember 0 = .ok (.aload_n 0, 1) := by decide +kernel
theorem dX4_remember_1 : decode cX4_remember 1 = .ok (.getfield 9, 3) := by decide +kernel
theorem dX4_remember_4 : decode cX4_remember 4 = .ok (.aload_n 0, 1) := by decide +kernel
theorem dX4_remember_5 : decode cX4_remember 5 = .ok (.getfield 43, 3) := by decide +kernel
theorem dX4_remember_8 : decode cX4_remember 8 = .ok (.lload_n 1, 1) := by decide +kernel
theorem dX4_remember_9 : decode cX4_remember 9 = .ok (.lastore, 1) := by decide +kernel
theorem dX4_remember_10 : decode cX4_remember 10 = .ok (.aload_n 0, 1) := by decide +kernel
theorem dX4_remember_11 : decode cX4_remember 11 = .ok (.getfield 15, 3) := by decide +kernel
theorem dX4_remember_14 : decode cX4_remember 14 = .ok (.aload_n 0, 1) := by decide +kernel
theorem dX4_remember_15 : decode cX4_remember 15 = .ok (.getfield 43, 3) := by decide +kernel
theorem dX4_remember_18 : decode cX4_remember 18 = .ok (.iload_n 3, 1) := by decide +kernel
theorem dX4_remember_19 : decode cX4_remember 19 = .ok (.iastore, 1) := by decide +kernel
theorem dX4_remember_20 : decode cX4_remember 20 = .ok (.aload_n 0, 1) := by decide +kernel
theorem dX4_remember_21 : decode cX4_remember 21 = .ok (.dup, 1) := by decide +kernel
theorem dX4_remember_22 : decode cX4_remember 22 = .ok (.getfield 43, 3) := by decide +kernel
theorem dX4_remember_25 : decode cX4_remember 25 = .ok (.iconst 1, 1) := by decide +kernel
theorem dX4_remember_26 : decode cX4_remember 26 = .ok (.iadd, 1) := by decide +kernel
theorem dX4_remember_27 : decode cX4_remember 27 = .ok (.putfield 43, 3) := by decide +kernel
theorem dX4_remember_30 : decode cX4_remember 30 = .ok (.aload_n 0, 1) := by decide +kernel
theorem dX4_remember_31 : decode cX4_remember 31 = .ok (.getfield 19, 3) := by decide +kernel
theorem dX4_remember_34 : decode cX4_remember 34 = .ok (.iload 4, 2) := by decide +kernel
theorem dX4_remember_36 : decode cX4_remember 36 = .ok (.aload_n 0, 1) := by decide +kernel
theorem dX4_remember_37 : decode cX4_remember 37 = .ok (.getfield 43, 3) := by decide +kernel
theorem dX4_remember_40 : decode cX4_remember 40 = .ok (.iastore, 1) := by decide +kernel
theorem dX4_remember_41 : decode cX4_remember 41 = .ok (.return_, 1) := by decide +kernel
theorem dX4_tellRow_0 : decode cX4_tellRow 0 = .ok (.iconst 1, 1) := by decide +kernel
theorem dX4_tellRow_1 : decode cX4_tellRow 1 = .ok (.istore_n 2, 1) := by decide +kernel
theorem dX4_tellRow_2 : decode cX4_tellRow 2 = .ok (.aload_n 1, 1) := by decide +kernel
theorem dX4_tellRow_3 : decode cX4_tellRow 3 = .ok (.getfield 91, 3) := by decide +kernel
theorem dX4_tellRow_6 : decode cX4_tellRow 6 = .ok (.arraylength, 1) := by decide +kernel
theorem dX4_tellRow_7 : decode cX4_tellRow 7 = .ok (.istore_n 3, 1) := by decide +kernel
theorem dX4_tellRow_8 : decode cX4_tellRow 8 = .ok (.aload_n 0, 1) := by decide +kernel
theorem dX4_tellRow_9 : decode cX4_tellRow 9 = .ok (.getfield 62, 3) := by decide +kernel
theorem dX4_tellRow_12 : decode cX4_tellRow 12 = .ok (.sipush 1024, 3) := by decide +kernel
theorem dX4_tellRow_15 : decode cX4_tellRow 15 = .ok (.idiv, 1) := by decide +kernel
theorem dX4_tellRow_16 : decode cX4_tellRow 16 = .ok (.istore 4, 2) := by decide +kernel
theorem dX4_tellRow_18 : decode cX4_tellRow 18 = .ok (.iload 4, 2) := by decide +kernel
theorem dX4_tellRow_20 : decode cX4_tellRow 20 = .ok (.ifCond .le 27, 3) := by decide +kernel
theorem dX4_tellRow_23 : decode cX4_tellRow 23 = .ok (.iload_n 2, 1) := by decide +kernel
theorem dX4_tellRow_24 : decode cX4_tellRow 24 = .ok (.iload_n 3, 1) := by decide +kernel
theorem dX4_tellRow_25 : decode cX4_tellRow 25 = .ok (.if_icmp .ge 22, 3) := by decide +kernel
theorem dX4_tellRow_28 : decode cX4_tellRow 28 = .ok (.iinc 2 1, 3) := by decide +kernel
theorem dX4_tellRow_31 : decode cX4_tellRow 31 = .ok (.aload_n 0, 1) := by decide +kernel
theorem dX4_tellRow_32 : decode cX4_tellRow 32 = .ok (.getfield 15, 3) := by decide +kernel
theorem dX4_tellRow_35 : decode cX4_tellRow 35 = .ok (.iload 4, 2) := by decide +kernel
theorem dX4_tellRow_37 : decode cX4_tellRow 37 = .ok (.iaload, 1) := by decide +kernel
end
section
theorem dX4_tellRow_38 : decode cX4_tellRow 38 = .ok (.sipush 1024, 3) := by decide +kernel
theorem dX4_tellRow_41 : decode cX4_tellRow 41 = .ok (.idiv, 1) := by decide +kernel
theorem dX4_tellRow_42 : decode cX4_tellRow 42 = .ok (.istore 4, 2) := by decide +kernel
theorem dX4_tellRow_44 : decode cX4_tellRow 44 = .ok (.goto (-26), 3) := by decide +kernel
theorem dX4_tellRow_47 : decode cX4_tellRow 47 = .ok (.aload_n 1, 1) := by decide +kernel
theorem dX4_tellRow_48 : decode cX4_tellRow 48 = .ok (.iload_n 2, 1) := by decide +kernel
theorem dX4_tellRow_49 : decode cX4_tellRow 49 = .ok (.putfield 96, 3) := by decide +kernel
theorem dX4_tellRow_52 : decode cX4_tellRow 52 = .ok (.aload_n 0, 1) := by decide +kernel
theorem dX4_tellRow_53 : decode cX4_tellRow 53 = .ok (.getfield 62, 3) := by decide +kernel
theorem dX4_tellRow_56 : decode cX4_tellRow 56 = .ok (.istore 4, 2) := by decide +kernel
theorem dX4_tellRow_58 : decode cX4_tellRow 58 = .ok (.aload_n 1, 1) := by decide +kernel
theorem dX4_tellRow_59 : decode cX4_tellRow 59 = .ok (.getfield 96, 3) := by decide +kernel
theorem dX4_tellRow_62 : decode cX4_tellRow 62 = .ok (.iconst 1, 1) := by decide +kernel
theorem dX4_tellRow_63 : decode cX4_tellRow 63 = .ok (.isub, 1) := by decide +kernel
theorem dX4_tellRow_64 : decode cX4_tellRow 64 = .ok (.istore 5, 2) := by decide +kernel
theorem dX4_tellRow_66 : decode cX4_tellRow 66 = .ok (.iload 5, 2) := by decide +kernel
theorem dX4_tellRow_68 : decode cX4_tellRow 68 = .ok (.ifCond .lt 35, 3) := by decide +kernel
theorem dX4_tellRow_71 : decode cX4_tellRow 71 = .ok (.aload_n 1, 1) := by decide +kernel
theorem dX4_tellRow_72 : decode cX4_tellRow 72 = .ok (.getfield 91, 3) := by decide +kernel
theorem dX4_tellRow_75 : decode cX4_tellRow 75 = .ok (.iload 5, 2) := by decide +kernel
theorem dX4_tellRow_77 : decode cX4_tellRow 77 = .ok (.iload 4, 2) := by decide +kernel
theorem dX4_tellRow_79 : decode cX4_tellRow 79 = .ok (.sipush 1024, 3) := by decide +kernel
theorem dX4_tellRow_82 : decode cX4_tellRow 82 = .ok (.irem, 1) := by decide +kernel
theorem dX4_tellRow_83 : decode cX4_tellRow 83 = .ok (.iastore, 1) := by decide +kernel
theorem dX4_tellRow_84 : decode cX4_tellRow 84 = .ok (.aload_n 0, 1) := by decide +kernel
theorem dX4_tellRow_85 : decode cX4_tellRow 85 = .ok (.getfield 15, 3) := by decide +kernel
theorem dX4_tellRow_88 : decode cX4_tellRow 88 = .ok (.iload 4, 2) := by decide +kernel
theorem dX4_tellRow_90 : decode cX4_tellRow 90 = .ok (.sipush 1024, 3) := by decide +kernel
theorem dX4_tellRow_93 : decode cX4_tellRow 93 = .ok (.idiv, 1) := by decide +kernel
theorem dX4_tellRow_94 : decode cX4_tellRow 94 = .ok (.iaload, 1) := by decide +kernel
theorem dX4_tellRow_95 : decode cX4_tellRow 95 = .ok (.istore 4, 2) := by decide +kernel
theorem dX4_tellRow_97 : decode cX4_tellRow 97 = .ok (.iinc 5 (-1), 3) := by decide +kernel
theorem dX4_tellRow_100 : decode cX4_tellRow 100 = .ok (.goto (-34), 3) := by decide +kernel
theorem dX4_tellRow_103 : decode cX4_tellRow 103 = .ok (.return_, 1) := by decide +kernel
theorem dX5_init_0 : decode cX5_init 0 = .ok (.aload_n 0, 1) := by decide +kernel
theorem dX5_init_1 : decode cX5_init 1 = .ok (.invokespecial 3, 3) := by decide +kernel
theorem dX5_init_4 : decode cX5_init 4 = .ok (.aload_n 0, 1) := by decide +kernel
theorem dX5_init_5 : decode cX5_init 5 = .ok (.iconst 4, 1) := by decide +kernel
theorem dX5_init_6 : decode cX5_init 6 = .ok (.bipush 60, 2) := by decide +kernel
theorem dX5_init_8 : decode cX5_init 8 = .ok (.multianewarray 11 2, 4) := by decide +kernel
theorem dX5_init_12 : decode cX5_init 12 = .ok (.putfield 13, 3) := by decide +kernel
theorem dX5_init_15 : decode cX5_init 15 = .ok (.aload_n 0, 1) := by decide +kernel
theorem dX5_init_16 : decode cX5_init 16 = .ok (.iconst 4, 1) := by decide +kernel
theorem dX5_init_17 : decode cX5_init 17 = .ok (.newarray .int, 2) := by decide +kernel
theorem dX5_init_19 : decode cX5_init 19 = .ok (.putfield 16, 3) := by decide +kernel
theorem dX5_init_22 : decode cX5_init 22 = .ok (.aload_n 0, 1) := by decide +kernel
theorem dX5_init_23 : decode cX5_init 23 = .ok (.iconst 4, 1) := by decide +kernel
theorem dX5_init_24 : decode cX5_init 24 = .ok (.newarray .int, 2) := by decide +kernel
theorem dX5_init_26 : decode cX5_init 26 = .ok (.dup, 1) := by decide +kernel
theorem dX5_init_27 : decode cX5_init 27 = .ok (.iconst 0, 1) := by decide +kernel
theorem dX5_init_28 : decode cX5_init 28 = .ok (.iconst (-1), 1) := by decide +kernel
theorem dX5_init_29 : decode cX5_init 29 = .ok (.iastore, 1) := by decide +kernel
theorem dX5_init_30 : decode cX5_init 30 = .ok (.dup, 1) := by decide +kernel
theorem dX5_init_31 : decode cX5_init 31 = .ok (.iconst 1, 1) := by decide +kernel
theorem dX5_init_32 : decode cX5_init 32 = .ok (.iconst (-1), 1) := by decide +kernel
theorem dX5_init_33 : decode cX5_init 33 = .ok (.iastore, 1) := by decide +kernel
theorem dX5_init_34 : decode cX5_init 34 = .ok (.dup, 1) := by decide +kernel
theorem dX5_init_35 : decode cX5_init 35 = .ok (.iconst 2, 1) := by decide +kernel
theorem dX5_init_36 : decode cX5_init 36 = .ok (.iconst (-1), 1) := by decide +kernel
theorem dX5_init_37 : decode cX5_init 37 = .ok (.iastore, 1) := by decide +kernel
theorem dX5_init_38 : decode cX5_init 38 = .ok (.dup, 1) := by decide +kernel
theorem dX5_init_39 : decode cX5_init 39 = .ok (.iconst 3, 1) := by decide +kernel
theorem dX5_init_40 : decode cX5_init 40 = .ok (.iconst (-1), 1) := by decide +kernel
theorem dX5_init_41 : decode cX5_init 41 = .ok (.iastore, 1) := by decide +kernel
theorem dX5_init_42 : decode cX5_init 42 = .ok (.putfield 20, 3) := by decide +kernel
theorem dX5_init_45 : decode cX5_init 45 = .ok (.return_, 1) := by decide +kernel
theorem dX5_isPlace_0 : decode cX5_isPlace 0 = .ok (.iload_n 0, 1) := by decide +kernel
theorem dX5_isPlace_1 : decode cX5_isPlace 1 = .ok (.ifCond .lt 12, 3) := by decide +kernel
theorem dX5_isPlace_4 : decode cX5_isPlace 4 = .ok (.iload_n 0, 1) := by decide +kernel
theorem dX5_isPlace_5 : decode cX5_isPlace 5 = .ok (.iconst 4, 1) := by decide +kernel
theorem dX5_isPlace_6 : decode cX5_isPlace 6 = .ok (.if_icmp .ge 7, 3) := by decide +kernel
theorem dX5_isPlace_9 : decode cX5_isPlace 9 = .ok (.iconst 1, 1) := by decide +kernel
theorem dX5_isPlace_10 : decode cX5_isPlace 10 = .ok (.goto 4, 3) := by decide +kernel
theorem dX5_isPlace_13 : decode cX5_isPlace 13 = .ok (.iconst 0, 1) := by decide +kernel
theorem dX5_isPlace_14 : decode cX5_isPlace 14 = .ok (.ireturn, 1) := by decide +kernel
theorem dX5_lengthOf_0 : decode cX5_lengthOf 0 = .ok (.iload_n 1, 1) := by decide +kernel
theorem dX5_lengthOf_1 : decode cX5_lengthOf 1 = .ok (.invokestatic 23, 3) := by decide +kernel
theorem dX5_lengthOf_4 : decode cX5_lengthOf 4 = .ok (.ifCond .eq 12, 3) := by decide +kernel
theorem dX5_lengthOf_7 : decode cX5_lengthOf 7 = .ok (.aload_n 0, 1) := by decide +kernel
theorem dX5_lengthOf_8 : decode cX5_lengthOf 8 = .ok (.getfield 20, 3) := by decide +kernel
theorem dX5_lengthOf_11 : decode cX5_lengthOf 11 = .ok (.iload_n 1, 1) := by decide +kernel
theorem dX5_lengthOf_12 : decode cX5_lengthOf 12 = .ok (.iaload, 1) := by decide +kernel
theorem dX5_lengthOf_13 : decode cX5_lengthOf 13 = .ok (.goto 4, 3) := by decide +kernel
theorem dX5_lengthOf_16 : decode cX5_lengthOf 16 = .ok (.iconst (-1), 1) := by decide +kernel
theorem dX5_lengthOf_17 : decode cX5_lengthOf 17 = .ok (.ireturn, 1) := by decide +kernel
theorem dX5_number_0 : decode cX5_number 0 = .ok (.iload_n 2, 1) := by decide +kernel
theorem dX5_number_1 : decode cX5_number 1 = .ok (.ifCond .lt 23, 3) := by decide +kernel
theorem dX5_number_4 : decode cX5_number 4 = .ok (.iload_n 2, 1) := by decide +kernel
theorem dX5_number_5 : decode cX5_number 5 = .ok (.aload_n 0, 1) := by decide +kernel
theorem dX5_number_6 : decode cX5_number 6 = .ok (.iload_n 1, 1) := by decide +kernel
theorem dX5_number_7 : decode cX5_number 7 = .ok (.invokevirtual 27, 3) := by decide +kernel
theorem dX5_number_10 : decode cX5_number 10 = .ok (.if_icmp .ge 14, 3) := by decide +kernel
theorem dX5_number_13 : decode cX5_number 13 = .ok (.aload_n 0, 1) := by decide +kernel
theorem dX5_number_14 : decode cX5_number 14 = .ok (.getfield 13, 3) := by decide +kernel
theorem dX5_number_17 : decode cX5_number 17 = .ok (.iload_n 1, 1) := by decide +kernel
theorem dX5_number_18 : decode cX5_number 18 = .ok (.aaload, 1) := by decide +kernel
theorem dX5_number_19 : decode cX5_number 19 = .ok (.iload_n 2, 1) := by decide +kernel
theorem dX5_number_20 : decode cX5_number 20 = .ok (.laload, 1) := by decide +kernel
theorem dX5_number_21 : decode cX5_number 21 = .ok (.goto 4, 3) := by decide +kernel
theorem dX5_number_24 : decode cX5_number 24 = .ok (.lconst 0, 1) := by decide +kernel
theorem dX5_number_25 : decode cX5_number 25 = .ok (.lreturn, 1) := by decide +kernel
theorem dX5_placesWithRow_0 : decode cX5_placesWithRow 0 = .ok (.iconst 0, 1) := by decide +kernel
theorem dX5_placesWithRow_1 : decode cX5_placesWithRow 1 = .ok (.istore_n 1, 1) := by decide +kernel
theorem dX5_placesWithRow_2 : decode cX5_placesWithRow 2 = .ok (.iconst 0, 1) := by decide +kernel
theorem dX5_placesWithRow_3 : decode cX5_placesWithRow 3 = .ok (.istore_n 2, 1) := by decide +kernel
theorem dX5_placesWithRow_4 : decode cX5_placesWithRow 4 = .ok (.iload_n 2, 1) := by decide +kernel
theorem dX5_placesWithRow_5 : decode cX5_placesWithRow 5 = .ok (.iconst 4, 1) := by decide +kernel
theorem dX5_placesWithRow_6 : decode cX5_placesWithRow 6 = .ok (.if_icmp .ge 22, 3) := by decide +kernel
theorem dX5_placesWithRow_9 : decode cX5_placesWithRow 9 = .ok (.aload_n 0, 1) := by decide +kernel
theorem dX5_placesWithRow_10 : decode cX5_placesWithRow 10 = .ok (.getfield 20, 3) := by decide +kernel
theorem dX5_placesWithRow_13 : decode cX5_placesWithRow 13 = .ok (.iload_n 2, 1) := by decide +kernel
theorem dX5_placesWithRow_14 : decode cX5_placesWithRow 14 = .ok (.iaload, 1) := by decide +kernel
theorem dX5_placesWithRow_15 : decode cX5_placesWithRow 15 = .ok (.iconst (-1), 1) := by decide +kernel
theorem dX5_placesWithRow_16 : decode cX5_placesWithRow 16 = .ok (.if_icmp .eq 6, 3) := by decide +kernel
theorem dX5_placesWithRow_19 : decode cX5_placesWithRow 19 = .ok (.iinc 1 1, 3) := by decide +kernel
theorem dX5_placesWithRow_22 : decode cX5_placesWithRow 22 = .ok (.iinc 2 1, 3) := by decide +kernel
theorem dX5_placesWithRow_25 : decode cX5_placesWithRow 25 = .ok (.goto (-21), 3) := by decide +kernel
theorem dX5_placesWithRow_28 : decode cX5_placesWithRow 28 = .ok (.iload_n 1, 1) := by decide +kernel
theorem dX5_placesWithRow_29 : decode cX5_placesWithRow 29 = .ok (.ireturn, 1) := by decide +kernel
theorem dX5_refusal_0 : decode cX5_refusal 0 = .ok (.iload_n 1, 1) := by decide +kernel
theorem dX5_refusal_1 : decode cX5_refusal 1 = .ok (.invokestatic 23, 3) := by decide +kernel
theorem dX5_refusal_4 : decode cX5_refusal 4 = .ok (.ifCond .ne 6, 3) := by decide +kernel
theorem dX5_refusal_7 : decode cX5_refusal 7 = .ok (.bipush (-2), 2) := by decide +kernel
theorem dX5_refusal_9 : decode cX5_refusal 9 = .ok (.ireturn, 1) := by decide +kernel
theorem dX5_refusal_10 : decode cX5_refusal 10 = .ok (.aload_n 0, 1) := by decide +kernel
theorem dX5_refusal_11 : decode cX5_refusal 11 = .ok (.getfield 20, 3) := by decide +kernel
theorem dX5_refusal_14 : decode cX5_refusal 14 = .ok (.iload_n 1, 1) := by decide +kernel
theorem dX5_refusal_15 : decode cX5_refusal 15 = .ok (.iaload, 1) := by decide +kernel
theorem dX5_refusal_16 : decode cX5_refusal 16 = .ok (.iconst (-1), 1) := by decide +kernel
theorem dX5_refusal_17 : decode cX5_refusal 17 = .ok (.if_icmp .ne 6, 3) := by decide +kernel
theorem dX5_refusal_20 : decode cX5_refusal 20 = .ok (.bipush (-5), 2) := by decide +kernel
theorem dX5_refusal_22 : decode cX5_refusal 22 = .ok (.ireturn, 1) := by decide +kernel
theorem dX5_refusal_23 : decode cX5_refusal 23 = .ok (.aload_n 0, 1) := by decide +kernel
theorem dX5_refusal_24 : decode cX5_refusal 24 = .ok (.getfield 20, 3) := by decide +kernel
theorem dX5_refusal_27 : decode cX5_refusal 27 = .ok (.iload_n 1, 1) := by decide +kernel
theorem dX5_refusal_28 : decode cX5_refusal 28 = .ok (.iaload, 1) := by decide +kernel
theorem dX5_refusal_29 : decode cX5_refusal 29 = .ok (.iload_n 2, 1) := by decide +kernel
theorem dX5_refusal_30 : decode cX5_refusal 30 = .ok (.if_icmp .ge 6, 3) := by decide +kernel
theorem dX5_refusal_33 : decode cX5_refusal 33 = .ok (.bipush (-6), 2) := by decide +kernel
theorem dX5_refusal_35 : decode cX5_refusal 35 = .ok (.ireturn, 1) := by decide +kernel
theorem dX5_refusal_36 : decode cX5_refusal 36 = .ok (.aload_n 0, 1) := by decide +kernel
theorem dX5_refusal_37 : decode cX5_refusal 37 = .ok (.iload_n 1, 1) := by decide +kernel
theorem dX5_refusal_38 : decode cX5_refusal 38 = .ok (.iload_n 2, 1) := by decide +kernel
theorem dX5_refusal_39 : decode cX5_refusal 39 = .ok (.iload_n 3, 1) := by decide +kernel
theorem dX5_refusal_40 : decode cX5_refusal 40 = .ok (.invokevirtual 31, 3) := by decide +kernel
theorem dX5_refusal_43 : decode cX5_refusal 43 = .ok (.ifCond .eq 7, 3) := by decide +kernel
theorem dX5_refusal_46 : decode cX5_refusal 46 = .ok (.iconst 0, 1) := by decide +kernel
theorem dX5_refusal_47 : decode cX5_refusal 47 = .ok (.goto 5, 3) := by decide +kernel
theorem dX5_refusal_50 : decode cX5_refusal 50 = .ok (.bipush (-4), 2) := by decide +kernel
theorem dX5_refusal_52 : decode cX5_refusal 52 = .ok (.ireturn, 1) := by decide +kernel
theorem dX5_areWithin_0 : decode cX5_areWithin 0 = .ok (.iconst 0, 1) := by decide +kernel
theorem dX5_areWithin_1 : decode cX5_areWithin 1 = .ok (.istore 4, 2) := by decide +kernel
theorem dX5_areWithin_3 : decode cX5_areWithin 3 = .ok (.iload 4, 2) := by decide +kernel
theorem dX5_areWithin_5 : decode cX5_areWithin 5 = .ok (.iload_n 2, 1) := by decide +kernel
theorem dX5_areWithin_6 : decode cX5_areWithin 6 = .ok (.if_icmp .ge 27, 3) := by decide +kernel
theorem dX5_areWithin_9 : decode cX5_areWithin 9 = .ok (.aload_n 0, 1) := by decide +kernel
theorem dX5_areWithin_10 : decode cX5_areWithin 10 = .ok (.iload_n 1, 1) := by decide +kernel
theorem dX5_areWithin_11 : decode cX5_areWithin 11 = .ok (.iload 4, 2) := by decide +kernel
theorem dX5_areWithin_13 : decode cX5_areWithin 13 = .ok (.invokevirtual 35, 3) := by decide +kernel
theorem dX5_areWithin_16 : decode cX5_areWithin 16 = .ok (.lconst 0, 1) := by decide +kernel
theorem dX5_areWithin_17 : decode cX5_areWithin 17 = .ok (.iload_n 3, 1) := by decide +kernel
theorem dX5_areWithin_18 : decode cX5_areWithin 18 = .ok (.i2l, 1) := by decide +kernel
theorem dX5_areWithin_19 : decode cX5_areWithin 19 = .ok (.invokestatic 39, 3) := by decide +kernel
theorem dX5_areWithin_22 : decode cX5_areWithin 22 = .ok (.ifCond .ne 5, 3) := by decide +kernel
theorem dX5_areWithin_25 : decode cX5_areWithin 25 = .ok (.iconst 0, 1) := by decide +kernel
theorem dX5_areWithin_26 : decode cX5_areWithin 26 = .ok (.ireturn, 1) := by decide +kernel
theorem dX5_areWithin_27 : decode cX5_areWithin 27 = .ok (.iinc 4 1, 3) := by decide +kernel
theorem dX5_areWithin_30 : decode cX5_areWithin 30 = .ok (.goto (-27), 3) := by decide +kernel
theorem dX5_areWithin_33 : decode cX5_areWithin 33 = .ok (.iconst 1, 1) := by decide +kernel
theorem dX5_areWithin_34 : decode cX5_areWithin 34 = .ok (.ireturn, 1) := by decide +kernel
theorem dX5_lay_0 : decode cX5_lay 0 = .ok (.iload_n 1, 1) := by decide +kernel
theorem dX5_lay_1 : decode cX5_lay 1 = .ok (.invokestatic 23, 3) := by decide +kernel
theorem dX5_lay_4 : decode cX5_lay 4 = .ok (.ifCond .eq 21, 3) := by decide +kernel
theorem dX5_lay_7 : decode cX5_lay 7 = .ok (.iload_n 2, 1) := by decide +kernel
theorem dX5_lay_8 : decode cX5_lay 8 = .ok (.i2l, 1) := by decide +kernel
theorem dX5_lay_9 : decode cX5_lay 9 = .ok (.lconst 0, 1) := by decide +kernel
theorem dX5_lay_10 : decode cX5_lay 10 = .ok (.ldc2_w 43, 3) := by decide +kernel
theorem dX5_lay_13 : decode cX5_lay 13 = .ok (.invokestatic 39, 3) := by decide +kernel
theorem dX5_lay_16 : decode cX5_lay 16 = .ok (.ifCond .eq 9, 3) := by decide +kernel
theorem dX5_lay_19 : decode cX5_lay 19 = .ok (.iload_n 3, 1) := by decide +kernel
theorem dX5_lay_20 : decode cX5_lay 20 = .ok (.bipush 60, 2) := by decide +kernel
theorem dX5_lay_22 : decode cX5_lay 22 = .ok (.if_icmp .le 6, 3) := by decide +kernel
theorem dX5_lay_25 : decode cX5_lay 25 = .ok (.bipush (-2), 2) := by decide +kernel
theorem dX5_lay_27 : decode cX5_lay 27 = .ok (.ireturn, 1) := by decide +kernel
theorem dX5_lay_28 : decode cX5_lay 28 = .ok (.iload_n 3, 1) := by decide +kernel
theorem dX5_lay_29 : decode cX5_lay 29 = .ok (.ifCond .ge 6, 3) := by decide +kernel
theorem dX5_lay_32 : decode cX5_lay 32 = .ok (.bipush (-3), 2) := by decide +kernel
theorem dX5_lay_34 : decode cX5_lay 34 = .ok (.ireturn, 1) := by decide +kernel
theorem dX5_lay_35 : decode cX5_lay 35 = .ok (.aload_n 0, 1) := by decide +kernel
theorem dX5_lay_36 : decode cX5_lay 36 = .ok (.getfield 13, 3) := by decide +kernel
theorem dX5_lay_39 : decode cX5_lay 39 = .ok (.iload_n 1, 1) := by decide +kernel
theorem dX5_lay_40 : decode cX5_lay 40 = .ok (.aaload, 1) := by decide +kernel
theorem dX5_lay_41 : decode cX5_lay 41 = .ok (.lconst 0, 1) := by decide +kernel
theorem dX5_lay_42 : decode cX5_lay 42 = .ok (.invokestatic 45, 3) := by decide +kernel
theorem dX5_lay_45 : decode cX5_lay 45 = .ok (.aload_n 0, 1) := by decide +kernel
theorem dX5_lay_46 : decode cX5_lay 46 = .ok (.getfield 16, 3) := by decide +kernel
theorem dX5_lay_49 : decode cX5_lay 49 = .ok (.iload_n 1, 1) := by decide +kernel
theorem dX5_lay_50 : decode cX5_lay 50 = .ok (.iload_n 2, 1) := by decide +kernel
theorem dX5_lay_51 : decode cX5_lay 51 = .ok (.iastore, 1) := by decide +kernel
theorem dX5_lay_52 : decode cX5_lay 52 = .ok (.aload_n 0, 1) := by decide +kernel
theorem dX5_lay_53 : decode cX5_lay 53 = .ok (.getfield 20, 3) := by decide +kernel
theorem dX5_lay_56 : decode cX5_lay 56 = .ok (.iload_n 1, 1) := by decide +kernel
theorem dX5_lay_57 : decode cX5_lay 57 = .ok (.iload_n 3, 1) := by decide +kernel
theorem dX5_lay_58 : decode cX5_lay 58 = .ok (.iastore, 1) := by decide +kernel
theorem dX5_lay_59 : decode cX5_lay 59 = .ok (.iconst 0, 1) := by decide +kernel
theorem dX5_lay_60 : decode cX5_lay 60 = .ok (.ireturn, 1) := by decide +kernel
theorem dX5_clear_0 : decode cX5_clear 0 = .ok (.aload_n 0, 1) := by decide +kernel
theorem dX5_clear_1 : decode cX5_clear 1 = .ok (.iload_n 1, 1) := by decide +kernel
theorem dX5_clear_2 : decode cX5_clear 2 = .ok (.invokevirtual 27, 3) := by decide +kernel
theorem dX5_clear_5 : decode cX5_clear 5 = .ok (.iconst (-1), 1) := by decide +kernel
theorem dX5_clear_6 : decode cX5_clear 6 = .ok (.if_icmp .ne 5, 3) := by decide +kernel
theorem dX5_clear_9 : decode cX5_clear 9 = .ok (.iconst 0, 1) := by decide +kernel
theorem dX5_clear_10 : decode cX5_clear 10 = .ok (.ireturn, 1) := by decide +kernel
theorem dX5_clear_11 : decode cX5_clear 11 = .ok (.aload_n 0, 1) := by decide +kernel
theorem dX5_clear_12 : decode cX5_clear 12 = .ok (.getfield 20, 3) := by decide +kernel
theorem dX5_clear_15 : decode cX5_clear 15 = .ok (.iload_n 1, 1) := by decide +kernel
theorem dX5_clear_16 : decode cX5_clear 16 = .ok (.iconst (-1), 1) := by decide +kernel
theorem dX5_clear_17 : decode cX5_clear 17 = .ok (.iastore, 1) := by decide +kernel
theorem dX5_clear_18 : decode cX5_clear 18 = .ok (.iconst 1, 1) := by decide +kernel
theorem dX5_clear_19 : decode cX5_clear 19 = .ok (.ireturn, 1) := by decide +kernel
theorem dX5_put_0 : decode cX5_put 0 = .ok (.iload_n 1, 1) := by decide +kernel
theorem dX5_put_1 : decode cX5_put 1 = .ok (.invokestatic 23, 3) := by decide +kernel
theorem dX5_put_4 : decode cX5_put 4 = .ok (.ifCond .ne 6, 3) := by decide +kernel
theorem dX5_put_7 : decode cX5_put 7 = .ok (.bipush (-2), 2) := by decide +kernel
theorem dX5_put_9 : decode cX5_put 9 = .ok (.ireturn, 1) := by decide +kernel
theorem dX5_put_10 : decode cX5_put 10 = .ok (.aload_n 0, 1) := by decide +kernel
theorem dX5_put_11 : decode cX5_put 11 = .ok (.getfield 20, 3) := by decide +kernel
theorem dX5_put_14 : decode cX5_put 14 = .ok (.iload_n 1, 1) := by decide +kernel
theorem dX5_put_15 : decode cX5_put 15 = .ok (.iaload, 1) := by decide +kernel
theorem dX5_put_16 : decode cX5_put 16 = .ok (.iconst (-1), 1) := by decide +kernel
theorem dX5_put_17 : decode cX5_put 17 = .ok (.if_icmp .ne 6, 3) := by decide +kernel
theorem dX5_put_20 : decode cX5_put 20 = .ok (.bipush (-5), 2) := by decide +kernel
theorem dX5_put_22 : decode cX5_put 22 = .ok (.ireturn, 1) := by decide +kernel
theorem dX5_put_23 : decode cX5_put 23 = .ok (.iload_n 2, 1) := by decide +kernel
theorem dX5_put_24 : decode cX5_put 24 = .ok (.ifCond .lt 13, 3) := by decide +kernel
theorem dX5_put_27 : decode cX5_put 27 = .ok (.iload_n 2, 1) := by decide +kernel
theorem dX5_put_28 : decode cX5_put 28 = .ok (.aload_n 0, 1) := by decide +kernel
theorem dX5_put_29 : decode cX5_put 29 = .ok (.getfield 20, 3) := by decide +kernel
theorem dX5_put_32 : decode cX5_put 32 = .ok (.iload_n 1, 1) := by decide +kernel
theorem dX5_put_33 : decode cX5_put 33 = .ok (.iaload, 1) := by decide +kernel
theorem dX5_put_34 : decode cX5_put 34 = .ok (.if_icmp .lt 6, 3) := by decide +kernel
theorem dX5_put_37 : decode cX5_put 37 = .ok (.bipush (-6), 2) := by decide +kernel
theorem dX5_put_39 : decode cX5_put 39 = .ok (.ireturn, 1) := by decide +kernel
theorem dX5_put_40 : decode cX5_put 40 = .ok (.aload_n 0, 1) := by decide +kernel
theorem dX5_put_41 : decode cX5_put 41 = .ok (.getfield 13, 3) := by decide +kernel
theorem dX5_put_44 : decode cX5_put 44 = .ok (.iload_n 1, 1) := by decide +kernel
theorem dX5_put_45 : decode cX5_put 45 = .ok (.aaload, 1) := by decide +kernel
theorem dX5_put_46 : decode cX5_put 46 = .ok (.iload_n 2, 1) := by decide +kernel
theorem dX5_put_47 : decode cX5_put 47 = .ok (.lload_n 3, 1) := by decide +kernel
theorem dX5_put_48 : decode cX5_put 48 = .ok (.aload_n 0, 1) := by decide +kernel
theorem dX5_put_49 : decode cX5_put 49 = .ok (.getfield 16, 3) := by decide +kernel
theorem dX5_put_52 : decode cX5_put 52 = .ok (.iload_n 1, 1) := by decide +kernel
theorem dX5_put_53 : decode cX5_put 53 = .ok (.iaload, 1) := by decide +kernel
theorem dX5_put_54 : decode cX5_put 54 = .ok (.invokestatic 51, 3) := by decide +kernel
theorem dX5_put_57 : decode cX5_put 57 = .ok (.lastore, 1) := by decide +kernel
theorem dX5_put_58 : decode cX5_put 58 = .ok (.iconst 0, 1) := by decide +kernel
theorem dX5_put_59 : decode cX5_put 59 = .ok (.ireturn, 1) := by decide +kernel
theorem dX5_cut_0 : decode cX5_cut 0 = .ok (.iload_n 2, 1) := by decide +kernel
theorem dX5_cut_1 : decode cX5_cut 1 = .ok (.tableswitch 41 0 2 #[27, 32, 37], 27) := by decide +kernel
theorem dX5_cut_28 : decode cX5_cut 28 = .ok (.lload_n 0, 1) := by decide +kernel
theorem dX5_cut_29 : decode cX5_cut 29 = .ok (.l2i, 1) := by decide +kernel
theorem dX5_cut_30 : decode cX5_cut 30 = .ok (.i2b, 1) := by decide +kernel
theorem dX5_cut_31 : decode cX5_cut 31 = .ok (.i2l, 1) := by decide +kernel
theorem dX5_cut_32 : decode cX5_cut 32 = .ok (.lreturn, 1) := by decide +kernel
theorem dX5_cut_33 : decode cX5_cut 33 = .ok (.lload_n 0, 1) := by decide +kernel
theorem dX5_cut_34 : decode cX5_cut 34 = .ok (.l2i, 1) := by decide +kernel
theorem dX5_cut_35 : decode cX5_cut 35 = .ok (.i2s, 1) := by decide +kernel
theorem dX5_cut_36 : decode cX5_cut 36 = .ok (.i2l, 1) := by decide +kernel
theorem dX5_cut_37 : decode cX5_cut 37 = .ok (.lreturn, 1) := by decide +kernel
theorem dX5_cut_38 : decode cX5_cut 38 = .ok (.lload_n 0, 1) := by decide +kernel
theorem dX5_cut_39 : decode cX5_cut 39 = .ok (.l2i, 1) := by decide +kernel
theorem dX5_cut_40 : decode cX5_cut 40 = .ok (.i2l, 1) := by decide +kernel
theorem dX5_cut_41 : decode cX5_cut 41 = .ok (.lreturn, 1) := by decide +kernel
theorem dX5_cut_42 : decode cX5_cut 42 = .ok (.lload_n 0, 1) := by decide +kernel
theorem dX5_cut_43 : decode cX5_cut 43 = .ok (.lreturn, 1) := by decide +kernel
theorem dX5_copy_0 : decode cX5_copy 0 = .ok (.iload_n 1, 1) := by decide +kernel
theorem dX5_copy_1 : decode cX5_copy 1 = .ok (.invokestatic 23, 3) := by decide +kernel
theorem dX5_copy_4 : decode cX5_copy 4 = .ok (.ifCond .eq 10, 3) := by decide +kernel
theorem dX5_copy_7 : decode cX5_copy 7 = .ok (.iload_n 3, 1) := by decide +kernel
theorem dX5_copy_8 : decode cX5_copy 8 = .ok (.invokestatic 23, 3) := by decide +kernel
theorem dX5_copy_11 : decode cX5_copy 11 = .ok (.ifCond .ne 6, 3) := by decide +kernel
theorem dX5_copy_14 : decode cX5_copy 14 = .ok (.bipush (-2), 2) := by decide +kernel
theorem dX5_copy_16 : decode cX5_copy 16 = .ok (.ireturn, 1) := by decide +kernel
theorem dX5_copy_17 : decode cX5_copy 17 = .ok (.aload_n 0, 1) := by decide +kernel
theorem dX5_copy_18 : decode cX5_copy 18 = .ok (.getfield 20, 3) := by decide +kernel
theorem dX5_copy_21 : decode cX5_copy 21 = .ok (.iload_n 1, 1) := by decide +kernel
theorem dX5_copy_22 : decode cX5_copy 22 = .ok (.iaload, 1) := by decide +kernel
theorem dX5_copy_23 : decode cX5_copy 23 = .ok (.iconst (-1), 1) := by decide +kernel
theorem dX5_copy_24 : decode cX5_copy 24 = .ok (.if_icmp .eq 13, 3) := by decide +kernel
theorem dX5_copy_27 : decode cX5_copy 27 = .ok (.aload_n 0, 1) := by decide +kernel
theorem dX5_copy_28 : decode cX5_copy 28 = .ok (.getfield 20, 3) := by decide +kernel
theorem dX5_copy_31 : decode cX5_copy 31 = .ok (.iload_n 3, 1) := by decide +kernel
theorem dX5_copy_32 : decode cX5_copy 32 = .ok (.iaload, 1) := by decide +kernel
theorem dX5_copy_33 : decode cX5_copy 33 = .ok (.iconst (-1), 1) := by decide +kernel
theorem dX5_copy_34 : decode cX5_copy 34 = .ok (.if_icmp .ne 6, 3) := by decide +kernel
theorem dX5_copy_37 : decode cX5_copy 37 = .ok (.bipush (-5), 2) := by decide +kernel
theorem dX5_copy_39 : decode cX5_copy 39 = .ok (.ireturn, 1) := by decide +kernel
theorem dX5_copy_40 : decode cX5_copy 40 = .ok (.aload_n 0, 1) := by decide +kernel
theorem dX5_copy_41 : decode cX5_copy 41 = .ok (.getfield 16, 3) := by decide +kernel
theorem dX5_copy_44 : decode cX5_copy 44 = .ok (.iload_n 1, 1) := by decide +kernel
theorem dX5_copy_45 : decode cX5_copy 45 = .ok (.iaload, 1) := by decide +kernel
theorem dX5_copy_46 : decode cX5_copy 46 = .ok (.aload_n 0, 1) := by decide +kernel
theorem dX5_copy_47 : decode cX5_copy 47 = .ok (.getfield 16, 3) := by decide +kernel
theorem dX5_copy_50 : decode cX5_copy 50 = .ok (.iload_n 3, 1) := by decide +kernel
theorem dX5_copy_51 : decode cX5_copy 51 = .ok (.iaload, 1) := by decide +kernel
theorem dX5_copy_52 : decode cX5_copy 52 = .ok (.if_icmp .eq 6, 3) := by decide +kernel
theorem dX5_copy_55 : decode cX5_copy 55 = .ok (.bipush (-7), 2) := by decide +kernel
theorem dX5_copy_57 : decode cX5_copy 57 = .ok (.ireturn, 1) := by decide +kernel
theorem dX5_copy_58 : decode cX5_copy 58 = .ok (.iload_n 2, 1) := by decide +kernel
theorem dX5_copy_59 : decode cX5_copy 59 = .ok (.ifCond .lt 40, 3) := by decide +kernel
theorem dX5_copy_62 : decode cX5_copy 62 = .ok (.iload 4, 2) := by decide +kernel
theorem dX5_copy_64 : decode cX5_copy 64 = .ok (.ifCond .lt 35, 3) := by decide +kernel
theorem dX5_copy_67 : decode cX5_copy 67 = .ok (.iload 5, 2) := by decide +kernel
theorem dX5_copy_69 : decode cX5_copy 69 = .ok (.ifCond .lt 30, 3) := by decide +kernel
theorem dX5_copy_72 : decode cX5_copy 72 = .ok (.iload_n 2, 1) := by decide +kernel
theorem dX5_copy_73 : decode cX5_copy 73 = .ok (.aload_n 0, 1) := by decide +kernel
theorem dX5_copy_74 : decode cX5_copy 74 = .ok (.getfield 20, 3) := by decide +kernel
theorem dX5_copy_77 : decode cX5_copy 77 = .ok (.iload_n 1, 1) := by decide +kernel
theorem dX5_copy_78 : decode cX5_copy 78 = .ok (.iaload, 1) := by decide +kernel
theorem dX5_copy_79 : decode cX5_copy 79 = .ok (.iload 5, 2) := by decide +kernel
theorem dX5_copy_81 : decode cX5_copy 81 = .ok (.isub, 1) := by decide +kernel
theorem dX5_copy_82 : decode cX5_copy 82 = .ok (.if_icmp .gt 17, 3) := by decide +kernel
theorem dX5_copy_85 : decode cX5_copy 85 = .ok (.iload 4, 2) := by decide +kernel
theorem dX5_copy_87 : decode cX5_copy 87 = .ok (.aload_n 0, 1) := by decide +kernel
theorem dX5_copy_88 : decode cX5_copy 88 = .ok (.getfield 20, 3) := by decide +kernel
theorem dX5_copy_91 : decode cX5_copy 91 = .ok (.iload_n 3, 1) := by decide +kernel
theorem dX5_copy_92 : decode cX5_copy 92 = .ok (.iaload, 1) := by decide +kernel
theorem dX5_copy_93 : decode cX5_copy 93 = .ok (.iload 5, 2) := by decide +kernel
theorem dX5_copy_95 : decode cX5_copy 95 = .ok (.isub, 1) := by decide +kernel
theorem dX5_copy_96 : decode cX5_copy 96 = .ok (.if_icmp .le 6, 3) := by decide +kernel
theorem dX5_copy_99 : decode cX5_copy 99 = .ok (.bipush (-6), 2) := by decide +kernel
theorem dX5_copy_101 : decode cX5_copy 101 = .ok (.ireturn, 1) := by decide +kernel
theorem dX5_copy_102 : decode cX5_copy 102 = .ok (.aload_n 0, 1) := by decide +kernel
theorem dX5_copy_103 : decode cX5_copy 103 = .ok (.getfield 13, 3) := by decide +kernel
theorem dX5_copy_106 : decode cX5_copy 106 = .ok (.iload_n 1, 1) := by decide +kernel
theorem dX5_copy_107 : decode cX5_copy 107 = .ok (.aaload, 1) := by decide +kernel
theorem dX5_copy_108 : decode cX5_copy 108 = .ok (.iload_n 2, 1) := by decide +kernel
theorem dX5_copy_109 : decode cX5_copy 109 = .ok (.aload_n 0, 1) := by decide +kernel
theorem dX5_copy_110 : decode cX5_copy 110 = .ok (.getfield 13, 3) := by decide +kernel
theorem dX5_copy_113 : decode cX5_copy 113 = .ok (.iload_n 3, 1) := by decide +kernel
theorem dX5_copy_114 : decode cX5_copy 114 = .ok (.aaload, 1) := by decide +kernel
theorem dX5_copy_115 : decode cX5_copy 115 = .ok (.iload 4, 2) := by decide +kernel
theorem dX5_copy_117 : decode cX5_copy 117 = .ok (.iload 5, 2) := by decide +kernel
theorem dX5_copy_119 : decode cX5_copy 119 = .ok (.invokestatic 55, 3) := by decide +kernel
theorem dX5_copy_122 : decode cX5_copy 122 = .ok (.iconst 0, 1) := by decide +kernel
theorem dX5_copy_123 : decode cX5_copy 123 = .ok (.ireturn, 1) := by decide +kernel
theorem dX6_init_0 : decode cX6_init 0 = .ok (.aload_n 0, 1) := by decide +kernel
theorem dX6_init_1 : decode cX6_init 1 = .ok (.invokespecial 5, 3) := by decide +kernel
theorem dX6_init_4 : decode cX6_init 4 = .ok (.aload_n 0, 1) := by decide +kernel
theorem dX6_init_5 : decode cX6_init 5 = .ok (.sipush 1024, 3) := by decide +kernel
theorem dX6_init_8 : decode cX6_init 8 = .ok (.newarray .int, 2) := by decide +kernel
theorem dX6_init_10 : decode cX6_init 10 = .ok (.putfield 11, 3) := by decide +kernel
theorem dX6_init_13 : decode cX6_init 13 = .ok (.aload_n 0, 1) := by decide +kernel
theorem dX6_init_14 : decode cX6_init 14 = .ok (.sipush 387, 3) := by decide +kernel
theorem dX6_init_17 : decode cX6_init 17 = .ok (.newarray .int, 2) := by decide +kernel
theorem dX6_init_19 : decode cX6_init 19 = .ok (.putfield 15, 3) := by decide +kernel
theorem dX6_init_22 : decode cX6_init 22 = .ok (.aload_n 0, 1) := by decide +kernel
theorem dX6_init_23 : decode cX6_init 23 = .ok (.bipush 8, 2) := by decide +kernel
theorem dX6_init_25 : decode cX6_init 25 = .ok (.newarray .long, 2) := by decide +kernel
theorem dX6_init_27 : decode cX6_init 27 = .ok (.putfield 18, 3) := by decide +kernel
theorem dX6_init_30 : decode cX6_init 30 = .ok (.aload_n 0, 1) := by decide +kernel
theorem dX6_init_31 : decode cX6_init 31 = .ok (.bipush 8, 2) := by decide +kernel
theorem dX6_init_33 : decode cX6_init 33 = .ok (.newarray .long, 2) := by decide +kernel
theorem dX6_init_35 : decode cX6_init 35 = .ok (.putfield 22, 3) := by decide +kernel
theorem dX6_init_38 : decode cX6_init 38 = .ok (.aload_n 0, 1) := by decide +kernel
theorem dX6_init_39 : decode cX6_init 39 = .ok (.bipush 72, 2) := by decide +kernel
theorem dX6_init_41 : decode cX6_init 41 = .ok (.newarray .byte, 2) := by decide +kernel
theorem dX6_init_43 : decode cX6_init 43 = .ok (.putfield 25, 3) := by decide +kernel
theorem dX6_init_46 : decode cX6_init 46 = .ok (.return_, 1) := by decide +kernel
theorem dX6_countRows_0 : decode cX6_countRows 0 = .ok (.aload_n 0, 1) := by decide +kernel
theorem dX6_countRows_1 : decode cX6_countRows 1 = .ok (.aload_n 1, 1) := by decide +kernel
theorem dX6_countRows_2 : decode cX6_countRows 2 = .ok (.iload_n 2, 1) := by decide +kernel
theorem dX6_countRows_3 : decode cX6_countRows 3 = .ok (.invokevirtual 29, 3) := by decide +kernel
theorem dX6_countRows_6 : decode cX6_countRows 6 = .ok (.aload_n 0, 1) := by decide +kernel
theorem dX6_countRows_7 : decode cX6_countRows 7 = .ok (.getfield 15, 3) := by decide +kernel
theorem dX6_countRows_10 : decode cX6_countRows 10 = .ok (.iconst 0, 1) := by decide +kernel
theorem dX6_countRows_11 : decode cX6_countRows 11 = .ok (.invokestatic 33, 3) := by decide +kernel
theorem dX6_countRows_14 : decode cX6_countRows 14 = .ok (.iconst 0, 1) := by decide +kernel
theorem dX6_countRows_15 : decode cX6_countRows 15 = .ok (.istore 4, 2) := by decide +kernel
theorem dX6_countRows_17 : decode cX6_countRows 17 = .ok (.iload 4, 2) := by decide +kernel
theorem dX6_countRows_19 : decode cX6_countRows 19 = .ok (.iload_n 2, 1) := by decide +kernel
theorem dX6_countRows_20 : decode cX6_countRows 20 = .ok (.if_icmp .gt 59, 3) := by decide +kernel
theorem dX6_countRows_23 : decode cX6_countRows 23 = .ok (.iload 4, 2) := by decide +kernel
theorem dX6_countRows_25 : decode cX6_countRows 25 = .ok (.sipush 1024, 3) := by decide +kernel
theorem dX6_countRows_28 : decode cX6_countRows 28 = .ok (.if_icmp .ge 51, 3) := by decide +kernel
theorem dX6_countRows_31 : decode cX6_countRows 31 = .ok (.aload_n 0, 1) := by decide +kernel
theorem dX6_countRows_32 : decode cX6_countRows 32 = .ok (.getfield 11, 3) := by decide +kernel
theorem dX6_countRows_35 : decode cX6_countRows 35 = .ok (.iload 4, 2) := by decide +kernel
theorem dX6_countRows_37 : decode cX6_countRows 37 = .ok (.iaload, 1) := by decide +kernel
theorem dX6_countRows_38 : decode cX6_countRows 38 = .ok (.sipush 386, 3) := by decide +kernel
theorem dX6_countRows_41 : decode cX6_countRows 41 = .ok (.invokestatic 39, 3) := by decide +kernel
theorem dX6_countRows_44 : decode cX6_countRows 44 = .ok (.istore 5, 2) := by decide +kernel
theorem dX6_countRows_46 : decode cX6_countRows 46 = .ok (.aload_n 0, 1) := by decide +kernel
theorem dX6_countRows_47 : decode cX6_countRows 47 = .ok (.getfield 15, 3) := by decide +kernel
theorem dX6_countRows_50 : decode cX6_countRows 50 = .ok (.iload 5, 2) := by decide +kernel
theorem dX6_countRows_52 : decode cX6_countRows 52 = .ok (.dup2, 1) := by decide +kernel
theorem dX6_countRows_53 : decode cX6_countRows 53 = .ok (.iaload, 1) := by decide +kernel
theorem dX6_countRows_54 : decode cX6_countRows 54 = .ok (.iload_n 2, 1) := by decide +kernel
theorem dX6_countRows_55 : decode cX6_countRows 55 = .ok (.iload 4, 2) := by decide +kernel
theorem dX6_countRows_57 : decode cX6_countRows 57 = .ok (.ixor, 1) := by decide +kernel
theorem dX6_countRows_58 : decode cX6_countRows 58 = .ok (.invokestatic 45, 3) := by decide +kernel
theorem dX6_countRows_61 : decode cX6_countRows 61 = .ok (.iconst 2, 1) := by decide +kernel
theorem dX6_countRows_62 : decode cX6_countRows 62 = .ok (.irem, 1) := by decide +kernel
theorem dX6_countRows_63 : decode cX6_countRows 63 = .ok (.ifCond .ne 7, 3) := by decide +kernel
theorem dX6_countRows_66 : decode cX6_countRows 66 = .ok (.iconst 1, 1) := by decide +kernel
theorem dX6_countRows_67 : decode cX6_countRows 67 = .ok (.goto 4, 3) := by decide +kernel
theorem dX6_countRows_70 : decode cX6_countRows 70 = .ok (.iconst (-1), 1) := by decide +kernel
theorem dX6_countRows_71 : decode cX6_countRows 71 = .ok (.iadd, 1) := by decide +kernel
theorem dX6_countRows_72 : decode cX6_countRows 72 = .ok (.iastore, 1) := by decide +kernel
theorem dX6_countRows_73 : decode cX6_countRows 73 = .ok (.iinc 4 1, 3) := by decide +kernel
theorem dX6_countRows_76 : decode cX6_countRows 76 = .ok (.goto (-59), 3) := by decide +kernel
theorem dX6_countRows_79 : decode cX6_countRows 79 = .ok (.aload_n 0, 1) := by decide +kernel
theorem dX6_countRows_80 : decode cX6_countRows 80 = .ok (.getfield 22, 3) := by decide +kernel
theorem dX6_countRows_83 : decode cX6_countRows 83 = .ok (.lconst 0, 1) := by decide +kernel
theorem dX6_countRows_84 : decode cX6_countRows 84 = .ok (.invokestatic 51, 3) := by decide +kernel
theorem dX6_countRows_87 : decode cX6_countRows 87 = .ok (.iconst 0, 1) := by decide +kernel
theorem dX6_countRows_88 : decode cX6_countRows 88 = .ok (.istore 4, 2) := by decide +kernel
theorem dX6_countRows_90 : decode cX6_countRows 90 = .ok (.iload 4, 2) := by decide +kernel
theorem dX6_countRows_92 : decode cX6_countRows 92 = .ok (.sipush 386, 3) := by decide +kernel
theorem dX6_countRows_95 : decode cX6_countRows 95 = .ok (.if_icmp .gt 37, 3) := by decide +kernel
theorem dX6_countRows_98 : decode cX6_countRows 98 = .ok (.aload_n 0, 1) := by decide +kernel
theorem dX6_countRows_99 : decode cX6_countRows 99 = .ok (.getfield 15, 3) := by decide +kernel
theorem dX6_countRows_102 : decode cX6_countRows 102 = .ok (.iload 4, 2) := by decide +kernel
theorem dX6_countRows_104 : decode cX6_countRows 104 = .ok (.iaload, 1) := by decide +kernel
theorem dX6_countRows_105 : decode cX6_countRows 105 = .ok (.ifCond .eq 21, 3) := by decide +kernel
theorem dX6_countRows_108 : decode cX6_countRows 108 = .ok (.aload_n 0, 1) := by decide +kernel
theorem dX6_countRows_109 : decode cX6_countRows 109 = .ok (.iload 4, 2) := by decide +kernel
theorem dX6_countRows_111 : decode cX6_countRows 111 = .ok (.iload_n 3, 1) := by decide +kernel
theorem dX6_countRows_112 : decode cX6_countRows 112 = .ok (.invokevirtual 54, 3) := by decide +kernel
theorem dX6_countRows_115 : decode cX6_countRows 115 = .ok (.aload_n 0, 1) := by decide +kernel
theorem dX6_countRows_116 : decode cX6_countRows 116 = .ok (.aload_n 0, 1) := by decide +kernel
theorem dX6_countRows_117 : decode cX6_countRows 117 = .ok (.getfield 15, 3) := by decide +kernel
theorem dX6_countRows_120 : decode cX6_countRows 120 = .ok (.iload 4, 2) := by decide +kernel
theorem dX6_countRows_122 : decode cX6_countRows 122 = .ok (.iaload, 1) := by decide +kernel
theorem dX6_countRows_123 : decode cX6_countRows 123 = .ok (.invokevirtual 58, 3) := by decide +kernel
theorem dX6_countRows_126 : decode cX6_countRows 126 = .ok (.iinc 4 1, 3) := by decide +kernel
theorem dX6_countRows_129 : decode cX6_countRows 129 = .ok (.goto (-39), 3) := by decide +kernel
theorem dX6_countRows_132 : decode cX6_countRows 132 = .ok (.aload_n 0, 1) := by decide +kernel
theorem dX6_countRows_133 : decode cX6_countRows 133 = .ok (.invokevirtual 62, 3) := by decide +kernel
theorem dX6_countRows_136 : decode cX6_countRows 136 = .ok (.aload_n 0, 1) := by decide +kernel
theorem dX6_countRows_137 : decode cX6_countRows 137 = .ok (.invokevirtual 65, 3) := by decide +kernel
theorem dX6_countRows_140 : decode cX6_countRows 140 = .ok (.return_, 1) := by decide +kernel
theorem dX6_countWithin_0 : decode cX6_countWithin 0 = .ok (.iconst 0, 1) := by decide +kernel
theorem dX6_countWithin_1 : decode cX6_countWithin 1 = .ok (.istore_n 3, 1) := by decide +kernel
theorem dX6_countWithin_2 : decode cX6_countWithin 2 = .ok (.iload_n 3, 1) := by decide +kernel
theorem dX6_countWithin_3 : decode cX6_countWithin 3 = .ok (.iload_n 2, 1) := by decide +kernel
theorem dX6_countWithin_4 : decode cX6_countWithin 4 = .ok (.if_icmp .gt 35, 3) := by decide +kernel
theorem dX6_countWithin_7 : decode cX6_countWithin 7 = .ok (.iload_n 3, 1) := by decide +kernel
theorem dX6_countWithin_8 : decode cX6_countWithin 8 = .ok (.sipush 1024, 3) := by decide +kernel
theorem dX6_countWithin_11 : decode cX6_countWithin 11 = .ok (.if_icmp .ge 28, 3) := by decide +kernel
theorem dX6_countWithin_14 : decode cX6_countWithin 14 = .ok (.aload_n 0, 1) := by decide +kernel
theorem dX6_countWithin_15 : decode cX6_countWithin 15 = .ok (.getfield 11, 3) := by decide +kernel
theorem dX6_countWithin_18 : decode cX6_countWithin 18 = .ok (.iload_n 3, 1) := by decide +kernel
theorem dX6_countWithin_19 : decode cX6_countWithin 19 = .ok (.aload_n 1, 1) := by decide +kernel
theorem dX6_countWithin_20 : decode cX6_countWithin 20 = .ok (.iload_n 3, 1) := by decide +kernel
theorem dX6_countWithin_21 : decode cX6_countWithin 21 = .ok (.invokevirtual 68, 3) := by decide +kernel
theorem dX6_countWithin_24 : decode cX6_countWithin 24 = .ok (.ifCond .eq 7, 3) := by decide +kernel
theorem dX6_countWithin_27 : decode cX6_countWithin 27 = .ok (.iconst 1, 1) := by decide +kernel
theorem dX6_countWithin_28 : decode cX6_countWithin 28 = .ok (.goto 4, 3) := by decide +kernel
theorem dX6_countWithin_31 : decode cX6_countWithin 31 = .ok (.iconst 0, 1) := by decide +kernel
theorem dX6_countWithin_32 : decode cX6_countWithin 32 = .ok (.iastore, 1) := by decide +kernel
theorem dX6_countWithin_33 : decode cX6_countWithin 33 = .ok (.iinc 3 1, 3) := by decide +kernel
theorem dX6_countWithin_36 : decode cX6_countWithin 36 = .ok (.goto (-34), 3) := by decide +kernel
theorem dX6_countWithin_39 : decode cX6_countWithin 39 = .ok (.iconst 0, 1) := by decide +kernel
theorem dX6_countWithin_40 : decode cX6_countWithin 40 = .ok (.istore_n 3, 1) := by decide +kernel
theorem dX6_countWithin_41 : decode cX6_countWithin 41 = .ok (.iload_n 3, 1) := by decide +kernel
theorem dX6_countWithin_42 : decode cX6_countWithin 42 = .ok (.bipush 10, 2) := by decide +kernel
theorem dX6_countWithin_44 : decode cX6_countWithin 44 = .ok (.if_icmp .ge 62, 3) := by decide +kernel
theorem dX6_countWithin_47 : decode cX6_countWithin 47 = .ok (.iconst 0, 1) := by decide +kernel
theorem dX6_countWithin_48 : decode cX6_countWithin 48 = .ok (.istore 4, 2) := by decide +kernel
theorem dX6_countWithin_50 : decode cX6_countWithin 50 = .ok (.iload 4, 2) := by decide +kernel
theorem dX6_countWithin_52 : decode cX6_countWithin 52 = .ok (.iload_n 2, 1) := by decide +kernel
theorem dX6_countWithin_53 : decode cX6_countWithin 53 = .ok (.if_icmp .gt 47, 3) := by decide +kernel
theorem dX6_countWithin_56 : decode cX6_countWithin 56 = .ok (.iload 4, 2) := by decide +kernel
theorem dX6_countWithin_58 : decode cX6_countWithin 58 = .ok (.sipush 1024, 3) := by decide +kernel
theorem dX6_countWithin_61 : decode cX6_countWithin 61 = .ok (.if_icmp .ge 39, 3) := by decide +kernel
theorem dX6_countWithin_64 : decode cX6_countWithin 64 = .ok (.iload 4, 2) := by decide +kernel
theorem dX6_countWithin_66 : decode cX6_countWithin 66 = .ok (.iload_n 3, 1) := by decide +kernel
theorem dX6_countWithin_67 : decode cX6_countWithin 67 = .ok (.invokestatic 74, 3) := by decide +kernel
theorem dX6_countWithin_70 : decode cX6_countWithin 70 = .ok (.ifCond .eq 24, 3) := by decide +kernel
theorem dX6_countWithin_73 : decode cX6_countWithin 73 = .ok (.aload_n 0, 1) := by decide +kernel
theorem dX6_countWithin_74 : decode cX6_countWithin 74 = .ok (.getfield 11, 3) := by decide +kernel
theorem dX6_countWithin_77 : decode cX6_countWithin 77 = .ok (.iload 4, 2) := by decide +kernel
theorem dX6_countWithin_79 : decode cX6_countWithin 79 = .ok (.dup2, 1) := by decide +kernel
theorem dX6_countWithin_80 : decode cX6_countWithin 80 = .ok (.iaload, 1) := by decide +kernel
theorem dX6_countWithin_81 : decode cX6_countWithin 81 = .ok (.aload_n 0, 1) := by decide +kernel
theorem dX6_countWithin_82 : decode cX6_countWithin 82 = .ok (.getfield 11, 3) := by decide +kernel
theorem dX6_countWithin_85 : decode cX6_countWithin 85 = .ok (.iload 4, 2) := by decide +kernel
theorem dX6_countWithin_87 : decode cX6_countWithin 87 = .ok (.iconst 1, 1) := by decide +kernel
theorem dX6_countWithin_88 : decode cX6_countWithin 88 = .ok (.iload_n 3, 1) := by decide +kernel
theorem dX6_countWithin_89 : decode cX6_countWithin 89 = .ok (.ishl, 1) := by decide +kernel
theorem dX6_countWithin_90 : decode cX6_countWithin 90 = .ok (.ixor, 1) := by decide +kernel
theorem dX6_countWithin_91 : decode cX6_countWithin 91 = .ok (.iaload, 1) := by decide +kernel
theorem dX6_countWithin_92 : decode cX6_countWithin 92 = .ok (.iadd, 1) := by decide +kernel
theorem dX6_countWithin_93 : decode cX6_countWithin 93 = .ok (.iastore, 1) := by decide +kernel
theorem dX6_countWithin_94 : decode cX6_countWithin 94 = .ok (.iinc 4 1, 3) := by decide +kernel
theorem dX6_countWithin_97 : decode cX6_countWithin 97 = .ok (.goto (-47), 3) := by decide +kernel
theorem dX6_countWithin_100 : decode cX6_countWithin 100 = .ok (.iinc 3 1, 3) := by decide +kernel
theorem dX6_countWithin_103 : decode cX6_countWithin 103 = .ok (.goto (-62), 3) := by decide +kernel
theorem dX6_countWithin_106 : decode cX6_countWithin 106 = .ok (.return_, 1) := by decide +kernel
theorem dX6_raise_0 : decode cX6_raise 0 = .ok (.aload_n 0, 1) := by decide +kernel
theorem dX6_raise_1 : decode cX6_raise 1 = .ok (.getfield 18, 3) := by decide +kernel
theorem dX6_raise_4 : decode cX6_raise 4 = .ok (.lconst 0, 1) := by decide +kernel
theorem dX6_raise_5 : decode cX6_raise 5 = .ok (.invokestatic 51, 3) := by decide +kernel
theorem dX6_raise_8 : decode cX6_raise 8 = .ok (.aload_n 0, 1) := by decide +kernel
theorem dX6_raise_9 : decode cX6_raise 9 = .ok (.getfield 18, 3) := by decide +kernel
theorem dX6_raise_12 : decode cX6_raise 12 = .ok (.iconst 0, 1) := by decide +kernel
theorem dX6_raise_13 : decode cX6_raise 13 = .ok (.lconst 1, 1) := by decide +kernel
theorem dX6_raise_14 : decode cX6_raise 14 = .ok (.lastore, 1) := by decide +kernel
theorem dX6_raise_15 : decode cX6_raise 15 = .ok (.iconst 0, 1) := by decide +kernel
theorem dX6_raise_16 : decode cX6_raise 16 = .ok (.istore_n 3, 1) := by decide +kernel
theorem dX6_raise_17 : decode cX6_raise 17 = .ok (.iload_n 3, 1) := by decide +kernel
theorem dX6_raise_18 : decode cX6_raise 18 = .ok (.iload_n 2, 1) := by decide +kernel
theorem dX6_raise_19 : decode cX6_raise 19 = .ok (.if_icmp .ge 64, 3) := by decide +kernel
theorem dX6_raise_22 : decode cX6_raise 22 = .ok (.lconst 0, 1) := by decide +kernel
theorem dX6_raise_23 : decode cX6_raise 23 = .ok (.lstore 4, 2) := by decide +kernel
theorem dX6_raise_25 : decode cX6_raise 25 = .ok (.iconst 0, 1) := by decide +kernel
theorem dX6_raise_26 : decode cX6_raise 26 = .ok (.istore 6, 2) := by decide +kernel
theorem dX6_raise_28 : decode cX6_raise 28 = .ok (.iload 6, 2) := by decide +kernel
theorem dX6_raise_30 : decode cX6_raise 30 = .ok (.bipush 8, 2) := by decide +kernel
theorem dX6_raise_32 : decode cX6_raise 32 = .ok (.if_icmp .ge 45, 3) := by decide +kernel
theorem dX6_raise_35 : decode cX6_raise 35 = .ok (.aload_n 0, 1) := by decide +kernel
theorem dX6_raise_36 : decode cX6_raise 36 = .ok (.getfield 18, 3) := by decide +kernel
theorem dX6_raise_39 : decode cX6_raise 39 = .ok (.iload 6, 2) := by decide +kernel
theorem dX6_raise_41 : decode cX6_raise 41 = .ok (.laload, 1) := by decide +kernel
theorem dX6_raise_42 : decode cX6_raise 42 = .ok (.iload_n 1, 1) := by decide +kernel
theorem dX6_raise_43 : decode cX6_raise 43 = .ok (.i2l, 1) := by decide +kernel
theorem dX6_raise_44 : decode cX6_raise 44 = .ok (.lmul, 1) := by decide +kernel
theorem dX6_raise_45 : decode cX6_raise 45 = .ok (.lload 4, 2) := by decide +kernel
theorem dX6_raise_47 : decode cX6_raise 47 = .ok (.ladd, 1) := by decide +kernel
theorem dX6_raise_48 : decode cX6_raise 48 = .ok (.lstore 7, 2) := by decide +kernel
theorem dX6_raise_50 : decode cX6_raise 50 = .ok (.aload_n 0, 1) := by decide +kernel
theorem dX6_raise_51 : decode cX6_raise 51 = .ok (.getfield 18, 3) := by decide +kernel
theorem dX6_raise_54 : decode cX6_raise 54 = .ok (.iload 6, 2) := by decide +kernel
theorem dX6_raise_56 : decode cX6_raise 56 = .ok (.lload 7, 2) := by decide +kernel
theorem dX6_raise_58 : decode cX6_raise 58 = .ok (.ldc2_w 78, 3) := by decide +kernel
theorem dX6_raise_61 : decode cX6_raise 61 = .ok (.lrem, 1) := by decide +kernel
theorem dX6_raise_62 : decode cX6_raise 62 = .ok (.lastore, 1) := by decide +kernel
theorem dX6_raise_63 : decode cX6_raise 63 = .ok (.lload 7, 2) := by decide +kernel
theorem dX6_raise_65 : decode cX6_raise 65 = .ok (.ldc2_w 78, 3) := by decide +kernel
theorem dX6_raise_68 : decode cX6_raise 68 = .ok (.ldiv, 1) := by decide +kernel
theorem dX6_raise_69 : decode cX6_raise 69 = .ok (.lstore 4, 2) := by decide +kernel
theorem dX6_raise_71 : decode cX6_raise 71 = .ok (.iinc 6 1, 3) := by decide +kernel
theorem dX6_raise_74 : decode cX6_raise 74 = .ok (.goto (-46), 3) := by decide +kernel
theorem dX6_raise_77 : decode cX6_raise 77 = .ok (.iinc 3 1, 3) := by decide +kernel
theorem dX6_raise_80 : decode cX6_raise 80 = .ok (.goto (-63), 3) := by decide +kernel
theorem dX6_raise_83 : decode cX6_raise 83 = .ok (.return_, 1) := by decide +kernel
theorem dX6_addPower_0 : decode cX6_addPower 0 = .ok (.iconst 0, 1) := by decide +kernel
theorem dX6_addPower_1 : decode cX6_addPower 1 = .ok (.istore_n 2, 1) := by decide +kernel
theorem dX6_addPower_2 : decode cX6_addPower 2 = .ok (.iload_n 2, 1) := by decide +kernel
theorem dX6_addPower_3 : decode cX6_addPower 3 = .ok (.bipush 8, 2) := by decide +kernel
theorem dX6_addPower_5 : decode cX6_addPower 5 = .ok (.if_icmp .ge 27, 3) := by decide +kernel
theorem dX6_addPower_8 : decode cX6_addPower 8 = .ok (.aload_n 0, 1) := by decide +kernel
theorem dX6_addPower_9 : decode cX6_addPower 9 = .ok (.getfield 22, 3) := by decide +kernel
theorem dX6_addPower_12 : decode cX6_addPower 12 = .ok (.iload_n 2, 1) := by decide +kernel
theorem dX6_addPower_13 : decode cX6_addPower 13 = .ok (.dup2, 1) := by decide +kernel
theorem dX6_addPower_14 : decode cX6_addPower 14 = .ok (.laload, 1) := by decide +kernel
theorem dX6_addPower_15 : decode cX6_addPower 15 = .ok (.aload_n 0, 1) := by decide +kernel
theorem dX6_addPower_16 : decode cX6_addPower 16 = .ok (.getfield 18, 3) := by decide +kernel
theorem dX6_addPower_19 : decode cX6_addPower 19 = .ok (.iload_n 2, 1) := by decide +kernel
theorem dX6_addPower_20 : decode cX6_addPower 20 = .ok (.laload, 1) := by decide +kernel
theorem dX6_addPower_21 : decode cX6_addPower 21 = .ok (.iload_n 1, 1) := by decide +kernel
theorem dX6_addPower_22 : decode cX6_addPower 22 = .ok (.i2l, 1) := by decide +kernel
theorem dX6_addPower_23 : decode cX6_addPower 23 = .ok (.lmul, 1) := by decide +kernel
theorem dX6_addPower_24 : decode cX6_addPower 24 = .ok (.ladd, 1) := by decide +kernel
theorem dX6_addPower_25 : decode cX6_addPower 25 = .ok (.lastore, 1) := by decide +kernel
theorem dX6_addPower_26 : decode cX6_addPower 26 = .ok (.iinc 2 1, 3) := by decide +kernel
theorem dX6_addPower_29 : decode cX6_addPower 29 = .ok (.goto (-27), 3) := by decide +kernel
theorem dX6_addPower_32 : decode cX6_addPower 32 = .ok (.return_, 1) := by decide +kernel
theorem dX6_carry_0 : decode cX6_carry 0 = .ok (.lconst 0, 1) := by decide +kernel
theorem dX6_carry_1 : decode cX6_carry 1 = .ok (.lstore_n 1, 1) := by decide +kernel
theorem dX6_carry_2 : decode cX6_carry 2 = .ok (.iconst 0, 1) := by decide +kernel
theorem dX6_carry_3 : decode cX6_carry 3 = .ok (.istore_n 3, 1) := by decide +kernel
theorem dX6_carry_4 : decode cX6_carry 4 = .ok (.iload_n 3, 1) := by decide +kernel
theorem dX6_carry_5 : decode cX6_carry 5 = .ok (.bipush 8, 2) := by decide +kernel
theorem dX6_carry_7 : decode cX6_carry 7 = .ok (.if_icmp .ge 42, 3) := by decide +kernel
theorem dX6_carry_10 : decode cX6_carry 10 = .ok (.aload_n 0, 1) := by decide +kernel
theorem dX6_carry_11 : decode cX6_carry 11 = .ok (.getfield 22, 3) := by decide +kernel
theorem dX6_carry_14 : decode cX6_carry 14 = .ok (.iload_n 3, 1) := by decide +kernel
theorem dX6_carry_15 : decode cX6_carry 15 = .ok (.laload, 1) := by decide +kernel
theorem dX6_carry_16 : decode cX6_carry 16 = .ok (.lload_n 1, 1) := by decide +kernel
theorem dX6_carry_17 : decode cX6_carry 17 = .ok (.ladd, 1) := by decide +kernel
theorem dX6_carry_18 : decode cX6_carry 18 = .ok (.lstore 4, 2) := by decide +kernel
theorem dX6_carry_20 : decode cX6_carry 20 = .ok (.aload_n 0, 1) := by decide +kernel
theorem dX6_carry_21 : decode cX6_carry 21 = .ok (.getfield 22, 3) := by decide +kernel
theorem dX6_carry_24 : decode cX6_carry 24 = .ok (.iload_n 3, 1) := by decide +kernel
theorem dX6_carry_25 : decode cX6_carry 25 = .ok (.lload 4, 2) := by decide +kernel
theorem dX6_carry_27 : decode cX6_carry 27 = .ok (.ldc2_w 78, 3) := by decide +kernel
theorem dX6_carry_30 : decode cX6_carry 30 = .ok (.invokestatic 80, 3) := by decide +kernel
theorem dX6_carry_33 : decode cX6_carry 33 = .ok (.lastore, 1) := by decide +kernel
theorem dX6_carry_34 : decode cX6_carry 34 = .ok (.lload 4, 2) := by decide +kernel
theorem dX6_carry_36 : decode cX6_carry 36 = .ok (.ldc2_w 78, 3) := by decide +kernel
theorem dX6_carry_39 : decode cX6_carry 39 = .ok (.invokestatic 84, 3) := by decide +kernel
theorem dX6_carry_42 : decode cX6_carry 42 = .ok (.lstore_n 1, 1) := by decide +kernel
theorem dX6_carry_43 : decode cX6_carry 43 = .ok (.iinc 3 1, 3) := by decide +kernel
theorem dX6_carry_46 : decode cX6_carry 46 = .ok (.goto (-42), 3) := by decide +kernel
theorem dX6_carry_49 : decode cX6_carry 49 = .ok (.return_, 1) := by decide +kernel
theorem dX6_writeDigits_0 : decode cX6_writeDigits 0 = .ok (.iconst 0, 1) := by decide +kernel
theorem dX6_writeDigits_1 : decode cX6_writeDigits 1 = .ok (.istore_n 1, 1) := by decide +kernel
theorem dX6_writeDigits_2 : decode cX6_writeDigits 2 = .ok (.iload_n 1, 1) := by decide +kernel
theorem dX6_writeDigits_3 : decode cX6_writeDigits 3 = .ok (.bipush 8, 2) := by decide +kernel
theorem dX6_writeDigits_5 : decode cX6_writeDigits 5 = .ok (.if_icmp .ge 57, 3) := by decide +kernel
theorem dX6_writeDigits_8 : decode cX6_writeDigits 8 = .ok (.aload_n 0, 1) := by decide +kernel
theorem dX6_writeDigits_9 : decode cX6_writeDigits 9 = .ok (.getfield 22, 3) := by decide +kernel
theorem dX6_writeDigits_12 : decode cX6_writeDigits 12 = .ok (.iload_n 1, 1) := by decide +kernel
theorem dX6_writeDigits_13 : decode cX6_writeDigits 13 = .ok (.laload, 1) := by decide +kernel
theorem dX6_writeDigits_14 : decode cX6_writeDigits 14 = .ok (.lstore_n 2, 1) := by decide +kernel
theorem dX6_writeDigits_15 : decode cX6_writeDigits 15 = .ok (.iconst 0, 1) := by decide +kernel
theorem dX6_writeDigits_16 : decode cX6_writeDigits 16 = .ok (.istore 4, 2) := by decide +kernel
theorem dX6_writeDigits_18 : decode cX6_writeDigits 18 = .ok (.iload 4, 2) := by decide +kernel
theorem dX6_writeDigits_20 : decode cX6_writeDigits 20 = .ok (.bipush 9, 2) := by decide +kernel
theorem dX6_writeDigits_22 : decode cX6_writeDigits 22 = .ok (.if_icmp .ge 34, 3) := by decide +kernel
theorem dX6_writeDigits_25 : decode cX6_writeDigits 25 = .ok (.aload_n 0, 1) := by decide +kernel
theorem dX6_writeDigits_26 : decode cX6_writeDigits 26 = .ok (.getfield 25, 3) := by decide +kernel
theorem dX6_writeDigits_29 : decode cX6_writeDigits 29 = .ok (.iload_n 1, 1) := by decide +kernel
theorem dX6_writeDigits_30 : decode cX6_writeDigits 30 = .ok (.bipush 9, 2) := by decide +kernel
theorem dX6_writeDigits_32 : decode cX6_writeDigits 32 = .ok (.imul, 1) := by decide +kernel
theorem dX6_writeDigits_33 : decode cX6_writeDigits 33 = .ok (.iload 4, 2) := by decide +kernel
theorem dX6_writeDigits_35 : decode cX6_writeDigits 35 = .ok (.iadd, 1) := by decide +kernel
theorem dX6_writeDigits_36 : decode cX6_writeDigits 36 = .ok (.lload_n 2, 1) := by decide +kernel
theorem dX6_writeDigits_37 : decode cX6_writeDigits 37 = .ok (.ldc2_w 87, 3) := by decide +kernel
theorem dX6_writeDigits_40 : decode cX6_writeDigits 40 = .ok (.lrem, 1) := by decide +kernel
theorem dX6_writeDigits_41 : decode cX6_writeDigits 41 = .ok (.l2i, 1) := by decide +kernel
theorem dX6_writeDigits_42 : decode cX6_writeDigits 42 = .ok (.i2b, 1) := by decide +kernel
theorem dX6_writeDigits_43 : decode cX6_writeDigits 43 = .ok (.bastore, 1) := by decide +kernel
theorem dX6_writeDigits_44 : decode cX6_writeDigits 44 = .ok (.lload_n 2, 1) := by decide +kernel
theorem dX6_writeDigits_45 : decode cX6_writeDigits 45 = .ok (.ldc2_w 87, 3) := by decide +kernel
theorem dX6_writeDigits_48 : decode cX6_writeDigits 48 = .ok (.ldiv, 1) := by decide +kernel
theorem dX6_writeDigits_49 : decode cX6_writeDigits 49 = .ok (.lstore_n 2, 1) := by decide +kernel
theorem dX6_writeDigits_50 : decode cX6_writeDigits 50 = .ok (.iinc 4 1, 3) := by decide +kernel
theorem dX6_writeDigits_53 : decode cX6_writeDigits 53 = .ok (.goto (-35), 3) := by decide +kernel
theorem dX6_writeDigits_56 : decode cX6_writeDigits 56 = .ok (.iinc 1 1, 3) := by decide +kernel
theorem dX6_writeDigits_59 : decode cX6_writeDigits 59 = .ok (.goto (-57), 3) := by decide +kernel
theorem dX6_writeDigits_62 : decode cX6_writeDigits 62 = .ok (.return_, 1) := by decide +kernel
theorem dX6_digitsUsed_0 : decode cX6_digitsUsed 0 = .ok (.bipush 71, 2) := by decide +kernel
theorem dX6_digitsUsed_2 : decode cX6_digitsUsed 2 = .ok (.istore_n 1, 1) := by decide +kernel
theorem dX6_digitsUsed_3 : decode cX6_digitsUsed 3 = .ok (.iload_n 1, 1) := by decide +kernel
theorem dX6_digitsUsed_4 : decode cX6_digitsUsed 4 = .ok (.ifCond .le 22, 3) := by decide +kernel
theorem dX6_digitsUsed_7 : decode cX6_digitsUsed 7 = .ok (.aload_n 0, 1) := by decide +kernel
theorem dX6_digitsUsed_8 : decode cX6_digitsUsed 8 = .ok (.getfield 25, 3) := by decide +kernel
theorem dX6_digitsUsed_11 : decode cX6_digitsUsed 11 = .ok (.iload_n 1, 1) := by decide +kernel
theorem dX6_digitsUsed_12 : decode cX6_digitsUsed 12 = .ok (.baload, 1) := by decide +kernel
theorem dX6_digitsUsed_13 : decode cX6_digitsUsed 13 = .ok (.ifCond .eq 7, 3) := by decide +kernel
theorem dX6_digitsUsed_16 : decode cX6_digitsUsed 16 = .ok (.iload_n 1, 1) := by decide +kernel
theorem dX6_digitsUsed_17 : decode cX6_digitsUsed 17 = .ok (.iconst 1, 1) := by decide +kernel
theorem dX6_digitsUsed_18 : decode cX6_digitsUsed 18 = .ok (.iadd, 1) := by decide +kernel
theorem dX6_digitsUsed_19 : decode cX6_digitsUsed 19 = .ok (.ireturn, 1) := by decide +kernel
theorem dX6_digitsUsed_20 : decode cX6_digitsUsed 20 = .ok (.iinc 1 (-1), 3) := by decide +kernel
theorem dX6_digitsUsed_23 : decode cX6_digitsUsed 23 = .ok (.goto (-20), 3) := by decide +kernel
theorem dX6_digitsUsed_26 : decode cX6_digitsUsed 26 = .ok (.iconst 1, 1) := by decide +kernel
theorem dX6_digitsUsed_27 : decode cX6_digitsUsed 27 = .ok (.ireturn, 1) := by decide +kernel
theorem dX6_digitAt_0 : decode cX6_digitAt 0 = .ok (.iload_n 1, 1) := by decide +kernel
theorem dX6_digitAt_1 : decode cX6_digitAt 1 = .ok (.ifCond .lt 18, 3) := by decide +kernel
theorem dX6_digitAt_4 : decode cX6_digitAt 4 = .ok (.iload_n 1, 1) := by decide +kernel
theorem dX6_digitAt_5 : decode cX6_digitAt 5 = .ok (.bipush 72, 2) := by decide +kernel
theorem dX6_digitAt_7 : decode cX6_digitAt 7 = .ok (.if_icmp .ge 12, 3) := by decide +kernel
theorem dX6_digitAt_10 : decode cX6_digitAt 10 = .ok (.aload_n 0, 1) := by decide +kernel
theorem dX6_digitAt_11 : decode cX6_digitAt 11 = .ok (.getfield 25, 3) := by decide +kernel
theorem dX6_digitAt_14 : decode cX6_digitAt 14 = .ok (.iload_n 1, 1) := by decide +kernel
theorem dX6_digitAt_15 : decode cX6_digitAt 15 = .ok (.baload, 1) := by decide +kernel
theorem dX6_digitAt_16 : decode cX6_digitAt 16 = .ok (.goto 4, 3) := by decide +kernel
theorem dX6_digitAt_19 : decode cX6_digitAt 19 = .ok (.iconst 0, 1) := by decide +kernel
theorem dX6_digitAt_20 : decode cX6_digitAt 20 = .ok (.ireturn, 1) := by decide +kernel
theorem dX7_init_0 : decode cX7_init 0 = .ok (.aload_n 0, 1) := by decide +kernel
theorem dX7_init_1 : decode cX7_init 1 = .ok (.invokespecial 3, 3) := by decide +kernel
theorem dX7_init_4 : decode cX7_init 4 = .ok (.aload_n 0, 1) := by decide +kernel
theorem dX7_init_5 : decode cX7_init 5 = .ok (.new 9, 3) := by decide +kernel
theorem dX7_init_8 : decode cX7_init 8 = .ok (.dup, 1) := by decide +kernel
theorem dX7_init_9 : decode cX7_init 9 = .ok (.invokespecial 11, 3) := by decide +kernel
theorem dX7_init_12 : decode cX7_init 12 = .ok (.putfield 12, 3) := by decide +kernel
theorem dX7_init_15 : decode cX7_init 15 = .ok (.aload_n 0, 1) := by decide +kernel
theorem dX7_init_16 : decode cX7_init 16 = .ok (.new 16, 3) := by decide +kernel
theorem dX7_init_19 : decode cX7_init 19 = .ok (.dup, 1) := by decide +kernel
theorem dX7_init_20 : decode cX7_init 20 = .ok (.invokespecial 18, 3) := by decide +kernel
theorem dX7_init_23 : decode cX7_init 23 = .ok (.putfield 19, 3) := by decide +kernel
theorem dX7_init_26 : decode cX7_init 26 = .ok (.aload_n 0, 1) := by decide +kernel
theorem dX7_init_27 : decode cX7_init 27 = .ok (.new 23, 3) := by decide +kernel
theorem dX7_init_30 : decode cX7_init 30 = .ok (.dup, 1) := by decide +kernel
theorem dX7_init_31 : decode cX7_init 31 = .ok (.invokespecial 25, 3) := by decide +kernel
theorem dX7_init_34 : decode cX7_init 34 = .ok (.putfield 26, 3) := by decide +kernel
theorem dX7_init_37 : decode cX7_init 37 = .ok (.aload_n 0, 1) := by decide +kernel
theorem dX7_init_38 : decode cX7_init 38 = .ok (.new 30, 3) := by decide +kernel
theorem dX7_init_41 : decode cX7_init 41 = .ok (.dup, 1) := by decide +kernel
theorem dX7_init_42 : decode cX7_init 42 = .ok (.invokespecial 32, 3) := by decide +kernel
theorem dX7_init_45 : decode cX7_init 45 = .ok (.putfield 33, 3) := by decide +kernel
theorem dX7_init_48 : decode cX7_init 48 = .ok (.aload_n 0, 1) := by decide +kernel
theorem dX7_init_49 : decode cX7_init 49 = .ok (.bipush 10, 2) := by decide +kernel
theorem dX7_init_51 : decode cX7_init 51 = .ok (.newarray .int, 2) := by decide +kernel
theorem dX7_init_53 : decode cX7_init 53 = .ok (.putfield 37, 3) := by decide +kernel
theorem dX7_init_56 : decode cX7_init 56 = .ok (.aload_n 0, 1) := by decide +kernel
theorem dX7_init_57 : decode cX7_init 57 = .ok (.iconst (-1), 1) := by decide +kernel
theorem dX7_init_58 : decode cX7_init 58 = .ok (.putfield 41, 3) := by decide +kernel
theorem dX7_init_61 : decode cX7_init 61 = .ok (.return_, 1) := by decide +kernel
theorem dX7_terms_0 : decode cX7_terms 0 = .ok (.iload_n 1, 1) := by decide +kernel
theorem dX7_terms_1 : decode cX7_terms 1 = .ok (.i2l, 1) := by decide +kernel
theorem dX7_terms_2 : decode cX7_terms 2 = .ok (.lconst 1, 1) := by decide +kernel
theorem dX7_terms_3 : decode cX7_terms 3 = .ok (.ldc2_w 45, 3) := by decide +kernel
theorem dX7_terms_6 : decode cX7_terms 6 = .ok (.invokestatic 47, 3) := by decide +kernel
theorem dX7_terms_9 : decode cX7_terms 9 = .ok (.ifCond .eq 44, 3) := by decide +kernel
theorem dX7_terms_12 : decode cX7_terms 12 = .ok (.iload_n 2, 1) := by decide +kernel
theorem dX7_terms_13 : decode cX7_terms 13 = .ok (.i2l, 1) := by decide +kernel
theorem dX7_terms_14 : decode cX7_terms 14 = .ok (.lconst 1, 1) := by decide +kernel
theorem dX7_terms_15 : decode cX7_terms 15 = .ok (.ldc2_w 51, 3) := by decide +kernel
theorem dX7_terms_18 : decode cX7_terms 18 = .ok (.invokestatic 47, 3) := by decide +kernel
theorem dX7_terms_21 : decode cX7_terms 21 = .ok (.ifCond .eq 32, 3) := by decide +kernel
theorem dX7_terms_24 : decode cX7_terms 24 = .ok (.iload_n 3, 1) := by decide +kernel
theorem dX7_terms_25 : decode cX7_terms 25 = .ok (.i2l, 1) := by decide +kernel
theorem dX7_terms_26 : decode cX7_terms 26 = .ok (.lconst 1, 1) := by decide +kernel
theorem dX7_terms_27 : decode cX7_terms 27 = .ok (.ldc2_w 53, 3) := by decide +kernel
theorem dX7_terms_30 : decode cX7_terms 30 = .ok (.invokestatic 47, 3) := by decide +kernel
theorem dX7_terms_33 : decode cX7_terms 33 = .ok (.ifCond .eq 20, 3) := by decide +kernel
theorem dX7_terms_36 : decode cX7_terms 36 = .ok (.iload 4, 2) := by decide +kernel
theorem dX7_terms_38 : decode cX7_terms 38 = .ok (.i2l, 1) := by decide +kernel
theorem dX7_terms_39 : decode cX7_terms 39 = .ok (.lconst 0, 1) := by decide +kernel
theorem dX7_terms_40 : decode cX7_terms 40 = .ok (.ldc2_w 55, 3) := by decide +kernel
theorem dX7_terms_43 : decode cX7_terms 43 = .ok (.invokestatic 47, 3) := by decide +kernel
theorem dX7_terms_46 : decode cX7_terms 46 = .ok (.ifCond .eq 7, 3) := by decide +kernel
theorem dX7_terms_49 : decode cX7_terms 49 = .ok (.iconst 1, 1) := by decide +kernel
theorem dX7_terms_50 : decode cX7_terms 50 = .ok (.goto 4, 3) := by decide +kernel
theorem dX7_terms_53 : decode cX7_terms 53 = .ok (.iconst 0, 1) := by decide +kernel
theorem dX7_terms_54 : decode cX7_terms 54 = .ok (.istore 5, 2) := by decide +kernel
theorem dX7_terms_56 : decode cX7_terms 56 = .ok (.iload 5, 2) := by decide +kernel
theorem dX7_terms_58 : decode cX7_terms 58 = .ok (.ifCond .ne 6, 3) := by decide +kernel
theorem dX7_terms_61 : decode cX7_terms 61 = .ok (.bipush (-2), 2) := by decide +kernel
theorem dX7_terms_63 : decode cX7_terms 63 = .ok (.ireturn, 1) := by decide +kernel
theorem dX7_terms_64 : decode cX7_terms 64 = .ok (.aload_n 0, 1) := by decide +kernel
theorem dX7_terms_65 : decode cX7_terms 65 = .ok (.getfield 12, 3) := by decide +kernel
theorem dX7_terms_68 : decode cX7_terms 68 = .ok (.iload_n 1, 1) := by decide +kernel
theorem dX7_terms_69 : decode cX7_terms 69 = .ok (.putfield 57, 3) := by decide +kernel
theorem dX7_terms_72 : decode cX7_terms 72 = .ok (.aload_n 0, 1) := by decide +kernel
theorem dX7_terms_73 : decode cX7_terms 73 = .ok (.getfield 12, 3) := by decide +kernel
theorem dX7_terms_76 : decode cX7_terms 76 = .ok (.iload_n 2, 1) := by decide +kernel
theorem dX7_terms_77 : decode cX7_terms 77 = .ok (.putfield 60, 3) := by decide +kernel
theorem dX7_terms_80 : decode cX7_terms 80 = .ok (.aload_n 0, 1) := by decide +kernel
theorem dX7_terms_81 : decode cX7_terms 81 = .ok (.getfield 12, 3) := by decide +kernel
theorem dX7_terms_84 : decode cX7_terms 84 = .ok (.iload_n 3, 1) := by decide +kernel
theorem dX7_terms_85 : decode cX7_terms 85 = .ok (.putfield 63, 3) := by decide +kernel
theorem dX7_terms_88 : decode cX7_terms 88 = .ok (.aload_n 0, 1) := by decide +kernel
theorem dX7_terms_89 : decode cX7_terms 89 = .ok (.getfield 12, 3) := by decide +kernel
theorem dX7_terms_92 : decode cX7_terms 92 = .ok (.iload 4, 2) := by decide +kernel
theorem dX7_terms_94 : decode cX7_terms 94 = .ok (.putfield 66, 3) := by decide +kernel
theorem dX7_terms_97 : decode cX7_terms 97 = .ok (.iconst 0, 1) := by decide +kernel
theorem dX7_terms_98 : decode cX7_terms 98 = .ok (.ireturn, 1) := by decide +kernel
theorem dX7_cell_0 : decode cX7_cell 0 = .ok (.iload_n 1, 1) := by decide +kernel
theorem dX7_cell_1 : decode cX7_cell 1 = .ok (.i2l, 1) := by decide +kernel
theorem dX7_cell_2 : decode cX7_cell 2 = .ok (.lconst 1, 1) := by decide +kernel
theorem dX7_cell_3 : decode cX7_cell 3 = .ok (.ldc2_w 69, 3) := by decide +kernel
theorem dX7_cell_6 : decode cX7_cell 6 = .ok (.invokestatic 47, 3) := by decide +kernel
theorem dX7_cell_9 : decode cX7_cell 9 = .ok (.ifCond .eq 39, 3) := by decide +kernel
theorem dX7_cell_12 : decode cX7_cell 12 = .ok (.iload_n 2, 1) := by decide +kernel
theorem dX7_cell_13 : decode cX7_cell 13 = .ok (.i2l, 1) := by decide +kernel
theorem dX7_cell_14 : decode cX7_cell 14 = .ok (.lconst 1, 1) := by decide +kernel
theorem dX7_cell_15 : decode cX7_cell 15 = .ok (.ldc2_w 51, 3) := by decide +kernel
theorem dX7_cell_18 : decode cX7_cell 18 = .ok (.invokestatic 47, 3) := by decide +kernel
theorem dX7_cell_21 : decode cX7_cell 21 = .ok (.ifCond .eq 27, 3) := by decide +kernel
theorem dX7_cell_24 : decode cX7_cell 24 = .ok (.iload_n 3, 1) := by decide +kernel
theorem dX7_cell_25 : decode cX7_cell 25 = .ok (.i2l, 1) := by decide +kernel
theorem dX7_cell_26 : decode cX7_cell 26 = .ok (.lconst 1, 1) := by decide +kernel
theorem dX7_cell_27 : decode cX7_cell 27 = .ok (.ldc2_w 55, 3) := by decide +kernel
theorem dX7_cell_30 : decode cX7_cell 30 = .ok (.invokestatic 47, 3) := by decide +kernel
theorem dX7_cell_33 : decode cX7_cell 33 = .ok (.ifCond .eq 15, 3) := by decide +kernel
theorem dX7_cell_36 : decode cX7_cell 36 = .ok (.iload 4, 2) := by decide +kernel
theorem dX7_cell_38 : decode cX7_cell 38 = .ok (.invokestatic 71, 3) := by decide +kernel
theorem dX7_cell_41 : decode cX7_cell 41 = .ok (.ifCond .eq 7, 3) := by decide +kernel
theorem dX7_cell_44 : decode cX7_cell 44 = .ok (.iconst 1, 1) := by decide +kernel
theorem dX7_cell_45 : decode cX7_cell 45 = .ok (.goto 4, 3) := by decide +kernel
theorem dX7_cell_48 : decode cX7_cell 48 = .ok (.iconst 0, 1) := by decide +kernel
theorem dX7_cell_49 : decode cX7_cell 49 = .ok (.istore 5, 2) := by decide +kernel
theorem dX7_cell_51 : decode cX7_cell 51 = .ok (.iload 5, 2) := by decide +kernel
theorem dX7_cell_53 : decode cX7_cell 53 = .ok (.ifCond .ne 6, 3) := by decide +kernel
theorem dX7_cell_56 : decode cX7_cell 56 = .ok (.bipush (-2), 2) := by decide +kernel
theorem dX7_cell_58 : decode cX7_cell 58 = .ok (.ireturn, 1) := by decide +kernel
theorem dX7_cell_59 : decode cX7_cell 59 = .ok (.aload_n 0, 1) := by decide +kernel
theorem dX7_cell_60 : decode cX7_cell 60 = .ok (.getfield 12, 3) := by decide +kernel
theorem dX7_cell_63 : decode cX7_cell 63 = .ok (.getfield 75, 3) := by decide +kernel
theorem dX7_cell_66 : decode cX7_cell 66 = .ok (.bipush 10, 2) := by decide +kernel
theorem dX7_cell_68 : decode cX7_cell 68 = .ok (.if_icmp .lt 6, 3) := by decide +kernel
theorem dX7_cell_71 : decode cX7_cell 71 = .ok (.bipush (-3), 2) := by decide +kernel
theorem dX7_cell_73 : decode cX7_cell 73 = .ok (.ireturn, 1) := by decide +kernel
theorem dX7_cell_74 : decode cX7_cell 74 = .ok (.aload_n 0, 1) := by decide +kernel
theorem dX7_cell_75 : decode cX7_cell 75 = .ok (.getfield 12, 3) := by decide +kernel
theorem dX7_cell_78 : decode cX7_cell 78 = .ok (.getfield 78, 3) := by decide +kernel
theorem dX7_cell_81 : decode cX7_cell 81 = .ok (.aload_n 0, 1) := by decide +kernel
theorem dX7_cell_82 : decode cX7_cell 82 = .ok (.getfield 12, 3) := by decide +kernel
theorem dX7_cell_85 : decode cX7_cell 85 = .ok (.getfield 75, 3) := by decide +kernel
theorem dX7_cell_88 : decode cX7_cell 88 = .ok (.new 82, 3) := by decide +kernel
theorem dX7_cell_91 : decode cX7_cell 91 = .ok (.dup, 1) := by decide +kernel
theorem dX7_cell_92 : decode cX7_cell 92 = .ok (.iload_n 1, 1) := by decide +kernel
theorem dX7_cell_93 : decode cX7_cell 93 = .ok (.iload_n 2, 1) := by decide +kernel
theorem dX7_cell_94 : decode cX7_cell 94 = .ok (.iload_n 3, 1) := by decide +kernel
theorem dX7_cell_95 : decode cX7_cell 95 = .ok (.iload 4, 2) := by decide +kernel
theorem dX7_cell_97 : decode cX7_cell 97 = .ok (.invokespecial 84, 3) := by decide +kernel
theorem dX7_cell_100 : decode cX7_cell 100 = .ok (.aastore, 1) := by decide +kernel
theorem dX7_cell_101 : decode cX7_cell 101 = .ok (.aload_n 0, 1) := by decide +kernel
theorem dX7_cell_102 : decode cX7_cell 102 = .ok (.getfield 12, 3) := by decide +kernel
theorem dX7_cell_105 : decode cX7_cell 105 = .ok (.dup, 1) := by decide +kernel
theorem dX7_cell_106 : decode cX7_cell 106 = .ok (.getfield 75, 3) := by decide +kernel
theorem dX7_cell_109 : decode cX7_cell 109 = .ok (.iconst 1, 1) := by decide +kernel
theorem dX7_cell_110 : decode cX7_cell 110 = .ok (.iadd, 1) := by decide +kernel
theorem dX7_cell_111 : decode cX7_cell 111 = .ok (.putfield 75, 3) := by decide +kernel
theorem dX7_cell_114 : decode cX7_cell 114 = .ok (.aload_n 0, 1) := by decide +kernel
theorem dX7_cell_115 : decode cX7_cell 115 = .ok (.getfield 12, 3) := by decide +kernel
theorem dX7_cell_118 : decode cX7_cell 118 = .ok (.getfield 75, 3) := by decide +kernel
theorem dX7_cell_121 : decode cX7_cell 121 = .ok (.iconst 1, 1) := by decide +kernel
theorem dX7_cell_122 : decode cX7_cell 122 = .ok (.isub, 1) := by decide +kernel
theorem dX7_cell_123 : decode cX7_cell 123 = .ok (.ireturn, 1) := by decide +kernel
theorem dX7_forbid_0 : decode cX7_forbid 0 = .ok (.aload_n 0, 1) := by decide +kernel
theorem dX7_forbid_1 : decode cX7_forbid 1 = .ok (.getfield 12, 3) := by decide +kernel
theorem dX7_forbid_4 : decode cX7_forbid 4 = .ok (.iload_n 1, 1) := by decide +kernel
theorem dX7_forbid_5 : decode cX7_forbid 5 = .ok (.invokevirtual 87, 3) := by decide +kernel
theorem dX7_forbid_8 : decode cX7_forbid 8 = .ok (.ifCond .eq 19, 3) := by decide +kernel
theorem dX7_forbid_11 : decode cX7_forbid 11 = .ok (.aload_n 0, 1) := by decide +kernel
theorem dX7_forbid_12 : decode cX7_forbid 12 = .ok (.getfield 12, 3) := by decide +kernel
theorem dX7_forbid_15 : decode cX7_forbid 15 = .ok (.iload_n 2, 1) := by decide +kernel
theorem dX7_forbid_16 : decode cX7_forbid 16 = .ok (.invokevirtual 87, 3) := by decide +kernel
theorem dX7_forbid_19 : decode cX7_forbid 19 = .ok (.ifCond .eq 8, 3) := by decide +kernel
theorem dX7_forbid_22 : decode cX7_forbid 22 = .ok (.iload_n 1, 1) := by decide +kernel
theorem dX7_forbid_23 : decode cX7_forbid 23 = .ok (.iload_n 2, 1) := by decide +kernel
theorem dX7_forbid_24 : decode cX7_forbid 24 = .ok (.if_icmp .ne 5, 3) := by decide +kernel
theorem dX7_forbid_27 : decode cX7_forbid 27 = .ok (.iconst 0, 1) := by decide +kernel
theorem dX7_forbid_28 : decode cX7_forbid 28 = .ok (.ireturn, 1) := by decide +kernel
theorem dX7_forbid_29 : decode cX7_forbid 29 = .ok (.aload_n 0, 1) := by decide +kernel
theorem dX7_forbid_30 : decode cX7_forbid 30 = .ok (.getfield 12, 3) := by decide +kernel
theorem dX7_forbid_33 : decode cX7_forbid 33 = .ok (.getfield 78, 3) := by decide +kernel
theorem dX7_forbid_36 : decode cX7_forbid 36 = .ok (.iload_n 1, 1) := by decide +kernel
theorem dX7_forbid_37 : decode cX7_forbid 37 = .ok (.aaload, 1) := by decide +kernel
theorem dX7_forbid_38 : decode cX7_forbid 38 = .ok (.getfield 90, 3) := by decide +kernel
theorem dX7_forbid_41 : decode cX7_forbid 41 = .ok (.iload_n 2, 1) := by decide +kernel
theorem dX7_forbid_42 : decode cX7_forbid 42 = .ok (.invokestatic 93, 3) := by decide +kernel
theorem dX7_forbid_45 : decode cX7_forbid 45 = .ok (.iload_n 3, 1) := by decide +kernel
theorem dX7_forbid_46 : decode cX7_forbid 46 = .ok (.if_icmp .ne 5, 3) := by decide +kernel
theorem dX7_forbid_49 : decode cX7_forbid 49 = .ok (.iconst 0, 1) := by decide +kernel
theorem dX7_forbid_50 : decode cX7_forbid 50 = .ok (.ireturn, 1) := by decide +kernel
theorem dX7_forbid_51 : decode cX7_forbid 51 = .ok (.aload_n 0, 1) := by decide +kernel
theorem dX7_forbid_52 : decode cX7_forbid 52 = .ok (.getfield 12, 3) := by decide +kernel
theorem dX7_forbid_55 : decode cX7_forbid 55 = .ok (.getfield 78, 3) := by decide +kernel
theorem dX7_forbid_58 : decode cX7_forbid 58 = .ok (.iload_n 1, 1) := by decide +kernel
theorem dX7_forbid_59 : decode cX7_forbid 59 = .ok (.aaload, 1) := by decide +kernel
theorem dX7_forbid_60 : decode cX7_forbid 60 = .ok (.dup, 1) := by decide +kernel
theorem dX7_forbid_61 : decode cX7_forbid 61 = .ok (.getfield 90, 3) := by decide +kernel
theorem dX7_forbid_64 : decode cX7_forbid 64 = .ok (.iconst 1, 1) := by decide +kernel
theorem dX7_forbid_65 : decode cX7_forbid 65 = .ok (.iload_n 2, 1) := by decide +kernel
theorem dX7_forbid_66 : decode cX7_forbid 66 = .ok (.ishl, 1) := by decide +kernel
theorem dX7_forbid_67 : decode cX7_forbid 67 = .ok (.ixor, 1) := by decide +kernel
theorem dX7_forbid_68 : decode cX7_forbid 68 = .ok (.putfield 90, 3) := by decide +kernel
theorem dX7_forbid_71 : decode cX7_forbid 71 = .ok (.aload_n 0, 1) := by decide +kernel
theorem dX7_forbid_72 : decode cX7_forbid 72 = .ok (.getfield 12, 3) := by decide +kernel
theorem dX7_forbid_75 : decode cX7_forbid 75 = .ok (.getfield 78, 3) := by decide +kernel
theorem dX7_forbid_78 : decode cX7_forbid 78 = .ok (.iload_n 2, 1) := by decide +kernel
theorem dX7_forbid_79 : decode cX7_forbid 79 = .ok (.aaload, 1) := by decide +kernel
theorem dX7_forbid_80 : decode cX7_forbid 80 = .ok (.dup, 1) := by decide +kernel
theorem dX7_forbid_81 : decode cX7_forbid 81 = .ok (.getfield 90, 3) := by decide +kernel
theorem dX7_forbid_84 : decode cX7_forbid 84 = .ok (.iconst 1, 1) := by decide +kernel
theorem dX7_forbid_85 : decode cX7_forbid 85 = .ok (.iload_n 1, 1) := by decide +kernel
theorem dX7_forbid_86 : decode cX7_forbid 86 = .ok (.ishl, 1) := by decide +kernel
theorem dX7_forbid_87 : decode cX7_forbid 87 = .ok (.ixor, 1) := by decide +kernel
theorem dX7_forbid_88 : decode cX7_forbid 88 = .ok (.putfield 90, 3) := by decide +kernel
theorem dX7_forbid_91 : decode cX7_forbid 91 = .ok (.iconst 1, 1) := by decide +kernel
theorem dX7_forbid_92 : decode cX7_forbid 92 = .ok (.ireturn, 1) := by decide +kernel
theorem dX7_rain_0 : decode cX7_rain 0 = .ok (.aload_n 0, 1) := by decide +kernel
theorem dX7_rain_1 : decode cX7_rain 1 = .ok (.getfield 12, 3) := by decide +kernel
theorem dX7_rain_4 : decode cX7_rain 4 = .ok (.iload_n 1, 1) := by decide +kernel
theorem dX7_rain_5 : decode cX7_rain 5 = .ok (.invokevirtual 87, 3) := by decide +kernel
theorem dX7_rain_8 : decode cX7_rain 8 = .ok (.ifCond .eq 15, 3) := by decide +kernel
theorem dX7_rain_11 : decode cX7_rain 11 = .ok (.iload_n 2, 1) := by decide +kernel
theorem dX7_rain_12 : decode cX7_rain 12 = .ok (.i2l, 1) := by decide +kernel
theorem dX7_rain_13 : decode cX7_rain 13 = .ok (.lconst 0, 1) := by decide +kernel
theorem dX7_rain_14 : decode cX7_rain 14 = .ok (.ldc2_w 97, 3) := by decide +kernel
theorem dX7_rain_17 : decode cX7_rain 17 = .ok (.invokestatic 47, 3) := by decide +kernel
theorem dX7_rain_20 : decode cX7_rain 20 = .ok (.ifCond .ne 6, 3) := by decide +kernel
theorem dX7_rain_23 : decode cX7_rain 23 = .ok (.bipush (-2), 2) := by decide +kernel
theorem dX7_rain_25 : decode cX7_rain 25 = .ok (.ireturn, 1) := by decide +kernel
theorem dX7_rain_26 : decode cX7_rain 26 = .ok (.aload_n 0, 1) := by decide +kernel
theorem dX7_rain_27 : decode cX7_rain 27 = .ok (.getfield 12, 3) := by decide +kernel
theorem dX7_rain_30 : decode cX7_rain 30 = .ok (.getfield 78, 3) := by decide +kernel
theorem dX7_rain_33 : decode cX7_rain 33 = .ok (.iload_n 1, 1) := by decide +kernel
theorem dX7_rain_34 : decode cX7_rain 34 = .ok (.aaload, 1) := by decide +kernel
theorem dX7_rain_35 : decode cX7_rain 35 = .ok (.getfield 99, 3) := by decide +kernel
theorem dX7_rain_38 : decode cX7_rain 38 = .ok (.istore_n 3, 1) := by decide +kernel
theorem dX7_rain_39 : decode cX7_rain 39 = .ok (.aload_n 0, 1) := by decide +kernel
theorem dX7_rain_40 : decode cX7_rain 40 = .ok (.getfield 12, 3) := by decide +kernel
theorem dX7_rain_43 : decode cX7_rain 43 = .ok (.getfield 78, 3) := by decide +kernel
theorem dX7_rain_46 : decode cX7_rain 46 = .ok (.iload_n 1, 1) := by decide +kernel
theorem dX7_rain_47 : decode cX7_rain 47 = .ok (.aaload, 1) := by decide +kernel
theorem dX7_rain_48 : decode cX7_rain 48 = .ok (.iload_n 2, 1) := by decide +kernel
theorem dX7_rain_49 : decode cX7_rain 49 = .ok (.putfield 99, 3) := by decide +kernel
theorem dX7_rain_52 : decode cX7_rain 52 = .ok (.iload_n 3, 1) := by decide +kernel
theorem dX7_rain_53 : decode cX7_rain 53 = .ok (.ireturn, 1) := by decide +kernel
theorem dX7_gateway_0 : decode cX7_gateway 0 = .ok (.iload_n 1, 1) := by decide +kernel
theorem dX7_gateway_1 : decode cX7_gateway 1 = .ok (.invokestatic 71, 3) := by decide +kernel
theorem dX7_gateway_4 : decode cX7_gateway 4 = .ok (.ifCond .eq 15, 3) := by decide +kernel
theorem dX7_gateway_7 : decode cX7_gateway 7 = .ok (.iload_n 2, 1) := by decide +kernel
theorem dX7_gateway_8 : decode cX7_gateway 8 = .ok (.i2l, 1) := by decide +kernel
theorem dX7_gateway_9 : decode cX7_gateway 9 = .ok (.lconst 0, 1) := by decide +kernel
theorem dX7_gateway_10 : decode cX7_gateway 10 = .ok (.ldc2_w 102, 3) := by decide +kernel
theorem dX7_gateway_13 : decode cX7_gateway 13 = .ok (.invokestatic 47, 3) := by decide +kernel
theorem dX7_gateway_16 : decode cX7_gateway 16 = .ok (.ifCond .ne 6, 3) := by decide +kernel
theorem dX7_gateway_19 : decode cX7_gateway 19 = .ok (.bipush (-2), 2) := by decide +kernel
theorem dX7_gateway_21 : decode cX7_gateway 21 = .ok (.ireturn, 1) := by decide +kernel
theorem dX7_gateway_22 : decode cX7_gateway 22 = .ok (.aload_n 0, 1) := by decide +kernel
theorem dX7_gateway_23 : decode cX7_gateway 23 = .ok (.getfield 12, 3) := by decide +kernel
theorem dX7_gateway_26 : decode cX7_gateway 26 = .ok (.getfield 104, 3) := by decide +kernel
theorem dX7_gateway_29 : decode cX7_gateway 29 = .ok (.iload_n 1, 1) := by decide +kernel
theorem dX7_gateway_30 : decode cX7_gateway 30 = .ok (.iload_n 2, 1) := by decide +kernel
theorem dX7_gateway_31 : decode cX7_gateway 31 = .ok (.iastore, 1) := by decide +kernel
theorem dX7_gateway_32 : decode cX7_gateway 32 = .ok (.aload_n 0, 1) := by decide +kernel
theorem dX7_gateway_33 : decode cX7_gateway 33 = .ok (.getfield 12, 3) := by decide +kernel
theorem dX7_gateway_36 : decode cX7_gateway 36 = .ok (.getfield 107, 3) := by decide +kernel
theorem dX7_gateway_39 : decode cX7_gateway 39 = .ok (.iload_n 1, 1) := by decide +kernel
theorem dX7_gateway_40 : decode cX7_gateway 40 = .ok (.iload_n 3, 1) := by decide +kernel
theorem dX7_gateway_41 : decode cX7_gateway 41 = .ok (.bastore, 1) := by decide +kernel
theorem dX7_gateway_42 : decode cX7_gateway 42 = .ok (.iconst 0, 1) := by decide +kernel
theorem dX7_gateway_43 : decode cX7_gateway 43 = .ok (.ireturn, 1) := by decide +kernel
theorem dX7_swap_0 : decode cX7_swap 0 = .ok (.aload_n 0, 1) := by decide +kernel
theorem dX7_swap_1 : decode cX7_swap 1 = .ok (.getfield 12, 3) := by decide +kernel
theorem dX7_swap_4 : decode cX7_swap 4 = .ok (.iload_n 1, 1) := by decide +kernel
theorem dX7_swap_5 : decode cX7_swap 5 = .ok (.invokevirtual 87, 3) := by decide +kernel
theorem dX7_swap_8 : decode cX7_swap 8 = .ok (.ifCond .eq 26, 3) := by decide +kernel
theorem dX7_swap_11 : decode cX7_swap 11 = .ok (.iload_n 2, 1) := by decide +kernel
theorem dX7_swap_12 : decode cX7_swap 12 = .ok (.invokestatic 71, 3) := by decide +kernel
theorem dX7_swap_15 : decode cX7_swap 15 = .ok (.ifCond .eq 19, 3) := by decide +kernel
theorem dX7_swap_18 : decode cX7_swap 18 = .ok (.aload_n 0, 1) := by decide +kernel
theorem dX7_swap_19 : decode cX7_swap 19 = .ok (.getfield 12, 3) := by decide +kernel
theorem dX7_swap_22 : decode cX7_swap 22 = .ok (.getfield 78, 3) := by decide +kernel
theorem dX7_swap_25 : decode cX7_swap 25 = .ok (.iload_n 1, 1) := by decide +kernel
theorem dX7_swap_26 : decode cX7_swap 26 = .ok (.aaload, 1) := by decide +kernel
theorem dX7_swap_27 : decode cX7_swap 27 = .ok (.getfield 111, 3) := by decide +kernel
theorem dX7_swap_30 : decode cX7_swap 30 = .ok (.iload_n 2, 1) := by decide +kernel
theorem dX7_swap_31 : decode cX7_swap 31 = .ok (.if_icmp .ne 6, 3) := by decide +kernel
theorem dX7_swap_34 : decode cX7_swap 34 = .ok (.bipush (-2), 2) := by decide +kernel
theorem dX7_swap_36 : decode cX7_swap 36 = .ok (.ireturn, 1) := by decide +kernel
theorem dX7_swap_37 : decode cX7_swap 37 = .ok (.aload_n 0, 1) := by decide +kernel
theorem dX7_swap_38 : decode cX7_swap 38 = .ok (.getfield 12, 3) := by decide +kernel
theorem dX7_swap_41 : decode cX7_swap 41 = .ok (.getfield 78, 3) := by decide +kernel
theorem dX7_swap_44 : decode cX7_swap 44 = .ok (.iload_n 1, 1) := by decide +kernel
theorem dX7_swap_45 : decode cX7_swap 45 = .ok (.aaload, 1) := by decide +kernel
theorem dX7_swap_46 : decode cX7_swap 46 = .ok (.getfield 114, 3) := by decide +kernel
theorem dX7_swap_49 : decode cX7_swap 49 = .ok (.ifCond .le 6, 3) := by decide +kernel
theorem dX7_swap_52 : decode cX7_swap 52 = .ok (.bipush (-7), 2) := by decide +kernel
theorem dX7_swap_54 : decode cX7_swap 54 = .ok (.ireturn, 1) := by decide +kernel
theorem dX7_swap_55 : decode cX7_swap 55 = .ok (.aload_n 0, 1) := by decide +kernel
theorem dX7_swap_56 : decode cX7_swap 56 = .ok (.getfield 12, 3) := by decide +kernel
theorem dX7_swap_59 : decode cX7_swap 59 = .ok (.getfield 78, 3) := by decide +kernel
theorem dX7_swap_62 : decode cX7_swap 62 = .ok (.iload_n 1, 1) := by decide +kernel
theorem dX7_swap_63 : decode cX7_swap 63 = .ok (.aaload, 1) := by decide +kernel
theorem dX7_swap_64 : decode cX7_swap 64 = .ok (.iload_n 2, 1) := by decide +kernel
theorem dX7_swap_65 : decode cX7_swap 65 = .ok (.putfield 111, 3) := by decide +kernel
theorem dX7_swap_68 : decode cX7_swap 68 = .ok (.aload_n 0, 1) := by decide +kernel
theorem dX7_swap_69 : decode cX7_swap 69 = .ok (.getfield 12, 3) := by decide +kernel
theorem dX7_swap_72 : decode cX7_swap 72 = .ok (.getfield 78, 3) := by decide +kernel
theorem dX7_swap_75 : decode cX7_swap 75 = .ok (.iload_n 1, 1) := by decide +kernel
theorem dX7_swap_76 : decode cX7_swap 76 = .ok (.aaload, 1) := by decide +kernel
theorem dX7_swap_77 : decode cX7_swap 77 = .ok (.aload_n 0, 1) := by decide +kernel
theorem dX7_swap_78 : decode cX7_swap 78 = .ok (.getfield 12, 3) := by decide +kernel
theorem dX7_swap_81 : decode cX7_swap 81 = .ok (.getfield 66, 3) := by decide +kernel
theorem dX7_swap_84 : decode cX7_swap 84 = .ok (.putfield 114, 3) := by decide +kernel
theorem dX7_swap_87 : decode cX7_swap 87 = .ok (.iconst 0, 1) := by decide +kernel
theorem dX7_swap_88 : decode cX7_swap 88 = .ok (.ireturn, 1) := by decide +kernel
theorem dX7_needs_0 : decode cX7_needs 0 = .ok (.aload_n 0, 1) := by decide +kernel
theorem dX7_needs_1 : decode cX7_needs 1 = .ok (.getfield 26, 3) := by decide +kernel
theorem dX7_needs_4 : decode cX7_needs 4 = .ok (.iload_n 1, 1) := by decide +kernel
theorem dX7_needs_5 : decode cX7_needs 5 = .ok (.aload_n 0, 1) := by decide +kernel
theorem dX7_needs_6 : decode cX7_needs 6 = .ok (.getfield 12, 3) := by decide +kernel
theorem dX7_needs_9 : decode cX7_needs 9 = .ok (.getfield 75, 3) := by decide +kernel
theorem dX7_needs_12 : decode cX7_needs 12 = .ok (.bipush 9, 2) := by decide +kernel
theorem dX7_needs_14 : decode cX7_needs 14 = .ok (.invokevirtual 117, 3) := by decide +kernel
theorem dX7_needs_17 : decode cX7_needs 17 = .ok (.istore_n 2, 1) := by decide +kernel
theorem dX7_needs_18 : decode cX7_needs 18 = .ok (.iload_n 2, 1) := by decide +kernel
theorem dX7_needs_19 : decode cX7_needs 19 = .ok (.ifCond .eq 5, 3) := by decide +kernel
theorem dX7_needs_22 : decode cX7_needs 22 = .ok (.iload_n 2, 1) := by decide +kernel
theorem dX7_needs_23 : decode cX7_needs 23 = .ok (.ireturn, 1) := by decide +kernel
theorem dX7_needs_24 : decode cX7_needs 24 = .ok (.iconst 0, 1) := by decide +kernel
theorem dX7_needs_25 : decode cX7_needs 25 = .ok (.istore_n 3, 1) := by decide +kernel
theorem dX7_needs_26 : decode cX7_needs 26 = .ok (.iconst 0, 1) := by decide +kernel
theorem dX7_needs_27 : decode cX7_needs 27 = .ok (.istore 4, 2) := by decide +kernel
theorem dX7_needs_29 : decode cX7_needs 29 = .ok (.iload 4, 2) := by decide +kernel
theorem dX7_needs_31 : decode cX7_needs 31 = .ok (.aload_n 0, 1) := by decide +kernel
theorem dX7_needs_32 : decode cX7_needs 32 = .ok (.getfield 12, 3) := by decide +kernel
theorem dX7_needs_35 : decode cX7_needs 35 = .ok (.getfield 75, 3) := by decide +kernel
theorem dX7_needs_38 : decode cX7_needs 38 = .ok (.if_icmp .ge 42, 3) := by decide +kernel
theorem dX7_needs_41 : decode cX7_needs 41 = .ok (.aload_n 0, 1) := by decide +kernel
theorem dX7_needs_42 : decode cX7_needs 42 = .ok (.getfield 26, 3) := by decide +kernel
theorem dX7_needs_45 : decode cX7_needs 45 = .ok (.iload_n 1, 1) := by decide +kernel
theorem dX7_needs_46 : decode cX7_needs 46 = .ok (.iload 4, 2) := by decide +kernel
theorem dX7_needs_48 : decode cX7_needs 48 = .ok (.invokevirtual 121, 3) := by decide +kernel
theorem dX7_needs_51 : decode cX7_needs 51 = .ok (.l2i, 1) := by decide +kernel
theorem dX7_needs_52 : decode cX7_needs 52 = .ok (.istore 5, 2) := by decide +kernel
theorem dX7_needs_54 : decode cX7_needs 54 = .ok (.aload_n 0, 1) := by decide +kernel
theorem dX7_needs_55 : decode cX7_needs 55 = .ok (.getfield 12, 3) := by decide +kernel
theorem dX7_needs_58 : decode cX7_needs 58 = .ok (.getfield 78, 3) := by decide +kernel
theorem dX7_needs_61 : decode cX7_needs 61 = .ok (.iload 4, 2) := by decide +kernel
theorem dX7_needs_63 : decode cX7_needs 63 = .ok (.aaload, 1) := by decide +kernel
theorem dX7_needs_64 : decode cX7_needs 64 = .ok (.iload 5, 2) := by decide +kernel
theorem dX7_needs_66 : decode cX7_needs 66 = .ok (.putfield 125, 3) := by decide +kernel
theorem dX7_needs_69 : decode cX7_needs 69 = .ok (.iload_n 3, 1) := by decide +kernel
theorem dX7_needs_70 : decode cX7_needs 70 = .ok (.iload 5, 2) := by decide +kernel
theorem dX7_needs_72 : decode cX7_needs 72 = .ok (.iadd, 1) := by decide +kernel
theorem dX7_needs_73 : decode cX7_needs 73 = .ok (.istore_n 3, 1) := by decide +kernel
theorem dX7_needs_74 : decode cX7_needs 74 = .ok (.iinc 4 1, 3) := by decide +kernel
theorem dX7_needs_77 : decode cX7_needs 77 = .ok (.goto (-48), 3) := by decide +kernel
theorem dX7_needs_80 : decode cX7_needs 80 = .ok (.iload_n 3, 1) := by decide +kernel
theorem dX7_needs_81 : decode cX7_needs 81 = .ok (.ireturn, 1) := by decide +kernel
theorem dX7_asks_0 : decode cX7_asks 0 = .ok (.aload_n 0, 1) := by decide +kernel
theorem dX7_asks_1 : decode cX7_asks 1 = .ok (.getfield 26, 3) := by decide +kernel
theorem dX7_asks_4 : decode cX7_asks 4 = .ok (.iload_n 1, 1) := by decide +kernel
theorem dX7_asks_5 : decode cX7_asks 5 = .ok (.aload_n 0, 1) := by decide +kernel
theorem dX7_asks_6 : decode cX7_asks 6 = .ok (.getfield 12, 3) := by decide +kernel
theorem dX7_asks_9 : decode cX7_asks 9 = .ok (.getfield 75, 3) := by decide +kernel
theorem dX7_asks_12 : decode cX7_asks 12 = .ok (.sipush 1000, 3) := by decide +kernel
theorem dX7_asks_15 : decode cX7_asks 15 = .ok (.invokevirtual 117, 3) := by decide +kernel
theorem dX7_asks_18 : decode cX7_asks 18 = .ok (.istore_n 2, 1) := by decide +kernel
theorem dX7_asks_19 : decode cX7_asks 19 = .ok (.iload_n 2, 1) := by decide +kernel
theorem dX7_asks_20 : decode cX7_asks 20 = .ok (.ifCond .eq 5, 3) := by decide +kernel
theorem dX7_asks_23 : decode cX7_asks 23 = .ok (.iload_n 2, 1) := by decide +kernel
theorem dX7_asks_24 : decode cX7_asks 24 = .ok (.ireturn, 1) := by decide +kernel
theorem dX7_asks_25 : decode cX7_asks 25 = .ok (.iconst 0, 1) := by decide +kernel
theorem dX7_asks_26 : decode cX7_asks 26 = .ok (.istore_n 3, 1) := by decide +kernel
theorem dX7_asks_27 : decode cX7_asks 27 = .ok (.iconst 0, 1) := by decide +kernel
theorem dX7_asks_28 : decode cX7_asks 28 = .ok (.istore 4, 2) := by decide +kernel
theorem dX7_asks_30 : decode cX7_asks 30 = .ok (.iload 4, 2) := by decide +kernel
theorem dX7_asks_32 : decode cX7_asks 32 = .ok (.aload_n 0, 1) := by decide +kernel
theorem dX7_asks_33 : decode cX7_asks 33 = .ok (.getfield 12, 3) := by decide +kernel
theorem dX7_asks_36 : decode cX7_asks 36 = .ok (.getfield 75, 3) := by decide +kernel
theorem dX7_asks_39 : decode cX7_asks 39 = .ok (.if_icmp .ge 42, 3) := by decide +kernel
theorem dX7_asks_42 : decode cX7_asks 42 = .ok (.aload_n 0, 1) := by decide +kernel
theorem dX7_asks_43 : decode cX7_asks 43 = .ok (.getfield 26, 3) := by decide +kernel
theorem dX7_asks_46 : decode cX7_asks 46 = .ok (.iload_n 1, 1) := by decide +kernel
theorem dX7_asks_47 : decode cX7_asks 47 = .ok (.iload 4, 2) := by decide +kernel
theorem dX7_asks_49 : decode cX7_asks 49 = .ok (.invokevirtual 121, 3) := by decide +kernel
theorem dX7_asks_52 : decode cX7_asks 52 = .ok (.l2i, 1) := by decide +kernel
theorem dX7_asks_53 : decode cX7_asks 53 = .ok (.istore 5, 2) := by decide +kernel
theorem dX7_asks_55 : decode cX7_asks 55 = .ok (.aload_n 0, 1) := by decide +kernel
theorem dX7_asks_56 : decode cX7_asks 56 = .ok (.getfield 12, 3) := by decide +kernel
theorem dX7_asks_59 : decode cX7_asks 59 = .ok (.getfield 78, 3) := by decide +kernel
theorem dX7_asks_62 : decode cX7_asks 62 = .ok (.iload 4, 2) := by decide +kernel
theorem dX7_asks_64 : decode cX7_asks 64 = .ok (.aaload, 1) := by decide +kernel
theorem dX7_asks_65 : decode cX7_asks 65 = .ok (.iload 5, 2) := by decide +kernel
theorem dX7_asks_67 : decode cX7_asks 67 = .ok (.putfield 128, 3) := by decide +kernel
theorem dX7_asks_70 : decode cX7_asks 70 = .ok (.iload_n 3, 1) := by decide +kernel
theorem dX7_asks_71 : decode cX7_asks 71 = .ok (.iload 5, 2) := by decide +kernel
theorem dX7_asks_73 : decode cX7_asks 73 = .ok (.iadd, 1) := by decide +kernel
theorem dX7_asks_74 : decode cX7_asks 74 = .ok (.istore_n 3, 1) := by decide +kernel
theorem dX7_asks_75 : decode cX7_asks 75 = .ok (.iinc 4 1, 3) := by decide +kernel
theorem dX7_asks_78 : decode cX7_asks 78 = .ok (.goto (-48), 3) := by decide +kernel
theorem dX7_asks_81 : decode cX7_asks 81 = .ok (.iload_n 3, 1) := by decide +kernel
theorem dX7_asks_82 : decode cX7_asks 82 = .ok (.ireturn, 1) := by decide +kernel
theorem dX7_legal_0 : decode cX7_legal 0 = .ok (.iload_n 1, 1) := by decide +kernel
theorem dX7_legal_1 : decode cX7_legal 1 = .ok (.i2l, 1) := by decide +kernel
theorem dX7_legal_2 : decode cX7_legal 2 = .ok (.lconst 0, 1) := by decide +kernel
theorem dX7_legal_3 : decode cX7_legal 3 = .ok (.aload_n 0, 1) := by decide +kernel
theorem dX7_legal_4 : decode cX7_legal 4 = .ok (.getfield 12, 3) := by decide +kernel
theorem dX7_legal_7 : decode cX7_legal 7 = .ok (.invokevirtual 131, 3) := by decide +kernel
theorem dX7_legal_10 : decode cX7_legal 10 = .ok (.i2l, 1) := by decide +kernel
theorem dX7_legal_11 : decode cX7_legal 11 = .ok (.invokestatic 47, 3) := by decide +kernel
theorem dX7_legal_14 : decode cX7_legal 14 = .ok (.ifCond .ne 6, 3) := by decide +kernel
theorem dX7_legal_17 : decode cX7_legal 17 = .ok (.bipush (-2), 2) := by decide +kernel
theorem dX7_legal_19 : decode cX7_legal 19 = .ok (.ireturn, 1) := by decide +kernel
theorem dX7_legal_20 : decode cX7_legal 20 = .ok (.aload_n 0, 1) := by decide +kernel
theorem dX7_legal_21 : decode cX7_legal 21 = .ok (.getfield 12, 3) := by decide +kernel
theorem dX7_legal_24 : decode cX7_legal 24 = .ok (.iload_n 1, 1) := by decide +kernel
theorem dX7_legal_25 : decode cX7_legal 25 = .ok (.invokevirtual 135, 3) := by decide +kernel
theorem dX7_legal_28 : decode cX7_legal 28 = .ok (.ifCond .eq 7, 3) := by decide +kernel
theorem dX7_legal_31 : decode cX7_legal 31 = .ok (.iconst 1, 1) := by decide +kernel
theorem dX7_legal_32 : decode cX7_legal 32 = .ok (.goto 4, 3) := by decide +kernel
theorem dX7_legal_35 : decode cX7_legal 35 = .ok (.iconst 0, 1) := by decide +kernel
theorem dX7_legal_36 : decode cX7_legal 36 = .ok (.ireturn, 1) := by decide +kernel
theorem dX7_sets_0 : decode cX7_sets 0 = .ok (.aload_n 0, 1) := by decide +kernel
theorem dX7_sets_1 : decode cX7_sets 1 = .ok (.getfield 19, 3) := by decide +kernel
theorem dX7_sets_4 : decode cX7_sets 4 = .ok (.aload_n 0, 1) := by decide +kernel
theorem dX7_sets_5 : decode cX7_sets 5 = .ok (.getfield 12, 3) := by decide +kernel
theorem dX7_sets_8 : decode cX7_sets 8 = .ok (.invokevirtual 138, 3) := by decide +kernel
theorem dX7_sets_11 : decode cX7_sets 11 = .ok (.aload_n 0, 1) := by decide +kernel
theorem dX7_sets_12 : decode cX7_sets 12 = .ok (.getfield 19, 3) := by decide +kernel
theorem dX7_sets_15 : decode cX7_sets 15 = .ok (.getfield 142, 3) := by decide +kernel
theorem dX7_sets_18 : decode cX7_sets 18 = .ok (.ireturn, 1) := by decide +kernel
theorem dX7_fewest_0 : decode cX7_fewest 0 = .ok (.aload_n 0, 1) := by decide +kernel
theorem dX7_fewest_1 : decode cX7_fewest 1 = .ok (.iconst 0, 1) := by decide +kernel
theorem dX7_fewest_2 : decode cX7_fewest 2 = .ok (.putfield 143, 3) := by decide +kernel
theorem dX7_fewest_5 : decode cX7_fewest 5 = .ok (.aload_n 0, 1) := by decide +kernel
theorem dX7_fewest_6 : decode cX7_fewest 6 = .ok (.getfield 12, 3) := by decide +kernel
theorem dX7_fewest_9 : decode cX7_fewest 9 = .ok (.invokevirtual 146, 3) := by decide +kernel
theorem dX7_fewest_12 : decode cX7_fewest 12 = .ok (.lstore_n 1, 1) := by decide +kernel
theorem dX7_fewest_13 : decode cX7_fewest 13 = .ok (.lload_n 1, 1) := by decide +kernel
theorem dX7_fewest_14 : decode cX7_fewest 14 = .ok (.lconst 0, 1) := by decide +kernel
theorem dX7_fewest_15 : decode cX7_fewest 15 = .ok (.lcmp, 1) := by decide +kernel
theorem dX7_fewest_16 : decode cX7_fewest 16 = .ok (.ifCond .ne 13, 3) := by decide +kernel
theorem dX7_fewest_19 : decode cX7_fewest 19 = .ok (.aload_n 0, 1) := by decide +kernel
theorem dX7_fewest_20 : decode cX7_fewest 20 = .ok (.getfield 33, 3) := by decide +kernel
theorem dX7_fewest_23 : decode cX7_fewest 23 = .ok (.iconst 0, 1) := by decide +kernel
theorem dX7_fewest_24 : decode cX7_fewest 24 = .ok (.putfield 150, 3) := by decide +kernel
theorem dX7_fewest_27 : decode cX7_fewest 27 = .ok (.iconst 0, 1) := by decide +kernel
theorem dX7_fewest_28 : decode cX7_fewest 28 = .ok (.ireturn, 1) := by decide +kernel
theorem dX7_fewest_29 : decode cX7_fewest 29 = .ok (.aload_n 0, 1) := by decide +kernel
theorem dX7_fewest_30 : decode cX7_fewest 30 = .ok (.getfield 12, 3) := by decide +kernel
theorem dX7_fewest_33 : decode cX7_fewest 33 = .ok (.invokevirtual 151, 3) := by decide +kernel
theorem dX7_fewest_36 : decode cX7_fewest 36 = .ok (.ifCond .ne 5, 3) := by decide +kernel
theorem dX7_fewest_39 : decode cX7_fewest 39 = .ok (.iconst (-1), 1) := by decide +kernel
theorem dX7_fewest_40 : decode cX7_fewest 40 = .ok (.ireturn, 1) := by decide +kernel
theorem dX7_fewest_41 : decode cX7_fewest 41 = .ok (.aload_n 0, 1) := by decide +kernel
theorem dX7_fewest_42 : decode cX7_fewest 42 = .ok (.getfield 19, 3) := by decide +kernel
end
section
theorem dX7_fewest_45 : decode cX7_fewest 45 = .ok (.aload_n 0, 1) := by decide +kernel
theorem dX7_fewest_46 : decode cX7_fewest 46 = .ok (.getfield 12, 3) := by decide +kernel
theorem dX7_fewest_49 : decode cX7_fewest 49 = .ok (.invokevirtual 138, 3) := by decide +kernel
theorem dX7_fewest_52 : decode cX7_fewest 52 = .ok (.aload_n 0, 1) := by decide +kernel
theorem dX7_fewest_53 : decode cX7_fewest 53 = .ok (.getfield 155, 3) := by decide +kernel
theorem dX7_fewest_56 : decode cX7_fewest 56 = .ok (.ifnonnull 14, 3) := by decide +kernel
theorem dX7_fewest_59 : decode cX7_fewest 59 = .ok (.aload_n 0, 1) := by decide +kernel
theorem dX7_fewest_60 : decode cX7_fewest 60 = .ok (.new 159, 3) := by decide +kernel
theorem dX7_fewest_63 : decode cX7_fewest 63 = .ok (.dup, 1) := by decide +kernel
theorem dX7_fewest_64 : decode cX7_fewest 64 = .ok (.invokespecial 161, 3) := by decide +kernel
theorem dX7_fewest_67 : decode cX7_fewest 67 = .ok (.putfield 155, 3) := by decide +kernel
theorem dX7_fewest_70 : decode cX7_fewest 70 = .ok (.aload_n 0, 1) := by decide +kernel
theorem dX7_fewest_71 : decode cX7_fewest 71 = .ok (.getfield 155, 3) := by decide +kernel
theorem dX7_fewest_74 : decode cX7_fewest 74 = .ok (.aload_n 0, 1) := by decide +kernel
theorem dX7_fewest_75 : decode cX7_fewest 75 = .ok (.getfield 19, 3) := by decide +kernel
theorem dX7_fewest_78 : decode cX7_fewest 78 = .ok (.lload_n 1, 1) := by decide +kernel
theorem dX7_fewest_79 : decode cX7_fewest 79 = .ok (.invokevirtual 162, 3) := by decide +kernel
theorem dX7_fewest_82 : decode cX7_fewest 82 = .ok (.istore_n 3, 1) := by decide +kernel
theorem dX7_fewest_83 : decode cX7_fewest 83 = .ok (.aload_n 0, 1) := by decide +kernel
theorem dX7_fewest_84 : decode cX7_fewest 84 = .ok (.aload_n 0, 1) := by decide +kernel
theorem dX7_fewest_85 : decode cX7_fewest 85 = .ok (.getfield 155, 3) := by decide +kernel
theorem dX7_fewest_88 : decode cX7_fewest 88 = .ok (.getfield 166, 3) := by decide +kernel
theorem dX7_fewest_91 : decode cX7_fewest 91 = .ok (.putfield 143, 3) := by decide +kernel
theorem dX7_fewest_94 : decode cX7_fewest 94 = .ok (.iload_n 3, 1) := by decide +kernel
theorem dX7_fewest_95 : decode cX7_fewest 95 = .ok (.ifCond .ne 6, 3) := by decide +kernel
theorem dX7_fewest_98 : decode cX7_fewest 98 = .ok (.bipush (-4), 2) := by decide +kernel
theorem dX7_fewest_100 : decode cX7_fewest 100 = .ok (.ireturn, 1) := by decide +kernel
theorem dX7_fewest_101 : decode cX7_fewest 101 = .ok (.aload_n 0, 1) := by decide +kernel
theorem dX7_fewest_102 : decode cX7_fewest 102 = .ok (.getfield 155, 3) := by decide +kernel
theorem dX7_fewest_105 : decode cX7_fewest 105 = .ok (.aload_n 0, 1) := by decide +kernel
theorem dX7_fewest_106 : decode cX7_fewest 106 = .ok (.getfield 33, 3) := by decide +kernel
theorem dX7_fewest_109 : decode cX7_fewest 109 = .ok (.invokevirtual 167, 3) := by decide +kernel
theorem dX7_fewest_112 : decode cX7_fewest 112 = .ok (.aload_n 0, 1) := by decide +kernel
theorem dX7_fewest_113 : decode cX7_fewest 113 = .ok (.getfield 33, 3) := by decide +kernel
theorem dX7_fewest_116 : decode cX7_fewest 116 = .ok (.getfield 150, 3) := by decide +kernel
theorem dX7_fewest_119 : decode cX7_fewest 119 = .ok (.ireturn, 1) := by decide +kernel
theorem dX7_frame_0 : decode cX7_frame 0 = .ok (.aload_n 0, 1) := by decide +kernel
theorem dX7_frame_1 : decode cX7_frame 1 = .ok (.getfield 33, 3) := by decide +kernel
theorem dX7_frame_4 : decode cX7_frame 4 = .ok (.iload_n 1, 1) := by decide +kernel
theorem dX7_frame_5 : decode cX7_frame 5 = .ok (.invokevirtual 171, 3) := by decide +kernel
theorem dX7_frame_8 : decode cX7_frame 8 = .ok (.ifCond .eq 15, 3) := by decide +kernel
theorem dX7_frame_11 : decode cX7_frame 11 = .ok (.aload_n 0, 1) := by decide +kernel
theorem dX7_frame_12 : decode cX7_frame 12 = .ok (.getfield 33, 3) := by decide +kernel
theorem dX7_frame_15 : decode cX7_frame 15 = .ok (.getfield 174, 3) := by decide +kernel
theorem dX7_frame_18 : decode cX7_frame 18 = .ok (.iload_n 1, 1) := by decide +kernel
theorem dX7_frame_19 : decode cX7_frame 19 = .ok (.iaload, 1) := by decide +kernel
theorem dX7_frame_20 : decode cX7_frame 20 = .ok (.goto 4, 3) := by decide +kernel
theorem dX7_frame_23 : decode cX7_frame 23 = .ok (.iconst (-1), 1) := by decide +kernel
theorem dX7_frame_24 : decode cX7_frame 24 = .ok (.ireturn, 1) := by decide +kernel
theorem dX7_frameOf_0 : decode cX7_frameOf 0 = .ok (.aload_n 0, 1) := by decide +kernel
theorem dX7_frameOf_1 : decode cX7_frameOf 1 = .ok (.getfield 26, 3) := by decide +kernel
theorem dX7_frameOf_4 : decode cX7_frameOf 4 = .ok (.iload_n 1, 1) := by decide +kernel
theorem dX7_frameOf_5 : decode cX7_frameOf 5 = .ok (.iconst 0, 1) := by decide +kernel
theorem dX7_frameOf_6 : decode cX7_frameOf 6 = .ok (.iconst 0, 1) := by decide +kernel
theorem dX7_frameOf_7 : decode cX7_frameOf 7 = .ok (.invokevirtual 117, 3) := by decide +kernel
theorem dX7_frameOf_10 : decode cX7_frameOf 10 = .ok (.istore_n 2, 1) := by decide +kernel
theorem dX7_frameOf_11 : decode cX7_frameOf 11 = .ok (.iload_n 2, 1) := by decide +kernel
theorem dX7_frameOf_12 : decode cX7_frameOf 12 = .ok (.ifCond .eq 5, 3) := by decide +kernel
theorem dX7_frameOf_15 : decode cX7_frameOf 15 = .ok (.iload_n 2, 1) := by decide +kernel
theorem dX7_frameOf_16 : decode cX7_frameOf 16 = .ok (.ireturn, 1) := by decide +kernel
theorem dX7_frameOf_17 : decode cX7_frameOf 17 = .ok (.aload_n 0, 1) := by decide +kernel
theorem dX7_frameOf_18 : decode cX7_frameOf 18 = .ok (.getfield 26, 3) := by decide +kernel
theorem dX7_frameOf_21 : decode cX7_frameOf 21 = .ok (.iload_n 1, 1) := by decide +kernel
theorem dX7_frameOf_22 : decode cX7_frameOf 22 = .ok (.invokevirtual 177, 3) := by decide +kernel
theorem dX7_frameOf_25 : decode cX7_frameOf 25 = .ok (.bipush 12, 2) := by decide +kernel
theorem dX7_frameOf_27 : decode cX7_frameOf 27 = .ok (.invokestatic 181, 3) := by decide +kernel
theorem dX7_frameOf_30 : decode cX7_frameOf 30 = .ok (.istore_n 3, 1) := by decide +kernel
theorem dX7_frameOf_31 : decode cX7_frameOf 31 = .ok (.iload_n 3, 1) := by decide +kernel
theorem dX7_frameOf_32 : decode cX7_frameOf 32 = .ok (.ifCond .ne 6, 3) := by decide +kernel
theorem dX7_frameOf_35 : decode cX7_frameOf 35 = .ok (.bipush (-8), 2) := by decide +kernel
theorem dX7_frameOf_37 : decode cX7_frameOf 37 = .ok (.ireturn, 1) := by decide +kernel
theorem dX7_frameOf_38 : decode cX7_frameOf 38 = .ok (.aload_n 0, 1) := by decide +kernel
theorem dX7_frameOf_39 : decode cX7_frameOf 39 = .ok (.getfield 26, 3) := by decide +kernel
theorem dX7_frameOf_42 : decode cX7_frameOf 42 = .ok (.iload_n 1, 1) := by decide +kernel
theorem dX7_frameOf_43 : decode cX7_frameOf 43 = .ok (.iload_n 3, 1) := by decide +kernel
theorem dX7_frameOf_44 : decode cX7_frameOf 44 = .ok (.aload_n 0, 1) := by decide +kernel
theorem dX7_frameOf_45 : decode cX7_frameOf 45 = .ok (.getfield 12, 3) := by decide +kernel
theorem dX7_frameOf_48 : decode cX7_frameOf 48 = .ok (.invokevirtual 131, 3) := by decide +kernel
theorem dX7_frameOf_51 : decode cX7_frameOf 51 = .ok (.invokevirtual 187, 3) := by decide +kernel
theorem dX7_frameOf_54 : decode cX7_frameOf 54 = .ok (.ifCond .ne 6, 3) := by decide +kernel
theorem dX7_frameOf_57 : decode cX7_frameOf 57 = .ok (.bipush (-4), 2) := by decide +kernel
theorem dX7_frameOf_59 : decode cX7_frameOf 59 = .ok (.ireturn, 1) := by decide +kernel
theorem dX7_frameOf_60 : decode cX7_frameOf 60 = .ok (.iconst 0, 1) := by decide +kernel
theorem dX7_frameOf_61 : decode cX7_frameOf 61 = .ok (.istore 4, 2) := by decide +kernel
theorem dX7_frameOf_63 : decode cX7_frameOf 63 = .ok (.iload 4, 2) := by decide +kernel
theorem dX7_frameOf_65 : decode cX7_frameOf 65 = .ok (.iload_n 3, 1) := by decide +kernel
theorem dX7_frameOf_66 : decode cX7_frameOf 66 = .ok (.if_icmp .ge 30, 3) := by decide +kernel
theorem dX7_frameOf_69 : decode cX7_frameOf 69 = .ok (.aload_n 0, 1) := by decide +kernel
theorem dX7_frameOf_70 : decode cX7_frameOf 70 = .ok (.getfield 33, 3) := by decide +kernel
theorem dX7_frameOf_73 : decode cX7_frameOf 73 = .ok (.getfield 174, 3) := by decide +kernel
theorem dX7_frameOf_76 : decode cX7_frameOf 76 = .ok (.iload 4, 2) := by decide +kernel
theorem dX7_frameOf_78 : decode cX7_frameOf 78 = .ok (.aload_n 0, 1) := by decide +kernel
theorem dX7_frameOf_79 : decode cX7_frameOf 79 = .ok (.getfield 26, 3) := by decide +kernel
theorem dX7_frameOf_82 : decode cX7_frameOf 82 = .ok (.iload_n 1, 1) := by decide +kernel
theorem dX7_frameOf_83 : decode cX7_frameOf 83 = .ok (.iload 4, 2) := by decide +kernel
theorem dX7_frameOf_85 : decode cX7_frameOf 85 = .ok (.invokevirtual 121, 3) := by decide +kernel
theorem dX7_frameOf_88 : decode cX7_frameOf 88 = .ok (.l2i, 1) := by decide +kernel
theorem dX7_frameOf_89 : decode cX7_frameOf 89 = .ok (.iastore, 1) := by decide +kernel
theorem dX7_frameOf_90 : decode cX7_frameOf 90 = .ok (.iinc 4 1, 3) := by decide +kernel
theorem dX7_frameOf_93 : decode cX7_frameOf 93 = .ok (.goto (-30), 3) := by decide +kernel
theorem dX7_frameOf_96 : decode cX7_frameOf 96 = .ok (.aload_n 0, 1) := by decide +kernel
theorem dX7_frameOf_97 : decode cX7_frameOf 97 = .ok (.getfield 33, 3) := by decide +kernel
theorem dX7_frameOf_100 : decode cX7_frameOf 100 = .ok (.iload_n 3, 1) := by decide +kernel
theorem dX7_frameOf_101 : decode cX7_frameOf 101 = .ok (.putfield 150, 3) := by decide +kernel
theorem dX7_frameOf_104 : decode cX7_frameOf 104 = .ok (.iload_n 3, 1) := by decide +kernel
theorem dX7_frameOf_105 : decode cX7_frameOf 105 = .ok (.ireturn, 1) := by decide +kernel
theorem dX7_proof_0 : decode cX7_proof 0 = .ok (.aload_n 0, 1) := by decide +kernel
theorem dX7_proof_1 : decode cX7_proof 1 = .ok (.getfield 26, 3) := by decide +kernel
theorem dX7_proof_4 : decode cX7_proof 4 = .ok (.iload_n 1, 1) := by decide +kernel
theorem dX7_proof_5 : decode cX7_proof 5 = .ok (.aload_n 0, 1) := by decide +kernel
theorem dX7_proof_6 : decode cX7_proof 6 = .ok (.getfield 12, 3) := by decide +kernel
theorem dX7_proof_9 : decode cX7_proof 9 = .ok (.getfield 75, 3) := by decide +kernel
theorem dX7_proof_12 : decode cX7_proof 12 = .ok (.ldc 191, 2) := by decide +kernel
theorem dX7_proof_14 : decode cX7_proof 14 = .ok (.invokevirtual 117, 3) := by decide +kernel
theorem dX7_proof_17 : decode cX7_proof 17 = .ok (.istore_n 2, 1) := by decide +kernel
theorem dX7_proof_18 : decode cX7_proof 18 = .ok (.iload_n 2, 1) := by decide +kernel
theorem dX7_proof_19 : decode cX7_proof 19 = .ok (.ifCond .eq 6, 3) := by decide +kernel
theorem dX7_proof_22 : decode cX7_proof 22 = .ok (.iload_n 2, 1) := by decide +kernel
theorem dX7_proof_23 : decode cX7_proof 23 = .ok (.i2l, 1) := by decide +kernel
theorem dX7_proof_24 : decode cX7_proof 24 = .ok (.lreturn, 1) := by decide +kernel
theorem dX7_proof_25 : decode cX7_proof 25 = .ok (.lconst 0, 1) := by decide +kernel
theorem dX7_proof_26 : decode cX7_proof 26 = .ok (.lstore_n 3, 1) := by decide +kernel
theorem dX7_proof_27 : decode cX7_proof 27 = .ok (.iconst 0, 1) := by decide +kernel
theorem dX7_proof_28 : decode cX7_proof 28 = .ok (.istore 5, 2) := by decide +kernel
theorem dX7_proof_30 : decode cX7_proof 30 = .ok (.iload 5, 2) := by decide +kernel
theorem dX7_proof_32 : decode cX7_proof 32 = .ok (.aload_n 0, 1) := by decide +kernel
theorem dX7_proof_33 : decode cX7_proof 33 = .ok (.getfield 12, 3) := by decide +kernel
theorem dX7_proof_36 : decode cX7_proof 36 = .ok (.getfield 75, 3) := by decide +kernel
theorem dX7_proof_39 : decode cX7_proof 39 = .ok (.if_icmp .ge 52, 3) := by decide +kernel
theorem dX7_proof_42 : decode cX7_proof 42 = .ok (.aload_n 0, 1) := by decide +kernel
theorem dX7_proof_43 : decode cX7_proof 43 = .ok (.getfield 26, 3) := by decide +kernel
theorem dX7_proof_46 : decode cX7_proof 46 = .ok (.iload_n 1, 1) := by decide +kernel
theorem dX7_proof_47 : decode cX7_proof 47 = .ok (.iload 5, 2) := by decide +kernel
theorem dX7_proof_49 : decode cX7_proof 49 = .ok (.invokevirtual 121, 3) := by decide +kernel
theorem dX7_proof_52 : decode cX7_proof 52 = .ok (.l2i, 1) := by decide +kernel
theorem dX7_proof_53 : decode cX7_proof 53 = .ok (.istore 6, 2) := by decide +kernel
theorem dX7_proof_55 : decode cX7_proof 55 = .ok (.aload_n 0, 1) := by decide +kernel
theorem dX7_proof_56 : decode cX7_proof 56 = .ok (.getfield 37, 3) := by decide +kernel
theorem dX7_proof_59 : decode cX7_proof 59 = .ok (.iload 5, 2) := by decide +kernel
theorem dX7_proof_61 : decode cX7_proof 61 = .ok (.iload 6, 2) := by decide +kernel
theorem dX7_proof_63 : decode cX7_proof 63 = .ok (.iastore, 1) := by decide +kernel
theorem dX7_proof_64 : decode cX7_proof 64 = .ok (.lload_n 3, 1) := by decide +kernel
theorem dX7_proof_65 : decode cX7_proof 65 = .ok (.aload_n 0, 1) := by decide +kernel
theorem dX7_proof_66 : decode cX7_proof 66 = .ok (.getfield 12, 3) := by decide +kernel
theorem dX7_proof_69 : decode cX7_proof 69 = .ok (.getfield 78, 3) := by decide +kernel
theorem dX7_proof_72 : decode cX7_proof 72 = .ok (.iload 5, 2) := by decide +kernel
theorem dX7_proof_74 : decode cX7_proof 74 = .ok (.aaload, 1) := by decide +kernel
theorem dX7_proof_75 : decode cX7_proof 75 = .ok (.getfield 125, 3) := by decide +kernel
theorem dX7_proof_78 : decode cX7_proof 78 = .ok (.i2l, 1) := by decide +kernel
theorem dX7_proof_79 : decode cX7_proof 79 = .ok (.iload 6, 2) := by decide +kernel
theorem dX7_proof_81 : decode cX7_proof 81 = .ok (.i2l, 1) := by decide +kernel
theorem dX7_proof_82 : decode cX7_proof 82 = .ok (.lmul, 1) := by decide +kernel
theorem dX7_proof_83 : decode cX7_proof 83 = .ok (.ladd, 1) := by decide +kernel
theorem dX7_proof_84 : decode cX7_proof 84 = .ok (.lstore_n 3, 1) := by decide +kernel
theorem dX7_proof_85 : decode cX7_proof 85 = .ok (.iinc 5 1, 3) := by decide +kernel
theorem dX7_proof_88 : decode cX7_proof 88 = .ok (.goto (-58), 3) := by decide +kernel
theorem dX7_proof_91 : decode cX7_proof 91 = .ok (.aload_n 0, 1) := by decide +kernel
theorem dX7_proof_92 : decode cX7_proof 92 = .ok (.getfield 19, 3) := by decide +kernel
theorem dX7_proof_95 : decode cX7_proof 95 = .ok (.aload_n 0, 1) := by decide +kernel
theorem dX7_proof_96 : decode cX7_proof 96 = .ok (.getfield 12, 3) := by decide +kernel
theorem dX7_proof_99 : decode cX7_proof 99 = .ok (.invokevirtual 138, 3) := by decide +kernel
theorem dX7_proof_102 : decode cX7_proof 102 = .ok (.aload_n 0, 1) := by decide +kernel
theorem dX7_proof_103 : decode cX7_proof 103 = .ok (.getfield 19, 3) := by decide +kernel
theorem dX7_proof_106 : decode cX7_proof 106 = .ok (.getfield 192, 3) := by decide +kernel
theorem dX7_proof_109 : decode cX7_proof 109 = .ok (.aload_n 0, 1) := by decide +kernel
theorem dX7_proof_110 : decode cX7_proof 110 = .ok (.getfield 19, 3) := by decide +kernel
theorem dX7_proof_113 : decode cX7_proof 113 = .ok (.aload_n 0, 1) := by decide +kernel
theorem dX7_proof_114 : decode cX7_proof 114 = .ok (.getfield 37, 3) := by decide +kernel
theorem dX7_proof_117 : decode cX7_proof 117 = .ok (.invokevirtual 195, 3) := by decide +kernel
theorem dX7_proof_120 : decode cX7_proof 120 = .ok (.iaload, 1) := by decide +kernel
theorem dX7_proof_121 : decode cX7_proof 121 = .ok (.i2l, 1) := by decide +kernel
theorem dX7_proof_122 : decode cX7_proof 122 = .ok (.lstore 5, 2) := by decide +kernel
theorem dX7_proof_124 : decode cX7_proof 124 = .ok (.lload 5, 2) := by decide +kernel
theorem dX7_proof_126 : decode cX7_proof 126 = .ok (.lconst 0, 1) := by decide +kernel
theorem dX7_proof_127 : decode cX7_proof 127 = .ok (.lcmp, 1) := by decide +kernel
theorem dX7_proof_128 : decode cX7_proof 128 = .ok (.ifCond .ne 17, 3) := by decide +kernel
theorem dX7_proof_131 : decode cX7_proof 131 = .ok (.lload_n 3, 1) := by decide +kernel
theorem dX7_proof_132 : decode cX7_proof 132 = .ok (.lconst 0, 1) := by decide +kernel
theorem dX7_proof_133 : decode cX7_proof 133 = .ok (.lcmp, 1) := by decide +kernel
theorem dX7_proof_134 : decode cX7_proof 134 = .ok (.ifCond .ne 7, 3) := by decide +kernel
theorem dX7_proof_137 : decode cX7_proof 137 = .ok (.lconst 0, 1) := by decide +kernel
theorem dX7_proof_138 : decode cX7_proof 138 = .ok (.goto 6, 3) := by decide +kernel
theorem dX7_proof_141 : decode cX7_proof 141 = .ok (.ldc2_w 199, 3) := by decide +kernel
theorem dX7_proof_144 : decode cX7_proof 144 = .ok (.lreturn, 1) := by decide +kernel
theorem dX7_proof_145 : decode cX7_proof 145 = .ok (.lload_n 3, 1) := by decide +kernel
theorem dX7_proof_146 : decode cX7_proof 146 = .ok (.lload 5, 2) := by decide +kernel
theorem dX7_proof_148 : decode cX7_proof 148 = .ok (.ladd, 1) := by decide +kernel
theorem dX7_proof_149 : decode cX7_proof 149 = .ok (.lconst 1, 1) := by decide +kernel
theorem dX7_proof_150 : decode cX7_proof 150 = .ok (.lsub, 1) := by decide +kernel
theorem dX7_proof_151 : decode cX7_proof 151 = .ok (.lload 5, 2) := by decide +kernel
theorem dX7_proof_153 : decode cX7_proof 153 = .ok (.ldiv, 1) := by decide +kernel
theorem dX7_proof_154 : decode cX7_proof 154 = .ok (.lreturn, 1) := by decide +kernel
theorem dX7_ways_0 : decode cX7_ways 0 = .ok (.iload_n 1, 1) := by decide +kernel
theorem dX7_ways_1 : decode cX7_ways 1 = .ok (.i2l, 1) := by decide +kernel
theorem dX7_ways_2 : decode cX7_ways 2 = .ok (.lconst 0, 1) := by decide +kernel
theorem dX7_ways_3 : decode cX7_ways 3 = .ok (.ldc2_w 201, 3) := by decide +kernel
theorem dX7_ways_6 : decode cX7_ways 6 = .ok (.invokestatic 47, 3) := by decide +kernel
theorem dX7_ways_9 : decode cX7_ways 9 = .ok (.ifCond .ne 6, 3) := by decide +kernel
theorem dX7_ways_12 : decode cX7_ways 12 = .ok (.bipush (-2), 2) := by decide +kernel
theorem dX7_ways_14 : decode cX7_ways 14 = .ok (.ireturn, 1) := by decide +kernel
theorem dX7_ways_15 : decode cX7_ways 15 = .ok (.aload_n 0, 1) := by decide +kernel
theorem dX7_ways_16 : decode cX7_ways 16 = .ok (.getfield 19, 3) := by decide +kernel
theorem dX7_ways_19 : decode cX7_ways 19 = .ok (.aload_n 0, 1) := by decide +kernel
theorem dX7_ways_20 : decode cX7_ways 20 = .ok (.getfield 12, 3) := by decide +kernel
theorem dX7_ways_23 : decode cX7_ways 23 = .ok (.invokevirtual 138, 3) := by decide +kernel
theorem dX7_ways_26 : decode cX7_ways 26 = .ok (.aload_n 0, 1) := by decide +kernel
theorem dX7_ways_27 : decode cX7_ways 27 = .ok (.getfield 203, 3) := by decide +kernel
theorem dX7_ways_30 : decode cX7_ways 30 = .ok (.ifnonnull 14, 3) := by decide +kernel
theorem dX7_ways_33 : decode cX7_ways 33 = .ok (.aload_n 0, 1) := by decide +kernel
theorem dX7_ways_34 : decode cX7_ways 34 = .ok (.new 207, 3) := by decide +kernel
theorem dX7_ways_37 : decode cX7_ways 37 = .ok (.dup, 1) := by decide +kernel
theorem dX7_ways_38 : decode cX7_ways 38 = .ok (.invokespecial 209, 3) := by decide +kernel
theorem dX7_ways_41 : decode cX7_ways 41 = .ok (.putfield 203, 3) := by decide +kernel
theorem dX7_ways_44 : decode cX7_ways 44 = .ok (.aload_n 0, 1) := by decide +kernel
theorem dX7_ways_45 : decode cX7_ways 45 = .ok (.getfield 203, 3) := by decide +kernel
theorem dX7_ways_48 : decode cX7_ways 48 = .ok (.aload_n 0, 1) := by decide +kernel
theorem dX7_ways_49 : decode cX7_ways 49 = .ok (.getfield 19, 3) := by decide +kernel
theorem dX7_ways_52 : decode cX7_ways 52 = .ok (.aload_n 0, 1) := by decide +kernel
theorem dX7_ways_53 : decode cX7_ways 53 = .ok (.getfield 12, 3) := by decide +kernel
theorem dX7_ways_56 : decode cX7_ways 56 = .ok (.invokevirtual 131, 3) := by decide +kernel
theorem dX7_ways_59 : decode cX7_ways 59 = .ok (.iload_n 1, 1) := by decide +kernel
theorem dX7_ways_60 : decode cX7_ways 60 = .ok (.invokevirtual 210, 3) := by decide +kernel
theorem dX7_ways_63 : decode cX7_ways 63 = .ok (.aload_n 0, 1) := by decide +kernel
theorem dX7_ways_64 : decode cX7_ways 64 = .ok (.getfield 203, 3) := by decide +kernel
theorem dX7_ways_67 : decode cX7_ways 67 = .ok (.invokevirtual 214, 3) := by decide +kernel
theorem dX7_ways_70 : decode cX7_ways 70 = .ok (.ireturn, 1) := by decide +kernel
theorem dX7_digit_0 : decode cX7_digit 0 = .ok (.iload_n 1, 1) := by decide +kernel
theorem dX7_digit_1 : decode cX7_digit 1 = .ok (.ifCond .ge 6, 3) := by decide +kernel
theorem dX7_digit_4 : decode cX7_digit 4 = .ok (.bipush (-2), 2) := by decide +kernel
theorem dX7_digit_6 : decode cX7_digit 6 = .ok (.ireturn, 1) := by decide +kernel
theorem dX7_digit_7 : decode cX7_digit 7 = .ok (.aload_n 0, 1) := by decide +kernel
theorem dX7_digit_8 : decode cX7_digit 8 = .ok (.getfield 203, 3) := by decide +kernel
theorem dX7_digit_11 : decode cX7_digit 11 = .ok (.ifnonnull 7, 3) := by decide +kernel
theorem dX7_digit_14 : decode cX7_digit 14 = .ok (.iconst 0, 1) := by decide +kernel
theorem dX7_digit_15 : decode cX7_digit 15 = .ok (.goto 11, 3) := by decide +kernel
theorem dX7_digit_18 : decode cX7_digit 18 = .ok (.aload_n 0, 1) := by decide +kernel
theorem dX7_digit_19 : decode cX7_digit 19 = .ok (.getfield 203, 3) := by decide +kernel
theorem dX7_digit_22 : decode cX7_digit 22 = .ok (.iload_n 1, 1) := by decide +kernel
theorem dX7_digit_23 : decode cX7_digit 23 = .ok (.invokevirtual 217, 3) := by decide +kernel
theorem dX7_digit_26 : decode cX7_digit 26 = .ok (.ireturn, 1) := by decide +kernel
theorem dX7_rule_0 : decode cX7_rule 0 = .ok (.iload_n 1, 1) := by decide +kernel
theorem dX7_rule_1 : decode cX7_rule 1 = .ok (.i2l, 1) := by decide +kernel
theorem dX7_rule_2 : decode cX7_rule 2 = .ok (.lconst 0, 1) := by decide +kernel
theorem dX7_rule_3 : decode cX7_rule 3 = .ok (.lconst 1, 1) := by decide +kernel
theorem dX7_rule_4 : decode cX7_rule 4 = .ok (.invokestatic 47, 3) := by decide +kernel
theorem dX7_rule_7 : decode cX7_rule 7 = .ok (.ifCond .ne 6, 3) := by decide +kernel
theorem dX7_rule_10 : decode cX7_rule 10 = .ok (.bipush (-2), 2) := by decide +kernel
theorem dX7_rule_12 : decode cX7_rule 12 = .ok (.ireturn, 1) := by decide +kernel
theorem dX7_rule_13 : decode cX7_rule 13 = .ok (.aload_n 0, 1) := by decide +kernel
theorem dX7_rule_14 : decode cX7_rule 14 = .ok (.getfield 220, 3) := by decide +kernel
theorem dX7_rule_17 : decode cX7_rule 17 = .ok (.istore_n 2, 1) := by decide +kernel
theorem dX7_rule_18 : decode cX7_rule 18 = .ok (.aload_n 0, 1) := by decide +kernel
theorem dX7_rule_19 : decode cX7_rule 19 = .ok (.iload_n 1, 1) := by decide +kernel
theorem dX7_rule_20 : decode cX7_rule 20 = .ok (.putfield 220, 3) := by decide +kernel
theorem dX7_rule_23 : decode cX7_rule 23 = .ok (.iload_n 2, 1) := by decide +kernel
theorem dX7_rule_24 : decode cX7_rule 24 = .ok (.ireturn, 1) := by decide +kernel
theorem dX7_go_0 : decode cX7_go 0 = .ok (.iload_n 1, 1) := by decide +kernel
theorem dX7_go_1 : decode cX7_go 1 = .ok (.i2l, 1) := by decide +kernel
theorem dX7_go_2 : decode cX7_go 2 = .ok (.lconst 1, 1) := by decide +kernel
theorem dX7_go_3 : decode cX7_go 3 = .ok (.ldc2_w 223, 3) := by decide +kernel
theorem dX7_go_6 : decode cX7_go 6 = .ok (.invokestatic 47, 3) := by decide +kernel
theorem dX7_go_9 : decode cX7_go 9 = .ok (.ifCond .ne 6, 3) := by decide +kernel
theorem dX7_go_12 : decode cX7_go 12 = .ok (.bipush (-2), 2) := by decide +kernel
theorem dX7_go_14 : decode cX7_go 14 = .ok (.ireturn, 1) := by decide +kernel
theorem dX7_go_15 : decode cX7_go 15 = .ok (.iload_n 1, 1) := by decide +kernel
theorem dX7_go_16 : decode cX7_go 16 = .ok (.sipush 20000, 3) := by decide +kernel
theorem dX7_go_19 : decode cX7_go 19 = .ok (.aload_n 0, 1) := by decide +kernel
theorem dX7_go_20 : decode cX7_go 20 = .ok (.getfield 225, 3) := by decide +kernel
theorem dX7_go_23 : decode cX7_go 23 = .ok (.isub, 1) := by decide +kernel
theorem dX7_go_24 : decode cX7_go 24 = .ok (.if_icmp .le 6, 3) := by decide +kernel
theorem dX7_go_27 : decode cX7_go 27 = .ok (.bipush (-3), 2) := by decide +kernel
theorem dX7_go_29 : decode cX7_go 29 = .ok (.ireturn, 1) := by decide +kernel
theorem dX7_go_30 : decode cX7_go 30 = .ok (.aload_n 0, 1) := by decide +kernel
theorem dX7_go_31 : decode cX7_go 31 = .ok (.getfield 19, 3) := by decide +kernel
theorem dX7_go_34 : decode cX7_go 34 = .ok (.aload_n 0, 1) := by decide +kernel
theorem dX7_go_35 : decode cX7_go 35 = .ok (.getfield 12, 3) := by decide +kernel
theorem dX7_go_38 : decode cX7_go 38 = .ok (.invokevirtual 138, 3) := by decide +kernel
theorem dX7_go_41 : decode cX7_go 41 = .ok (.iconst 0, 1) := by decide +kernel
theorem dX7_go_42 : decode cX7_go 42 = .ok (.istore_n 2, 1) := by decide +kernel
theorem dX7_go_43 : decode cX7_go 43 = .ok (.iload_n 2, 1) := by decide +kernel
theorem dX7_go_44 : decode cX7_go 44 = .ok (.iload_n 1, 1) := by decide +kernel
theorem dX7_go_45 : decode cX7_go 45 = .ok (.if_icmp .ge 13, 3) := by decide +kernel
theorem dX7_go_48 : decode cX7_go 48 = .ok (.aload_n 0, 1) := by decide +kernel
theorem dX7_go_49 : decode cX7_go 49 = .ok (.invokevirtual 228, 3) := by decide +kernel
theorem dX7_go_52 : decode cX7_go 52 = .ok (.iinc 2 1, 3) := by decide +kernel
theorem dX7_go_55 : decode cX7_go 55 = .ok (.goto (-12), 3) := by decide +kernel
theorem dX7_go_58 : decode cX7_go 58 = .ok (.aload_n 0, 1) := by decide +kernel
theorem dX7_go_59 : decode cX7_go 59 = .ok (.getfield 225, 3) := by decide +kernel
theorem dX7_go_62 : decode cX7_go 62 = .ok (.ireturn, 1) := by decide +kernel
theorem dX7_lit_0 : decode cX7_lit 0 = .ok (.aload_n 0, 1) := by decide +kernel
theorem dX7_lit_1 : decode cX7_lit 1 = .ok (.getfield 41, 3) := by decide +kernel
theorem dX7_lit_4 : decode cX7_lit 4 = .ok (.ireturn, 1) := by decide +kernel
theorem dX7_cellOf_0 : decode cX7_cellOf 0 = .ok (.aload_n 0, 1) := by decide +kernel
theorem dX7_cellOf_1 : decode cX7_cellOf 1 = .ok (.getfield 12, 3) := by decide +kernel
theorem dX7_cellOf_4 : decode cX7_cellOf 4 = .ok (.iload_n 1, 1) := by decide +kernel
theorem dX7_cellOf_5 : decode cX7_cellOf 5 = .ok (.invokevirtual 87, 3) := by decide +kernel
theorem dX7_cellOf_8 : decode cX7_cellOf 8 = .ok (.ifCond .eq 19, 3) := by decide +kernel
theorem dX7_cellOf_11 : decode cX7_cellOf 11 = .ok (.aload_n 0, 1) := by decide +kernel
theorem dX7_cellOf_12 : decode cX7_cellOf 12 = .ok (.getfield 12, 3) := by decide +kernel
theorem dX7_cellOf_15 : decode cX7_cellOf 15 = .ok (.getfield 78, 3) := by decide +kernel
theorem dX7_cellOf_18 : decode cX7_cellOf 18 = .ok (.iload_n 1, 1) := by decide +kernel
theorem dX7_cellOf_19 : decode cX7_cellOf 19 = .ok (.aaload, 1) := by decide +kernel
theorem dX7_cellOf_20 : decode cX7_cellOf 20 = .ok (.iload_n 2, 1) := by decide +kernel
theorem dX7_cellOf_21 : decode cX7_cellOf 21 = .ok (.invokevirtual 231, 3) := by decide +kernel
theorem dX7_cellOf_24 : decode cX7_cellOf 24 = .ok (.goto 5, 3) := by decide +kernel
theorem dX7_cellOf_27 : decode cX7_cellOf 27 = .ok (.bipush (-2), 2) := by decide +kernel
theorem dX7_cellOf_29 : decode cX7_cellOf 29 = .ok (.ireturn, 1) := by decide +kernel
theorem dX7_units_0 : decode cX7_units 0 = .ok (.aload_n 0, 1) := by decide +kernel
theorem dX7_units_1 : decode cX7_units 1 = .ok (.getfield 12, 3) := by decide +kernel
theorem dX7_units_4 : decode cX7_units 4 = .ok (.iload_n 1, 1) := by decide +kernel
theorem dX7_units_5 : decode cX7_units 5 = .ok (.invokevirtual 87, 3) := by decide +kernel
theorem dX7_units_8 : decode cX7_units 8 = .ok (.ifCond .eq 19, 3) := by decide +kernel
theorem dX7_units_11 : decode cX7_units 11 = .ok (.aload_n 0, 1) := by decide +kernel
theorem dX7_units_12 : decode cX7_units 12 = .ok (.getfield 12, 3) := by decide +kernel
theorem dX7_units_15 : decode cX7_units 15 = .ok (.getfield 78, 3) := by decide +kernel
theorem dX7_units_18 : decode cX7_units 18 = .ok (.iload_n 1, 1) := by decide +kernel
theorem dX7_units_19 : decode cX7_units 19 = .ok (.aaload, 1) := by decide +kernel
theorem dX7_units_20 : decode cX7_units 20 = .ok (.iload_n 2, 1) := by decide +kernel
theorem dX7_units_21 : decode cX7_units 21 = .ok (.invokevirtual 234, 3) := by decide +kernel
theorem dX7_units_24 : decode cX7_units 24 = .ok (.goto 6, 3) := by decide +kernel
theorem dX7_units_27 : decode cX7_units 27 = .ok (.ldc2_w 238, 3) := by decide +kernel
theorem dX7_units_30 : decode cX7_units 30 = .ok (.lreturn, 1) := by decide +kernel
theorem dX7_count_0 : decode cX7_count 0 = .ok (.iload_n 1, 1) := by decide +kernel
theorem dX7_count_1 : decode cX7_count 1 = .ok (.tableswitch 126 0 9 #[55, 63, 71, 79, 87, 95, 100, 105, 113, 118], 55) := by decide +kernel
theorem dX7_count_56 : decode cX7_count 56 = .ok (.aload_n 0, 1) := by decide +kernel
theorem dX7_count_57 : decode cX7_count 57 = .ok (.getfield 12, 3) := by decide +kernel
theorem dX7_count_60 : decode cX7_count 60 = .ok (.getfield 75, 3) := by decide +kernel
theorem dX7_count_63 : decode cX7_count 63 = .ok (.ireturn, 1) := by decide +kernel
theorem dX7_count_64 : decode cX7_count 64 = .ok (.aload_n 0, 1) := by decide +kernel
theorem dX7_count_65 : decode cX7_count 65 = .ok (.getfield 12, 3) := by decide +kernel
theorem dX7_count_68 : decode cX7_count 68 = .ok (.getfield 57, 3) := by decide +kernel
theorem dX7_count_71 : decode cX7_count 71 = .ok (.ireturn, 1) := by decide +kernel
theorem dX7_count_72 : decode cX7_count 72 = .ok (.aload_n 0, 1) := by decide +kernel
theorem dX7_count_73 : decode cX7_count 73 = .ok (.getfield 12, 3) := by decide +kernel
theorem dX7_count_76 : decode cX7_count 76 = .ok (.getfield 60, 3) := by decide +kernel
theorem dX7_count_79 : decode cX7_count 79 = .ok (.ireturn, 1) := by decide +kernel
theorem dX7_count_80 : decode cX7_count 80 = .ok (.aload_n 0, 1) := by decide +kernel
theorem dX7_count_81 : decode cX7_count 81 = .ok (.getfield 12, 3) := by decide +kernel
theorem dX7_count_84 : decode cX7_count 84 = .ok (.getfield 63, 3) := by decide +kernel
theorem dX7_count_87 : decode cX7_count 87 = .ok (.ireturn, 1) := by decide +kernel
theorem dX7_count_88 : decode cX7_count 88 = .ok (.aload_n 0, 1) := by decide +kernel
theorem dX7_count_89 : decode cX7_count 89 = .ok (.getfield 12, 3) := by decide +kernel
theorem dX7_count_92 : decode cX7_count 92 = .ok (.getfield 66, 3) := by decide +kernel
theorem dX7_count_95 : decode cX7_count 95 = .ok (.ireturn, 1) := by decide +kernel
theorem dX7_count_96 : decode cX7_count 96 = .ok (.aload_n 0, 1) := by decide +kernel
theorem dX7_count_97 : decode cX7_count 97 = .ok (.getfield 225, 3) := by decide +kernel
theorem dX7_count_100 : decode cX7_count 100 = .ok (.ireturn, 1) := by decide +kernel
theorem dX7_count_101 : decode cX7_count 101 = .ok (.aload_n 0, 1) := by decide +kernel
theorem dX7_count_102 : decode cX7_count 102 = .ok (.getfield 220, 3) := by decide +kernel
theorem dX7_count_105 : decode cX7_count 105 = .ok (.ireturn, 1) := by decide +kernel
theorem dX7_count_106 : decode cX7_count 106 = .ok (.aload_n 0, 1) := by decide +kernel
theorem dX7_count_107 : decode cX7_count 107 = .ok (.getfield 33, 3) := by decide +kernel
theorem dX7_count_110 : decode cX7_count 110 = .ok (.getfield 150, 3) := by decide +kernel
theorem dX7_count_113 : decode cX7_count 113 = .ok (.ireturn, 1) := by decide +kernel
theorem dX7_count_114 : decode cX7_count 114 = .ok (.aload_n 0, 1) := by decide +kernel
theorem dX7_count_115 : decode cX7_count 115 = .ok (.getfield 143, 3) := by decide +kernel
theorem dX7_count_118 : decode cX7_count 118 = .ok (.ireturn, 1) := by decide +kernel
theorem dX7_count_119 : decode cX7_count 119 = .ok (.aload_n 0, 1) := by decide +kernel
theorem dX7_count_120 : decode cX7_count 120 = .ok (.getfield 26, 3) := by decide +kernel
theorem dX7_count_123 : decode cX7_count 123 = .ok (.invokevirtual 240, 3) := by decide +kernel
theorem dX7_count_126 : decode cX7_count 126 = .ok (.ireturn, 1) := by decide +kernel
theorem dX7_count_127 : decode cX7_count 127 = .ok (.iconst (-1), 1) := by decide +kernel
theorem dX7_count_128 : decode cX7_count 128 = .ok (.ireturn, 1) := by decide +kernel
theorem dX7_gatewayOf_0 : decode cX7_gatewayOf 0 = .ok (.iload_n 1, 1) := by decide +kernel
theorem dX7_gatewayOf_1 : decode cX7_gatewayOf 1 = .ok (.invokestatic 71, 3) := by decide +kernel
theorem dX7_gatewayOf_4 : decode cX7_gatewayOf 4 = .ok (.ifCond .ne 6, 3) := by decide +kernel
theorem dX7_gatewayOf_7 : decode cX7_gatewayOf 7 = .ok (.bipush (-2), 2) := by decide +kernel
theorem dX7_gatewayOf_9 : decode cX7_gatewayOf 9 = .ok (.ireturn, 1) := by decide +kernel
theorem dX7_gatewayOf_10 : decode cX7_gatewayOf 10 = .ok (.iload_n 2, 1) := by decide +kernel
theorem dX7_gatewayOf_11 : decode cX7_gatewayOf 11 = .ok (.tableswitch 62 0 2 #[25, 35, 53], 25) := by decide +kernel
theorem dX7_gatewayOf_36 : decode cX7_gatewayOf 36 = .ok (.aload_n 0, 1) := by decide +kernel
theorem dX7_gatewayOf_37 : decode cX7_gatewayOf 37 = .ok (.getfield 12, 3) := by decide +kernel
theorem dX7_gatewayOf_40 : decode cX7_gatewayOf 40 = .ok (.getfield 104, 3) := by decide +kernel
theorem dX7_gatewayOf_43 : decode cX7_gatewayOf 43 = .ok (.iload_n 1, 1) := by decide +kernel
theorem dX7_gatewayOf_44 : decode cX7_gatewayOf 44 = .ok (.iaload, 1) := by decide +kernel
theorem dX7_gatewayOf_45 : decode cX7_gatewayOf 45 = .ok (.ireturn, 1) := by decide +kernel
theorem dX7_gatewayOf_46 : decode cX7_gatewayOf 46 = .ok (.aload_n 0, 1) := by decide +kernel
theorem dX7_gatewayOf_47 : decode cX7_gatewayOf 47 = .ok (.getfield 12, 3) := by decide +kernel
theorem dX7_gatewayOf_50 : decode cX7_gatewayOf 50 = .ok (.getfield 107, 3) := by decide +kernel
theorem dX7_gatewayOf_53 : decode cX7_gatewayOf 53 = .ok (.iload_n 1, 1) := by decide +kernel
theorem dX7_gatewayOf_54 : decode cX7_gatewayOf 54 = .ok (.baload, 1) := by decide +kernel
theorem dX7_gatewayOf_55 : decode cX7_gatewayOf 55 = .ok (.ifCond .eq 7, 3) := by decide +kernel
theorem dX7_gatewayOf_58 : decode cX7_gatewayOf 58 = .ok (.iconst 1, 1) := by decide +kernel
theorem dX7_gatewayOf_59 : decode cX7_gatewayOf 59 = .ok (.goto 4, 3) := by decide +kernel
theorem dX7_gatewayOf_62 : decode cX7_gatewayOf 62 = .ok (.iconst 0, 1) := by decide +kernel
theorem dX7_gatewayOf_63 : decode cX7_gatewayOf 63 = .ok (.ireturn, 1) := by decide +kernel
theorem dX7_gatewayOf_64 : decode cX7_gatewayOf 64 = .ok (.aload_n 0, 1) := by decide +kernel
theorem dX7_gatewayOf_65 : decode cX7_gatewayOf 65 = .ok (.getfield 12, 3) := by decide +kernel
theorem dX7_gatewayOf_68 : decode cX7_gatewayOf 68 = .ok (.iload_n 1, 1) := by decide +kernel
theorem dX7_gatewayOf_69 : decode cX7_gatewayOf 69 = .ok (.invokevirtual 243, 3) := by decide +kernel
theorem dX7_gatewayOf_72 : decode cX7_gatewayOf 72 = .ok (.ireturn, 1) := by decide +kernel
theorem dX7_gatewayOf_73 : decode cX7_gatewayOf 73 = .ok (.bipush (-2), 2) := by decide +kernel
theorem dX7_gatewayOf_75 : decode cX7_gatewayOf 75 = .ok (.ireturn, 1) := by decide +kernel
theorem dX7_row_0 : decode cX7_row 0 = .ok (.aload_n 0, 1) := by decide +kernel
theorem dX7_row_1 : decode cX7_row 1 = .ok (.getfield 26, 3) := by decide +kernel
theorem dX7_row_4 : decode cX7_row 4 = .ok (.iload_n 1, 1) := by decide +kernel
theorem dX7_row_5 : decode cX7_row 5 = .ok (.iload_n 2, 1) := by decide +kernel
theorem dX7_row_6 : decode cX7_row 6 = .ok (.iload_n 3, 1) := by decide +kernel
theorem dX7_row_7 : decode cX7_row 7 = .ok (.invokevirtual 246, 3) := by decide +kernel
theorem dX7_row_10 : decode cX7_row 10 = .ok (.ireturn, 1) := by decide +kernel
theorem dX7_tear_0 : decode cX7_tear 0 = .ok (.aload_n 0, 1) := by decide +kernel
theorem dX7_tear_1 : decode cX7_tear 1 = .ok (.getfield 26, 3) := by decide +kernel
theorem dX7_tear_4 : decode cX7_tear 4 = .ok (.iload_n 1, 1) := by decide +kernel
theorem dX7_tear_5 : decode cX7_tear 5 = .ok (.invokevirtual 249, 3) := by decide +kernel
theorem dX7_tear_8 : decode cX7_tear 8 = .ok (.ireturn, 1) := by decide +kernel
theorem dX7_write_0 : decode cX7_write 0 = .ok (.aload_n 0, 1) := by decide +kernel
theorem dX7_write_1 : decode cX7_write 1 = .ok (.getfield 26, 3) := by decide +kernel
theorem dX7_write_4 : decode cX7_write 4 = .ok (.iload_n 1, 1) := by decide +kernel
theorem dX7_write_5 : decode cX7_write 5 = .ok (.iload_n 2, 1) := by decide +kernel
theorem dX7_write_6 : decode cX7_write 6 = .ok (.lload_n 3, 1) := by decide +kernel
theorem dX7_write_7 : decode cX7_write 7 = .ok (.invokevirtual 252, 3) := by decide +kernel
theorem dX7_write_10 : decode cX7_write 10 = .ok (.ireturn, 1) := by decide +kernel
theorem dX7_paste_0 : decode cX7_paste 0 = .ok (.aload_n 0, 1) := by decide +kernel
theorem dX7_paste_1 : decode cX7_paste 1 = .ok (.getfield 26, 3) := by decide +kernel
theorem dX7_paste_4 : decode cX7_paste 4 = .ok (.iload_n 1, 1) := by decide +kernel
theorem dX7_paste_5 : decode cX7_paste 5 = .ok (.iload_n 2, 1) := by decide +kernel
theorem dX7_paste_6 : decode cX7_paste 6 = .ok (.iload_n 3, 1) := by decide +kernel
theorem dX7_paste_7 : decode cX7_paste 7 = .ok (.iload 4, 2) := by decide +kernel
theorem dX7_paste_9 : decode cX7_paste 9 = .ok (.iload 5, 2) := by decide +kernel
theorem dX7_paste_11 : decode cX7_paste 11 = .ok (.invokevirtual 256, 3) := by decide +kernel
theorem dX7_paste_14 : decode cX7_paste 14 = .ok (.ireturn, 1) := by decide +kernel
theorem dX7_passSlot_0 : decode cX7_passSlot 0 = .ok (.aload_n 0, 1) := by decide +kernel
theorem dX7_passSlot_1 : decode cX7_passSlot 1 = .ok (.getfield 12, 3) := by decide +kernel
theorem dX7_passSlot_4 : decode cX7_passSlot 4 = .ok (.invokevirtual 260, 3) := by decide +kernel
theorem dX7_passSlot_7 : decode cX7_passSlot 7 = .ok (.aload_n 0, 1) := by decide +kernel
theorem dX7_passSlot_8 : decode cX7_passSlot 8 = .ok (.aload_n 0, 1) := by decide +kernel
theorem dX7_passSlot_9 : decode cX7_passSlot 9 = .ok (.getfield 220, 3) := by decide +kernel
theorem dX7_passSlot_12 : decode cX7_passSlot 12 = .ok (.iconst 1, 1) := by decide +kernel
theorem dX7_passSlot_13 : decode cX7_passSlot 13 = .ok (.if_icmp .ne 10, 3) := by decide +kernel
theorem dX7_passSlot_16 : decode cX7_passSlot 16 = .ok (.aload_n 0, 1) := by decide +kernel
theorem dX7_passSlot_17 : decode cX7_passSlot 17 = .ok (.invokevirtual 263, 3) := by decide +kernel
theorem dX7_passSlot_20 : decode cX7_passSlot 20 = .ok (.goto 7, 3) := by decide +kernel
theorem dX7_passSlot_23 : decode cX7_passSlot 23 = .ok (.aload_n 0, 1) := by decide +kernel
theorem dX7_passSlot_24 : decode cX7_passSlot 24 = .ok (.invokevirtual 266, 3) := by decide +kernel
theorem dX7_passSlot_27 : decode cX7_passSlot 27 = .ok (.putfield 41, 3) := by decide +kernel
theorem dX7_passSlot_30 : decode cX7_passSlot 30 = .ok (.aload_n 0, 1) := by decide +kernel
theorem dX7_passSlot_31 : decode cX7_passSlot 31 = .ok (.getfield 12, 3) := by decide +kernel
theorem dX7_passSlot_34 : decode cX7_passSlot 34 = .ok (.aload_n 0, 1) := by decide +kernel
theorem dX7_passSlot_35 : decode cX7_passSlot 35 = .ok (.getfield 41, 3) := by decide +kernel
theorem dX7_passSlot_38 : decode cX7_passSlot 38 = .ok (.invokevirtual 269, 3) := by decide +kernel
theorem dX7_passSlot_41 : decode cX7_passSlot 41 = .ok (.aload_n 0, 1) := by decide +kernel
theorem dX7_passSlot_42 : decode cX7_passSlot 42 = .ok (.getfield 12, 3) := by decide +kernel
theorem dX7_passSlot_45 : decode cX7_passSlot 45 = .ok (.invokevirtual 273, 3) := by decide +kernel
theorem dX7_passSlot_48 : decode cX7_passSlot 48 = .ok (.ifCond .eq 14, 3) := by decide +kernel
theorem dX7_passSlot_51 : decode cX7_passSlot 51 = .ok (.aload_n 0, 1) := by decide +kernel
theorem dX7_passSlot_52 : decode cX7_passSlot 52 = .ok (.getfield 19, 3) := by decide +kernel
theorem dX7_passSlot_55 : decode cX7_passSlot 55 = .ok (.aload_n 0, 1) := by decide +kernel
theorem dX7_passSlot_56 : decode cX7_passSlot 56 = .ok (.getfield 12, 3) := by decide +kernel
theorem dX7_passSlot_59 : decode cX7_passSlot 59 = .ok (.invokevirtual 138, 3) := by decide +kernel
theorem dX7_passSlot_62 : decode cX7_passSlot 62 = .ok (.aload_n 0, 1) := by decide +kernel
theorem dX7_passSlot_63 : decode cX7_passSlot 63 = .ok (.dup, 1) := by decide +kernel
theorem dX7_passSlot_64 : decode cX7_passSlot 64 = .ok (.getfield 225, 3) := by decide +kernel
theorem dX7_passSlot_67 : decode cX7_passSlot 67 = .ok (.iconst 1, 1) := by decide +kernel
theorem dX7_passSlot_68 : decode cX7_passSlot 68 = .ok (.iadd, 1) := by decide +kernel
theorem dX7_passSlot_69 : decode cX7_passSlot 69 = .ok (.putfield 225, 3) := by decide +kernel
theorem dX7_passSlot_72 : decode cX7_passSlot 72 = .ok (.return_, 1) := by decide +kernel
theorem dX7_setOfFrame_0 : decode cX7_setOfFrame 0 = .ok (.aload_n 0, 1) := by decide +kernel
theorem dX7_setOfFrame_1 : decode cX7_setOfFrame 1 = .ok (.getfield 33, 3) := by decide +kernel
theorem dX7_setOfFrame_4 : decode cX7_setOfFrame 4 = .ok (.getfield 150, 3) := by decide +kernel
theorem dX7_setOfFrame_7 : decode cX7_setOfFrame 7 = .ok (.iconst 1, 1) := by decide +kernel
theorem dX7_setOfFrame_8 : decode cX7_setOfFrame 8 = .ok (.if_icmp .ge 5, 3) := by decide +kernel
theorem dX7_setOfFrame_11 : decode cX7_setOfFrame 11 = .ok (.iconst 0, 1) := by decide +kernel
theorem dX7_setOfFrame_12 : decode cX7_setOfFrame 12 = .ok (.ireturn, 1) := by decide +kernel
theorem dX7_setOfFrame_13 : decode cX7_setOfFrame 13 = .ok (.aload_n 0, 1) := by decide +kernel
theorem dX7_setOfFrame_14 : decode cX7_setOfFrame 14 = .ok (.getfield 33, 3) := by decide +kernel
theorem dX7_setOfFrame_17 : decode cX7_setOfFrame 17 = .ok (.getfield 174, 3) := by decide +kernel
theorem dX7_setOfFrame_20 : decode cX7_setOfFrame 20 = .ok (.aload_n 0, 1) := by decide +kernel
theorem dX7_setOfFrame_21 : decode cX7_setOfFrame 21 = .ok (.getfield 225, 3) := by decide +kernel
theorem dX7_setOfFrame_24 : decode cX7_setOfFrame 24 = .ok (.aload_n 0, 1) := by decide +kernel
theorem dX7_setOfFrame_25 : decode cX7_setOfFrame 25 = .ok (.getfield 33, 3) := by decide +kernel
theorem dX7_setOfFrame_28 : decode cX7_setOfFrame 28 = .ok (.getfield 150, 3) := by decide +kernel
theorem dX7_setOfFrame_31 : decode cX7_setOfFrame 31 = .ok (.irem, 1) := by decide +kernel
theorem dX7_setOfFrame_32 : decode cX7_setOfFrame 32 = .ok (.iaload, 1) := by decide +kernel
theorem dX7_setOfFrame_33 : decode cX7_setOfFrame 33 = .ok (.istore_n 1, 1) := by decide +kernel
theorem dX7_setOfFrame_34 : decode cX7_setOfFrame 34 = .ok (.bipush 9, 2) := by decide +kernel
theorem dX7_setOfFrame_36 : decode cX7_setOfFrame 36 = .ok (.istore_n 2, 1) := by decide +kernel
theorem dX7_setOfFrame_37 : decode cX7_setOfFrame 37 = .ok (.iload_n 2, 1) := by decide +kernel
theorem dX7_setOfFrame_38 : decode cX7_setOfFrame 38 = .ok (.ifCond .lt 28, 3) := by decide +kernel
theorem dX7_setOfFrame_41 : decode cX7_setOfFrame 41 = .ok (.aload_n 0, 1) := by decide +kernel
theorem dX7_setOfFrame_42 : decode cX7_setOfFrame 42 = .ok (.getfield 19, 3) := by decide +kernel
theorem dX7_setOfFrame_45 : decode cX7_setOfFrame 45 = .ok (.iload_n 1, 1) := by decide +kernel
theorem dX7_setOfFrame_46 : decode cX7_setOfFrame 46 = .ok (.invokevirtual 276, 3) := by decide +kernel
theorem dX7_setOfFrame_49 : decode cX7_setOfFrame 49 = .ok (.ifCond .ne 17, 3) := by decide +kernel
theorem dX7_setOfFrame_52 : decode cX7_setOfFrame 52 = .ok (.iload_n 1, 1) := by decide +kernel
theorem dX7_setOfFrame_53 : decode cX7_setOfFrame 53 = .ok (.iconst 1, 1) := by decide +kernel
theorem dX7_setOfFrame_54 : decode cX7_setOfFrame 54 = .ok (.iload_n 2, 1) := by decide +kernel
theorem dX7_setOfFrame_55 : decode cX7_setOfFrame 55 = .ok (.ishl, 1) := by decide +kernel
theorem dX7_setOfFrame_56 : decode cX7_setOfFrame 56 = .ok (.iconst (-1), 1) := by decide +kernel
theorem dX7_setOfFrame_57 : decode cX7_setOfFrame 57 = .ok (.ixor, 1) := by decide +kernel
theorem dX7_setOfFrame_58 : decode cX7_setOfFrame 58 = .ok (.iand, 1) := by decide +kernel
theorem dX7_setOfFrame_59 : decode cX7_setOfFrame 59 = .ok (.istore_n 1, 1) := by decide +kernel
theorem dX7_setOfFrame_60 : decode cX7_setOfFrame 60 = .ok (.iinc 2 (-1), 3) := by decide +kernel
theorem dX7_setOfFrame_63 : decode cX7_setOfFrame 63 = .ok (.goto (-26), 3) := by decide +kernel
theorem dX7_setOfFrame_66 : decode cX7_setOfFrame 66 = .ok (.iload_n 1, 1) := by decide +kernel
theorem dX7_setOfFrame_67 : decode cX7_setOfFrame 67 = .ok (.ireturn, 1) := by decide +kernel
theorem dX7_heaviestSet_0 : decode cX7_heaviestSet 0 = .ok (.iconst 0, 1) := by decide +kernel
theorem dX7_heaviestSet_1 : decode cX7_heaviestSet 1 = .ok (.istore_n 1, 1) := by decide +kernel
theorem dX7_heaviestSet_2 : decode cX7_heaviestSet 2 = .ok (.iload_n 1, 1) := by decide +kernel
theorem dX7_heaviestSet_3 : decode cX7_heaviestSet 3 = .ok (.aload_n 0, 1) := by decide +kernel
theorem dX7_heaviestSet_4 : decode cX7_heaviestSet 4 = .ok (.getfield 12, 3) := by decide +kernel
theorem dX7_heaviestSet_7 : decode cX7_heaviestSet 7 = .ok (.getfield 75, 3) := by decide +kernel
theorem dX7_heaviestSet_10 : decode cX7_heaviestSet 10 = .ok (.if_icmp .ge 27, 3) := by decide +kernel
theorem dX7_heaviestSet_13 : decode cX7_heaviestSet 13 = .ok (.aload_n 0, 1) := by decide +kernel
theorem dX7_heaviestSet_14 : decode cX7_heaviestSet 14 = .ok (.getfield 37, 3) := by decide +kernel
theorem dX7_heaviestSet_17 : decode cX7_heaviestSet 17 = .ok (.iload_n 1, 1) := by decide +kernel
theorem dX7_heaviestSet_18 : decode cX7_heaviestSet 18 = .ok (.aload_n 0, 1) := by decide +kernel
theorem dX7_heaviestSet_19 : decode cX7_heaviestSet 19 = .ok (.getfield 12, 3) := by decide +kernel
theorem dX7_heaviestSet_22 : decode cX7_heaviestSet 22 = .ok (.getfield 78, 3) := by decide +kernel
theorem dX7_heaviestSet_25 : decode cX7_heaviestSet 25 = .ok (.iload_n 1, 1) := by decide +kernel
theorem dX7_heaviestSet_26 : decode cX7_heaviestSet 26 = .ok (.aaload, 1) := by decide +kernel
theorem dX7_heaviestSet_27 : decode cX7_heaviestSet 27 = .ok (.invokevirtual 277, 3) := by decide +kernel
theorem dX7_heaviestSet_30 : decode cX7_heaviestSet 30 = .ok (.iastore, 1) := by decide +kernel
theorem dX7_heaviestSet_31 : decode cX7_heaviestSet 31 = .ok (.iinc 1 1, 3) := by decide +kernel
theorem dX7_heaviestSet_34 : decode cX7_heaviestSet 34 = .ok (.goto (-32), 3) := by decide +kernel
theorem dX7_heaviestSet_37 : decode cX7_heaviestSet 37 = .ok (.aload_n 0, 1) := by decide +kernel
theorem dX7_heaviestSet_38 : decode cX7_heaviestSet 38 = .ok (.getfield 19, 3) := by decide +kernel
theorem dX7_heaviestSet_41 : decode cX7_heaviestSet 41 = .ok (.aload_n 0, 1) := by decide +kernel
theorem dX7_heaviestSet_42 : decode cX7_heaviestSet 42 = .ok (.getfield 37, 3) := by decide +kernel
theorem dX7_heaviestSet_45 : decode cX7_heaviestSet 45 = .ok (.invokevirtual 195, 3) := by decide +kernel
theorem dX7_heaviestSet_48 : decode cX7_heaviestSet 48 = .ok (.ireturn, 1) := by decide +kernel
theorem dX7_isWithin_0 : decode cX7_isWithin 0 = .ok (.lload_n 0, 1) := by decide +kernel
theorem dX7_isWithin_1 : decode cX7_isWithin 1 = .ok (.lload_n 2, 1) := by decide +kernel
theorem dX7_isWithin_2 : decode cX7_isWithin 2 = .ok (.lcmp, 1) := by decide +kernel
theorem dX7_isWithin_3 : decode cX7_isWithin 3 = .ok (.ifCond .lt 14, 3) := by decide +kernel
theorem dX7_isWithin_6 : decode cX7_isWithin 6 = .ok (.lload_n 0, 1) := by decide +kernel
theorem dX7_isWithin_7 : decode cX7_isWithin 7 = .ok (.lload 4, 2) := by decide +kernel
theorem dX7_isWithin_9 : decode cX7_isWithin 9 = .ok (.lcmp, 1) := by decide +kernel
theorem dX7_isWithin_10 : decode cX7_isWithin 10 = .ok (.ifCond .gt 7, 3) := by decide +kernel
theorem dX7_isWithin_13 : decode cX7_isWithin 13 = .ok (.iconst 1, 1) := by decide +kernel
theorem dX7_isWithin_14 : decode cX7_isWithin 14 = .ok (.goto 4, 3) := by decide +kernel
theorem dX7_isWithin_17 : decode cX7_isWithin 17 = .ok (.iconst 0, 1) := by decide +kernel
theorem dX7_isWithin_18 : decode cX7_isWithin 18 = .ok (.ireturn, 1) := by decide +kernel
theorem dX7_isGateway_0 : decode cX7_isGateway 0 = .ok (.iload_n 0, 1) := by decide +kernel
theorem dX7_isGateway_1 : decode cX7_isGateway 1 = .ok (.i2l, 1) := by decide +kernel
theorem dX7_isGateway_2 : decode cX7_isGateway 2 = .ok (.lconst 0, 1) := by decide +kernel
theorem dX7_isGateway_3 : decode cX7_isGateway 3 = .ok (.ldc2_w 97, 3) := by decide +kernel
theorem dX7_isGateway_6 : decode cX7_isGateway 6 = .ok (.invokestatic 47, 3) := by decide +kernel
theorem dX7_isGateway_9 : decode cX7_isGateway 9 = .ok (.ireturn, 1) := by decide +kernel
theorem dX7_contains_0 : decode cX7_contains 0 = .ok (.iload_n 0, 1) := by decide +kernel
theorem dX7_contains_1 : decode cX7_contains 1 = .ok (.iload_n 1, 1) := by decide +kernel
theorem dX7_contains_2 : decode cX7_contains 2 = .ok (.ishr, 1) := by decide +kernel
theorem dX7_contains_3 : decode cX7_contains 3 = .ok (.iconst 1, 1) := by decide +kernel
theorem dX7_contains_4 : decode cX7_contains 4 = .ok (.iand, 1) := by decide +kernel
theorem dX7_contains_5 : decode cX7_contains 5 = .ok (.ifCond .eq 7, 3) := by decide +kernel
theorem dX7_contains_8 : decode cX7_contains 8 = .ok (.iconst 1, 1) := by decide +kernel
theorem dX7_contains_9 : decode cX7_contains 9 = .ok (.goto 4, 3) := by decide +kernel
theorem dX7_contains_12 : decode cX7_contains 12 = .ok (.iconst 0, 1) := by decide +kernel
theorem dX7_contains_13 : decode cX7_contains 13 = .ok (.ireturn, 1) := by decide +kernel
theorem dX8_init_0 : decode cX8_init 0 = .ok (.aload_n 0, 1) := by decide +kernel
theorem dX8_init_1 : decode cX8_init 1 = .ok (.invokespecial 1, 3) := by decide +kernel
theorem dX8_init_4 : decode cX8_init 4 = .ok (.aload_n 0, 1) := by decide +kernel
theorem dX8_init_5 : decode cX8_init 5 = .ok (.iconst 4, 1) := by decide +kernel
theorem dX8_init_6 : decode cX8_init 6 = .ok (.newarray .int, 2) := by decide +kernel
theorem dX8_init_8 : decode cX8_init 8 = .ok (.dup, 1) := by decide +kernel
theorem dX8_init_9 : decode cX8_init 9 = .ok (.iconst 0, 1) := by decide +kernel
theorem dX8_init_10 : decode cX8_init 10 = .ok (.iconst (-1), 1) := by decide +kernel
theorem dX8_init_11 : decode cX8_init 11 = .ok (.iastore, 1) := by decide +kernel
theorem dX8_init_12 : decode cX8_init 12 = .ok (.dup, 1) := by decide +kernel
theorem dX8_init_13 : decode cX8_init 13 = .ok (.iconst 1, 1) := by decide +kernel
theorem dX8_init_14 : decode cX8_init 14 = .ok (.iconst (-1), 1) := by decide +kernel
theorem dX8_init_15 : decode cX8_init 15 = .ok (.iastore, 1) := by decide +kernel
theorem dX8_init_16 : decode cX8_init 16 = .ok (.dup, 1) := by decide +kernel
theorem dX8_init_17 : decode cX8_init 17 = .ok (.iconst 2, 1) := by decide +kernel
theorem dX8_init_18 : decode cX8_init 18 = .ok (.iconst (-1), 1) := by decide +kernel
theorem dX8_init_19 : decode cX8_init 19 = .ok (.iastore, 1) := by decide +kernel
theorem dX8_init_20 : decode cX8_init 20 = .ok (.dup, 1) := by decide +kernel
theorem dX8_init_21 : decode cX8_init 21 = .ok (.iconst 3, 1) := by decide +kernel
theorem dX8_init_22 : decode cX8_init 22 = .ok (.iconst (-1), 1) := by decide +kernel
theorem dX8_init_23 : decode cX8_init 23 = .ok (.iastore, 1) := by decide +kernel
theorem dX8_init_24 : decode cX8_init 24 = .ok (.putfield 9, 3) := by decide +kernel
theorem dX8_init_27 : decode cX8_init 27 = .ok (.aload_n 0, 1) := by decide +kernel
theorem dX8_init_28 : decode cX8_init 28 = .ok (.iconst 4, 1) := by decide +kernel
theorem dX8_init_29 : decode cX8_init 29 = .ok (.newarray .int, 2) := by decide +kernel
theorem dX8_init_31 : decode cX8_init 31 = .ok (.putfield 13, 3) := by decide +kernel
theorem dX8_init_34 : decode cX8_init 34 = .ok (.aload_n 0, 1) := by decide +kernel
theorem dX8_init_35 : decode cX8_init 35 = .ok (.sipush 240, 3) := by decide +kernel
theorem dX8_init_38 : decode cX8_init 38 = .ok (.newarray .long, 2) := by decide +kernel
theorem dX8_init_40 : decode cX8_init 40 = .ok (.putfield 16, 3) := by decide +kernel
theorem dX8_init_43 : decode cX8_init 43 = .ok (.aload_n 0, 1) := by decide +kernel
theorem dX8_init_44 : decode cX8_init 44 = .ok (.bipush 60, 2) := by decide +kernel
theorem dX8_init_46 : decode cX8_init 46 = .ok (.newarray .long, 2) := by decide +kernel
theorem dX8_init_48 : decode cX8_init 48 = .ok (.putfield 20, 3) := by decide +kernel
theorem dX8_init_51 : decode cX8_init 51 = .ok (.aload_n 0, 1) := by decide +kernel
theorem dX8_init_52 : decode cX8_init 52 = .ok (.iconst 2, 1) := by decide +kernel
theorem dX8_init_53 : decode cX8_init 53 = .ok (.putfield 23, 3) := by decide +kernel
theorem dX8_init_56 : decode cX8_init 56 = .ok (.aload_n 0, 1) := by decide +kernel
theorem dX8_init_57 : decode cX8_init 57 = .ok (.bipush 100, 2) := by decide +kernel
theorem dX8_init_59 : decode cX8_init 59 = .ok (.putfield 27, 3) := by decide +kernel
theorem dX8_init_62 : decode cX8_init 62 = .ok (.aload_n 0, 1) := by decide +kernel
theorem dX8_init_63 : decode cX8_init 63 = .ok (.bipush 8, 2) := by decide +kernel
theorem dX8_init_65 : decode cX8_init 65 = .ok (.putfield 30, 3) := by decide +kernel
theorem dX8_init_68 : decode cX8_init 68 = .ok (.aload_n 0, 1) := by decide +kernel
theorem dX8_init_69 : decode cX8_init 69 = .ok (.iconst 2, 1) := by decide +kernel
theorem dX8_init_70 : decode cX8_init 70 = .ok (.putfield 33, 3) := by decide +kernel
theorem dX8_init_73 : decode cX8_init 73 = .ok (.aload_n 0, 1) := by decide +kernel
theorem dX8_init_74 : decode cX8_init 74 = .ok (.iconst (-1), 1) := by decide +kernel
theorem dX8_init_75 : decode cX8_init 75 = .ok (.putfield 36, 3) := by decide +kernel
theorem dX8_init_78 : decode cX8_init 78 = .ok (.aload_n 0, 1) := by decide +kernel
theorem dX8_init_79 : decode cX8_init 79 = .ok (.bipush 10, 2) := by decide +kernel
theorem dX8_init_81 : decode cX8_init 81 = .ok (.newarray .int, 2) := by decide +kernel
theorem dX8_init_83 : decode cX8_init 83 = .ok (.putfield 39, 3) := by decide +kernel
theorem dX8_init_86 : decode cX8_init 86 = .ok (.aload_n 0, 1) := by decide +kernel
theorem dX8_init_87 : decode cX8_init 87 = .ok (.bipush 10, 2) := by decide +kernel
theorem dX8_init_89 : decode cX8_init 89 = .ok (.newarray .int, 2) := by decide +kernel
theorem dX8_init_91 : decode cX8_init 91 = .ok (.putfield 42, 3) := by decide +kernel
theorem dX8_init_94 : decode cX8_init 94 = .ok (.aload_n 0, 1) := by decide +kernel
theorem dX8_init_95 : decode cX8_init 95 = .ok (.bipush 10, 2) := by decide +kernel
theorem dX8_init_97 : decode cX8_init 97 = .ok (.newarray .int, 2) := by decide +kernel
theorem dX8_init_99 : decode cX8_init 99 = .ok (.putfield 45, 3) := by decide +kernel
theorem dX8_init_102 : decode cX8_init 102 = .ok (.aload_n 0, 1) := by decide +kernel
theorem dX8_init_103 : decode cX8_init 103 = .ok (.bipush 10, 2) := by decide +kernel
theorem dX8_init_105 : decode cX8_init 105 = .ok (.newarray .int, 2) := by decide +kernel
theorem dX8_init_107 : decode cX8_init 107 = .ok (.putfield 48, 3) := by decide +kernel
theorem dX8_init_110 : decode cX8_init 110 = .ok (.aload_n 0, 1) := by decide +kernel
theorem dX8_init_111 : decode cX8_init 111 = .ok (.bipush 10, 2) := by decide +kernel
theorem dX8_init_113 : decode cX8_init 113 = .ok (.newarray .int, 2) := by decide +kernel
theorem dX8_init_115 : decode cX8_init 115 = .ok (.putfield 51, 3) := by decide +kernel
theorem dX8_init_118 : decode cX8_init 118 = .ok (.aload_n 0, 1) := by decide +kernel
theorem dX8_init_119 : decode cX8_init 119 = .ok (.bipush 10, 2) := by decide +kernel
theorem dX8_init_121 : decode cX8_init 121 = .ok (.newarray .int, 2) := by decide +kernel
theorem dX8_init_123 : decode cX8_init 123 = .ok (.putfield 54, 3) := by decide +kernel
theorem dX8_init_126 : decode cX8_init 126 = .ok (.aload_n 0, 1) := by decide +kernel
theorem dX8_init_127 : decode cX8_init 127 = .ok (.bipush 10, 2) := by decide +kernel
theorem dX8_init_129 : decode cX8_init 129 = .ok (.newarray .int, 2) := by decide +kernel
theorem dX8_init_131 : decode cX8_init 131 = .ok (.putfield 57, 3) := by decide +kernel
theorem dX8_init_134 : decode cX8_init 134 = .ok (.aload_n 0, 1) := by decide +kernel
theorem dX8_init_135 : decode cX8_init 135 = .ok (.bipush 10, 2) := by decide +kernel
theorem dX8_init_137 : decode cX8_init 137 = .ok (.newarray .int, 2) := by decide +kernel
theorem dX8_init_139 : decode cX8_init 139 = .ok (.putfield 60, 3) := by decide +kernel
theorem dX8_init_142 : decode cX8_init 142 = .ok (.aload_n 0, 1) := by decide +kernel
theorem dX8_init_143 : decode cX8_init 143 = .ok (.bipush 10, 2) := by decide +kernel
theorem dX8_init_145 : decode cX8_init 145 = .ok (.newarray .int, 2) := by decide +kernel
theorem dX8_init_147 : decode cX8_init 147 = .ok (.putfield 63, 3) := by decide +kernel
theorem dX8_init_150 : decode cX8_init 150 = .ok (.aload_n 0, 1) := by decide +kernel
theorem dX8_init_151 : decode cX8_init 151 = .ok (.bipush 10, 2) := by decide +kernel
theorem dX8_init_153 : decode cX8_init 153 = .ok (.newarray .int, 2) := by decide +kernel
theorem dX8_init_155 : decode cX8_init 155 = .ok (.putfield 66, 3) := by decide +kernel
theorem dX8_init_158 : decode cX8_init 158 = .ok (.aload_n 0, 1) := by decide +kernel
theorem dX8_init_159 : decode cX8_init 159 = .ok (.bipush 10, 2) := by decide +kernel
theorem dX8_init_161 : decode cX8_init 161 = .ok (.newarray .int, 2) := by decide +kernel
theorem dX8_init_163 : decode cX8_init 163 = .ok (.putfield 69, 3) := by decide +kernel
theorem dX8_init_166 : decode cX8_init 166 = .ok (.aload_n 0, 1) := by decide +kernel
theorem dX8_init_167 : decode cX8_init 167 = .ok (.bipush 10, 2) := by decide +kernel
theorem dX8_init_169 : decode cX8_init 169 = .ok (.newarray .int, 2) := by decide +kernel
theorem dX8_init_171 : decode cX8_init 171 = .ok (.putfield 72, 3) := by decide +kernel
theorem dX8_init_174 : decode cX8_init 174 = .ok (.aload_n 0, 1) := by decide +kernel
theorem dX8_init_175 : decode cX8_init 175 = .ok (.iconst 3, 1) := by decide +kernel
theorem dX8_init_176 : decode cX8_init 176 = .ok (.newarray .int, 2) := by decide +kernel
theorem dX8_init_178 : decode cX8_init 178 = .ok (.dup, 1) := by decide +kernel
theorem dX8_init_179 : decode cX8_init 179 = .ok (.iconst 0, 1) := by decide +kernel
theorem dX8_init_180 : decode cX8_init 180 = .ok (.bipush 10, 2) := by decide +kernel
theorem dX8_init_182 : decode cX8_init 182 = .ok (.iastore, 1) := by decide +kernel
theorem dX8_init_183 : decode cX8_init 183 = .ok (.dup, 1) := by decide +kernel
theorem dX8_init_184 : decode cX8_init 184 = .ok (.iconst 1, 1) := by decide +kernel
theorem dX8_init_185 : decode cX8_init 185 = .ok (.bipush 10, 2) := by decide +kernel
theorem dX8_init_187 : decode cX8_init 187 = .ok (.iastore, 1) := by decide +kernel
theorem dX8_init_188 : decode cX8_init 188 = .ok (.dup, 1) := by decide +kernel
theorem dX8_init_189 : decode cX8_init 189 = .ok (.iconst 2, 1) := by decide +kernel
theorem dX8_init_190 : decode cX8_init 190 = .ok (.bipush 10, 2) := by decide +kernel
theorem dX8_init_192 : decode cX8_init 192 = .ok (.iastore, 1) := by decide +kernel
theorem dX8_init_193 : decode cX8_init 193 = .ok (.putfield 75, 3) := by decide +kernel
theorem dX8_init_196 : decode cX8_init 196 = .ok (.aload_n 0, 1) := by decide +kernel
theorem dX8_init_197 : decode cX8_init 197 = .ok (.iconst 3, 1) := by decide +kernel
theorem dX8_init_198 : decode cX8_init 198 = .ok (.newarray .boolean, 2) := by decide +kernel
theorem dX8_init_200 : decode cX8_init 200 = .ok (.dup, 1) := by decide +kernel
theorem dX8_init_201 : decode cX8_init 201 = .ok (.iconst 0, 1) := by decide +kernel
theorem dX8_init_202 : decode cX8_init 202 = .ok (.iconst 1, 1) := by decide +kernel
theorem dX8_init_203 : decode cX8_init 203 = .ok (.bastore, 1) := by decide +kernel
theorem dX8_init_204 : decode cX8_init 204 = .ok (.dup, 1) := by decide +kernel
theorem dX8_init_205 : decode cX8_init 205 = .ok (.iconst 1, 1) := by decide +kernel
theorem dX8_init_206 : decode cX8_init 206 = .ok (.iconst 1, 1) := by decide +kernel
theorem dX8_init_207 : decode cX8_init 207 = .ok (.bastore, 1) := by decide +kernel
theorem dX8_init_208 : decode cX8_init 208 = .ok (.dup, 1) := by decide +kernel
theorem dX8_init_209 : decode cX8_init 209 = .ok (.iconst 2, 1) := by decide +kernel
theorem dX8_init_210 : decode cX8_init 210 = .ok (.iconst 1, 1) := by decide +kernel
theorem dX8_init_211 : decode cX8_init 211 = .ok (.bastore, 1) := by decide +kernel
theorem dX8_init_212 : decode cX8_init 212 = .ok (.putfield 78, 3) := by decide +kernel
theorem dX8_init_215 : decode cX8_init 215 = .ok (.aload_n 0, 1) := by decide +kernel
theorem dX8_init_216 : decode cX8_init 216 = .ok (.bipush 100, 2) := by decide +kernel
theorem dX8_init_218 : decode cX8_init 218 = .ok (.newarray .int, 2) := by decide +kernel
theorem dX8_init_220 : decode cX8_init 220 = .ok (.putfield 82, 3) := by decide +kernel
theorem dX8_init_223 : decode cX8_init 223 = .ok (.aload_n 0, 1) := by decide +kernel
theorem dX8_init_224 : decode cX8_init 224 = .ok (.sipush 210, 3) := by decide +kernel
theorem dX8_init_227 : decode cX8_init 227 = .ok (.newarray .int, 2) := by decide +kernel
theorem dX8_init_229 : decode cX8_init 229 = .ok (.putfield 85, 3) := by decide +kernel
theorem dX8_init_232 : decode cX8_init 232 = .ok (.aload_n 0, 1) := by decide +kernel
theorem dX8_init_233 : decode cX8_init 233 = .ok (.bipush 10, 2) := by decide +kernel
theorem dX8_init_235 : decode cX8_init 235 = .ok (.newarray .long, 2) := by decide +kernel
theorem dX8_init_237 : decode cX8_init 237 = .ok (.putfield 88, 3) := by decide +kernel
theorem dX8_init_240 : decode cX8_init 240 = .ok (.aload_n 0, 1) := by decide +kernel
theorem dX8_init_241 : decode cX8_init 241 = .ok (.bipush 10, 2) := by decide +kernel
theorem dX8_init_243 : decode cX8_init 243 = .ok (.newarray .long, 2) := by decide +kernel
theorem dX8_init_245 : decode cX8_init 245 = .ok (.putfield 91, 3) := by decide +kernel
theorem dX8_init_248 : decode cX8_init 248 = .ok (.aload_n 0, 1) := by decide +kernel
theorem dX8_init_249 : decode cX8_init 249 = .ok (.bipush 10, 2) := by decide +kernel
theorem dX8_init_251 : decode cX8_init 251 = .ok (.newarray .long, 2) := by decide +kernel
theorem dX8_init_253 : decode cX8_init 253 = .ok (.putfield 94, 3) := by decide +kernel
theorem dX8_init_256 : decode cX8_init 256 = .ok (.aload_n 0, 1) := by decide +kernel
theorem dX8_init_257 : decode cX8_init 257 = .ok (.ldc 97, 2) := by decide +kernel
theorem dX8_init_259 : decode cX8_init 259 = .ok (.newarray .int, 2) := by decide +kernel
theorem dX8_init_261 : decode cX8_init 261 = .ok (.putfield 98, 3) := by decide +kernel
theorem dX8_init_264 : decode cX8_init 264 = .ok (.aload_n 0, 1) := by decide +kernel
theorem dX8_init_265 : decode cX8_init 265 = .ok (.sipush 5000, 3) := by decide +kernel
theorem dX8_init_268 : decode cX8_init 268 = .ok (.newarray .int, 2) := by decide +kernel
theorem dX8_init_270 : decode cX8_init 270 = .ok (.putfield 101, 3) := by decide +kernel
theorem dX8_init_273 : decode cX8_init 273 = .ok (.aload_n 0, 1) := by decide +kernel
theorem dX8_init_274 : decode cX8_init 274 = .ok (.sipush 5000, 3) := by decide +kernel
theorem dX8_init_277 : decode cX8_init 277 = .ok (.newarray .int, 2) := by decide +kernel
theorem dX8_init_279 : decode cX8_init 279 = .ok (.putfield 104, 3) := by decide +kernel
theorem dX8_init_282 : decode cX8_init 282 = .ok (.aload_n 0, 1) := by decide +kernel
theorem dX8_init_283 : decode cX8_init 283 = .ok (.sipush 5000, 3) := by decide +kernel
theorem dX8_init_286 : decode cX8_init 286 = .ok (.newarray .int, 2) := by decide +kernel
theorem dX8_init_288 : decode cX8_init 288 = .ok (.putfield 107, 3) := by decide +kernel
theorem dX8_init_291 : decode cX8_init 291 = .ok (.aload_n 0, 1) := by decide +kernel
theorem dX8_init_292 : decode cX8_init 292 = .ok (.bipush 10, 2) := by decide +kernel
theorem dX8_init_294 : decode cX8_init 294 = .ok (.newarray .int, 2) := by decide +kernel
theorem dX8_init_296 : decode cX8_init 296 = .ok (.putfield 110, 3) := by decide +kernel
theorem dX8_init_299 : decode cX8_init 299 = .ok (.aload_n 0, 1) := by decide +kernel
theorem dX8_init_300 : decode cX8_init 300 = .ok (.sipush 8192, 3) := by decide +kernel
theorem dX8_init_303 : decode cX8_init 303 = .ok (.newarray .int, 2) := by decide +kernel
theorem dX8_init_305 : decode cX8_init 305 = .ok (.putfield 113, 3) := by decide +kernel
theorem dX8_init_308 : decode cX8_init 308 = .ok (.aload_n 0, 1) := by decide +kernel
theorem dX8_init_309 : decode cX8_init 309 = .ok (.sipush 5000, 3) := by decide +kernel
theorem dX8_init_312 : decode cX8_init 312 = .ok (.newarray .int, 2) := by decide +kernel
theorem dX8_init_314 : decode cX8_init 314 = .ok (.putfield 116, 3) := by decide +kernel
theorem dX8_init_317 : decode cX8_init 317 = .ok (.aload_n 0, 1) := by decide +kernel
theorem dX8_init_318 : decode cX8_init 318 = .ok (.sipush 1024, 3) := by decide +kernel
theorem dX8_init_321 : decode cX8_init 321 = .ok (.newarray .boolean, 2) := by decide +kernel
theorem dX8_init_323 : decode cX8_init 323 = .ok (.putfield 119, 3) := by decide +kernel
theorem dX8_init_326 : decode cX8_init 326 = .ok (.aload_n 0, 1) := by decide +kernel
theorem dX8_init_327 : decode cX8_init 327 = .ok (.bipush 40, 2) := by decide +kernel
theorem dX8_init_329 : decode cX8_init 329 = .ok (.newarray .int, 2) := by decide +kernel
theorem dX8_init_331 : decode cX8_init 331 = .ok (.putfield 122, 3) := by decide +kernel
theorem dX8_init_334 : decode cX8_init 334 = .ok (.aload_n 0, 1) := by decide +kernel
theorem dX8_init_335 : decode cX8_init 335 = .ok (.bipush 40, 2) := by decide +kernel
theorem dX8_init_337 : decode cX8_init 337 = .ok (.newarray .int, 2) := by decide +kernel
theorem dX8_init_339 : decode cX8_init 339 = .ok (.putfield 125, 3) := by decide +kernel
theorem dX8_init_342 : decode cX8_init 342 = .ok (.aload_n 0, 1) := by decide +kernel
theorem dX8_init_343 : decode cX8_init 343 = .ok (.bipush 40, 2) := by decide +kernel
theorem dX8_init_345 : decode cX8_init 345 = .ok (.newarray .int, 2) := by decide +kernel
theorem dX8_init_347 : decode cX8_init 347 = .ok (.putfield 128, 3) := by decide +kernel
theorem dX8_init_350 : decode cX8_init 350 = .ok (.aload_n 0, 1) := by decide +kernel
theorem dX8_init_351 : decode cX8_init 351 = .ok (.sipush 360, 3) := by decide +kernel
theorem dX8_init_354 : decode cX8_init 354 = .ok (.newarray .int, 2) := by decide +kernel
theorem dX8_init_356 : decode cX8_init 356 = .ok (.putfield 131, 3) := by decide +kernel
theorem dX8_init_359 : decode cX8_init 359 = .ok (.aload_n 0, 1) := by decide +kernel
theorem dX8_init_360 : decode cX8_init 360 = .ok (.bipush 10, 2) := by decide +kernel
theorem dX8_init_362 : decode cX8_init 362 = .ok (.newarray .int, 2) := by decide +kernel
theorem dX8_init_364 : decode cX8_init 364 = .ok (.putfield 134, 3) := by decide +kernel
theorem dX8_init_367 : decode cX8_init 367 = .ok (.aload_n 0, 1) := by decide +kernel
theorem dX8_init_368 : decode cX8_init 368 = .ok (.getfield 131, 3) := by decide +kernel
theorem dX8_init_371 : decode cX8_init 371 = .ok (.iconst 0, 1) := by decide +kernel
theorem dX8_init_372 : decode cX8_init 372 = .ok (.iconst 0, 1) := by decide +kernel
theorem dX8_init_373 : decode cX8_init 373 = .ok (.iastore, 1) := by decide +kernel
theorem dX8_init_374 : decode cX8_init 374 = .ok (.return_, 1) := by decide +kernel
theorem dX8_in_0 : decode cX8_in 0 = .ok (.lload_n 0, 1) := by decide +kernel
theorem dX8_in_1 : decode cX8_in 1 = .ok (.lload_n 2, 1) := by decide +kernel
theorem dX8_in_2 : decode cX8_in 2 = .ok (.lcmp, 1) := by decide +kernel
theorem dX8_in_3 : decode cX8_in 3 = .ok (.ifCond .lt 14, 3) := by decide +kernel
theorem dX8_in_6 : decode cX8_in 6 = .ok (.lload_n 0, 1) := by decide +kernel
theorem dX8_in_7 : decode cX8_in 7 = .ok (.lload 4, 2) := by decide +kernel
theorem dX8_in_9 : decode cX8_in 9 = .ok (.lcmp, 1) := by decide +kernel
theorem dX8_in_10 : decode cX8_in 10 = .ok (.ifCond .gt 7, 3) := by decide +kernel
theorem dX8_in_13 : decode cX8_in 13 = .ok (.iconst 1, 1) := by decide +kernel
theorem dX8_in_14 : decode cX8_in 14 = .ok (.goto 4, 3) := by decide +kernel
theorem dX8_in_17 : decode cX8_in 17 = .ok (.iconst 0, 1) := by decide +kernel
theorem dX8_in_18 : decode cX8_in 18 = .ok (.ireturn, 1) := by decide +kernel
theorem dX8_isPlace_0 : decode cX8_isPlace 0 = .ok (.iload_n 0, 1) := by decide +kernel
theorem dX8_isPlace_1 : decode cX8_isPlace 1 = .ok (.i2l, 1) := by decide +kernel
theorem dX8_isPlace_2 : decode cX8_isPlace 2 = .ok (.lconst 0, 1) := by decide +kernel
theorem dX8_isPlace_3 : decode cX8_isPlace 3 = .ok (.ldc2_w 140, 3) := by decide +kernel
theorem dX8_isPlace_6 : decode cX8_isPlace 6 = .ok (.invokestatic 142, 3) := by decide +kernel
theorem dX8_isPlace_9 : decode cX8_isPlace 9 = .ok (.ireturn, 1) := by decide +kernel
theorem dX8_cut_0 : decode cX8_cut 0 = .ok (.iload_n 0, 1) := by decide +kernel
theorem dX8_cut_1 : decode cX8_cut 1 = .ok (.ifCond .ne 10, 3) := by decide +kernel
theorem dX8_cut_4 : decode cX8_cut 4 = .ok (.lload_n 1, 1) := by decide +kernel
theorem dX8_cut_5 : decode cX8_cut 5 = .ok (.l2i, 1) := by decide +kernel
theorem dX8_cut_6 : decode cX8_cut 6 = .ok (.i2b, 1) := by decide +kernel
theorem dX8_cut_7 : decode cX8_cut 7 = .ok (.i2l, 1) := by decide +kernel
theorem dX8_cut_8 : decode cX8_cut 8 = .ok (.goto 27, 3) := by decide +kernel
theorem dX8_cut_11 : decode cX8_cut 11 = .ok (.iload_n 0, 1) := by decide +kernel
theorem dX8_cut_12 : decode cX8_cut 12 = .ok (.iconst 1, 1) := by decide +kernel
theorem dX8_cut_13 : decode cX8_cut 13 = .ok (.if_icmp .ne 10, 3) := by decide +kernel
theorem dX8_cut_16 : decode cX8_cut 16 = .ok (.lload_n 1, 1) := by decide +kernel
theorem dX8_cut_17 : decode cX8_cut 17 = .ok (.l2i, 1) := by decide +kernel
theorem dX8_cut_18 : decode cX8_cut 18 = .ok (.i2s, 1) := by decide +kernel
theorem dX8_cut_19 : decode cX8_cut 19 = .ok (.i2l, 1) := by decide +kernel
theorem dX8_cut_20 : decode cX8_cut 20 = .ok (.goto 15, 3) := by decide +kernel
theorem dX8_cut_23 : decode cX8_cut 23 = .ok (.iload_n 0, 1) := by decide +kernel
theorem dX8_cut_24 : decode cX8_cut 24 = .ok (.iconst 2, 1) := by decide +kernel
theorem dX8_cut_25 : decode cX8_cut 25 = .ok (.if_icmp .ne 9, 3) := by decide +kernel
theorem dX8_cut_28 : decode cX8_cut 28 = .ok (.lload_n 1, 1) := by decide +kernel
theorem dX8_cut_29 : decode cX8_cut 29 = .ok (.l2i, 1) := by decide +kernel
theorem dX8_cut_30 : decode cX8_cut 30 = .ok (.i2l, 1) := by decide +kernel
theorem dX8_cut_31 : decode cX8_cut 31 = .ok (.goto 4, 3) := by decide +kernel
theorem dX8_cut_34 : decode cX8_cut 34 = .ok (.lload_n 1, 1) := by decide +kernel
theorem dX8_cut_35 : decode cX8_cut 35 = .ok (.lreturn, 1) := by decide +kernel
theorem dX8_row_0 : decode cX8_row 0 = .ok (.aload_n 0, 1) := by decide +kernel
theorem dX8_row_1 : decode cX8_row 1 = .ok (.iconst 0, 1) := by decide +kernel
theorem dX8_row_2 : decode cX8_row 2 = .ok (.putfield 137, 3) := by decide +kernel
theorem dX8_row_5 : decode cX8_row 5 = .ok (.iload_n 1, 1) := by decide +kernel
theorem dX8_row_6 : decode cX8_row 6 = .ok (.invokestatic 146, 3) := by decide +kernel
theorem dX8_row_9 : decode cX8_row 9 = .ok (.ifCond .eq 21, 3) := by decide +kernel
theorem dX8_row_12 : decode cX8_row 12 = .ok (.iload_n 2, 1) := by decide +kernel
theorem dX8_row_13 : decode cX8_row 13 = .ok (.i2l, 1) := by decide +kernel
theorem dX8_row_14 : decode cX8_row 14 = .ok (.lconst 0, 1) := by decide +kernel
theorem dX8_row_15 : decode cX8_row 15 = .ok (.ldc2_w 140, 3) := by decide +kernel
theorem dX8_row_18 : decode cX8_row 18 = .ok (.invokestatic 142, 3) := by decide +kernel
theorem dX8_row_21 : decode cX8_row 21 = .ok (.ifCond .eq 9, 3) := by decide +kernel
theorem dX8_row_24 : decode cX8_row 24 = .ok (.iload_n 3, 1) := by decide +kernel
theorem dX8_row_25 : decode cX8_row 25 = .ok (.bipush 60, 2) := by decide +kernel
theorem dX8_row_27 : decode cX8_row 27 = .ok (.if_icmp .le 6, 3) := by decide +kernel
theorem dX8_row_30 : decode cX8_row 30 = .ok (.bipush (-2), 2) := by decide +kernel
theorem dX8_row_32 : decode cX8_row 32 = .ok (.ireturn, 1) := by decide +kernel
theorem dX8_row_33 : decode cX8_row 33 = .ok (.iload_n 3, 1) := by decide +kernel
theorem dX8_row_34 : decode cX8_row 34 = .ok (.ifCond .ge 6, 3) := by decide +kernel
theorem dX8_row_37 : decode cX8_row 37 = .ok (.bipush (-3), 2) := by decide +kernel
theorem dX8_row_39 : decode cX8_row 39 = .ok (.ireturn, 1) := by decide +kernel
theorem dX8_row_40 : decode cX8_row 40 = .ok (.aload_n 0, 1) := by decide +kernel
theorem dX8_row_41 : decode cX8_row 41 = .ok (.getfield 9, 3) := by decide +kernel
theorem dX8_row_44 : decode cX8_row 44 = .ok (.iload_n 1, 1) := by decide +kernel
theorem dX8_row_45 : decode cX8_row 45 = .ok (.iload_n 2, 1) := by decide +kernel
theorem dX8_row_46 : decode cX8_row 46 = .ok (.iastore, 1) := by decide +kernel
theorem dX8_row_47 : decode cX8_row 47 = .ok (.aload_n 0, 1) := by decide +kernel
theorem dX8_row_48 : decode cX8_row 48 = .ok (.getfield 13, 3) := by decide +kernel
theorem dX8_row_51 : decode cX8_row 51 = .ok (.iload_n 1, 1) := by decide +kernel
theorem dX8_row_52 : decode cX8_row 52 = .ok (.iload_n 3, 1) := by decide +kernel
theorem dX8_row_53 : decode cX8_row 53 = .ok (.iastore, 1) := by decide +kernel
theorem dX8_row_54 : decode cX8_row 54 = .ok (.iconst 0, 1) := by decide +kernel
theorem dX8_row_55 : decode cX8_row 55 = .ok (.istore 4, 2) := by decide +kernel
theorem dX8_row_57 : decode cX8_row 57 = .ok (.iload 4, 2) := by decide +kernel
theorem dX8_row_59 : decode cX8_row 59 = .ok (.bipush 60, 2) := by decide +kernel
theorem dX8_row_61 : decode cX8_row 61 = .ok (.if_icmp .ge 22, 3) := by decide +kernel
theorem dX8_row_64 : decode cX8_row 64 = .ok (.aload_n 0, 1) := by decide +kernel
theorem dX8_row_65 : decode cX8_row 65 = .ok (.getfield 16, 3) := by decide +kernel
theorem dX8_row_68 : decode cX8_row 68 = .ok (.bipush 60, 2) := by decide +kernel
theorem dX8_row_70 : decode cX8_row 70 = .ok (.iload_n 1, 1) := by decide +kernel
theorem dX8_row_71 : decode cX8_row 71 = .ok (.imul, 1) := by decide +kernel
theorem dX8_row_72 : decode cX8_row 72 = .ok (.iload 4, 2) := by decide +kernel
theorem dX8_row_74 : decode cX8_row 74 = .ok (.iadd, 1) := by decide +kernel
theorem dX8_row_75 : decode cX8_row 75 = .ok (.lconst 0, 1) := by decide +kernel
theorem dX8_row_76 : decode cX8_row 76 = .ok (.lastore, 1) := by decide +kernel
theorem dX8_row_77 : decode cX8_row 77 = .ok (.iinc 4 1, 3) := by decide +kernel
theorem dX8_row_80 : decode cX8_row 80 = .ok (.goto (-23), 3) := by decide +kernel
theorem dX8_row_83 : decode cX8_row 83 = .ok (.iconst 0, 1) := by decide +kernel
theorem dX8_row_84 : decode cX8_row 84 = .ok (.ireturn, 1) := by decide +kernel
theorem dX8_tear_0 : decode cX8_tear 0 = .ok (.aload_n 0, 1) := by decide +kernel
theorem dX8_tear_1 : decode cX8_tear 1 = .ok (.iconst 0, 1) := by decide +kernel
theorem dX8_tear_2 : decode cX8_tear 2 = .ok (.putfield 137, 3) := by decide +kernel
theorem dX8_tear_5 : decode cX8_tear 5 = .ok (.iload_n 1, 1) := by decide +kernel
theorem dX8_tear_6 : decode cX8_tear 6 = .ok (.invokestatic 146, 3) := by decide +kernel
theorem dX8_tear_9 : decode cX8_tear 9 = .ok (.ifCond .eq 12, 3) := by decide +kernel
theorem dX8_tear_12 : decode cX8_tear 12 = .ok (.aload_n 0, 1) := by decide +kernel
theorem dX8_tear_13 : decode cX8_tear 13 = .ok (.getfield 9, 3) := by decide +kernel
theorem dX8_tear_16 : decode cX8_tear 16 = .ok (.iload_n 1, 1) := by decide +kernel
theorem dX8_tear_17 : decode cX8_tear 17 = .ok (.iaload, 1) := by decide +kernel
theorem dX8_tear_18 : decode cX8_tear 18 = .ok (.ifCond .ge 5, 3) := by decide +kernel
theorem dX8_tear_21 : decode cX8_tear 21 = .ok (.iconst 0, 1) := by decide +kernel
theorem dX8_tear_22 : decode cX8_tear 22 = .ok (.ireturn, 1) := by decide +kernel
theorem dX8_tear_23 : decode cX8_tear 23 = .ok (.aload_n 0, 1) := by decide +kernel
theorem dX8_tear_24 : decode cX8_tear 24 = .ok (.getfield 9, 3) := by decide +kernel
theorem dX8_tear_27 : decode cX8_tear 27 = .ok (.iload_n 1, 1) := by decide +kernel
theorem dX8_tear_28 : decode cX8_tear 28 = .ok (.iconst (-1), 1) := by decide +kernel
theorem dX8_tear_29 : decode cX8_tear 29 = .ok (.iastore, 1) := by decide +kernel
theorem dX8_tear_30 : decode cX8_tear 30 = .ok (.iconst 1, 1) := by decide +kernel
theorem dX8_tear_31 : decode cX8_tear 31 = .ok (.ireturn, 1) := by decide +kernel
theorem dX8_write_0 : decode cX8_write 0 = .ok (.aload_n 0, 1) := by decide +kernel
theorem dX8_write_1 : decode cX8_write 1 = .ok (.iconst 0, 1) := by decide +kernel
theorem dX8_write_2 : decode cX8_write 2 = .ok (.putfield 137, 3) := by decide +kernel
theorem dX8_write_5 : decode cX8_write 5 = .ok (.iload_n 1, 1) := by decide +kernel
theorem dX8_write_6 : decode cX8_write 6 = .ok (.invokestatic 146, 3) := by decide +kernel
theorem dX8_write_9 : decode cX8_write 9 = .ok (.ifCond .ne 6, 3) := by decide +kernel
theorem dX8_write_12 : decode cX8_write 12 = .ok (.bipush (-2), 2) := by decide +kernel
theorem dX8_write_14 : decode cX8_write 14 = .ok (.ireturn, 1) := by decide +kernel
theorem dX8_write_15 : decode cX8_write 15 = .ok (.aload_n 0, 1) := by decide +kernel
theorem dX8_write_16 : decode cX8_write 16 = .ok (.getfield 9, 3) := by decide +kernel
theorem dX8_write_19 : decode cX8_write 19 = .ok (.iload_n 1, 1) := by decide +kernel
theorem dX8_write_20 : decode cX8_write 20 = .ok (.iaload, 1) := by decide +kernel
theorem dX8_write_21 : decode cX8_write 21 = .ok (.ifCond .ge 6, 3) := by decide +kernel
theorem dX8_write_24 : decode cX8_write 24 = .ok (.bipush (-5), 2) := by decide +kernel
theorem dX8_write_26 : decode cX8_write 26 = .ok (.ireturn, 1) := by decide +kernel
theorem dX8_write_27 : decode cX8_write 27 = .ok (.iload_n 2, 1) := by decide +kernel
theorem dX8_write_28 : decode cX8_write 28 = .ok (.i2l, 1) := by decide +kernel
theorem dX8_write_29 : decode cX8_write 29 = .ok (.lconst 0, 1) := by decide +kernel
theorem dX8_write_30 : decode cX8_write 30 = .ok (.aload_n 0, 1) := by decide +kernel
theorem dX8_write_31 : decode cX8_write 31 = .ok (.getfield 13, 3) := by decide +kernel
theorem dX8_write_34 : decode cX8_write 34 = .ok (.iload_n 1, 1) := by decide +kernel
theorem dX8_write_35 : decode cX8_write 35 = .ok (.iaload, 1) := by decide +kernel
theorem dX8_write_36 : decode cX8_write 36 = .ok (.iconst 1, 1) := by decide +kernel
theorem dX8_write_37 : decode cX8_write 37 = .ok (.isub, 1) := by decide +kernel
theorem dX8_write_38 : decode cX8_write 38 = .ok (.i2l, 1) := by decide +kernel
theorem dX8_write_39 : decode cX8_write 39 = .ok (.invokestatic 142, 3) := by decide +kernel
theorem dX8_write_42 : decode cX8_write 42 = .ok (.ifCond .ne 6, 3) := by decide +kernel
theorem dX8_write_45 : decode cX8_write 45 = .ok (.bipush (-6), 2) := by decide +kernel
theorem dX8_write_47 : decode cX8_write 47 = .ok (.ireturn, 1) := by decide +kernel
theorem dX8_write_48 : decode cX8_write 48 = .ok (.aload_n 0, 1) := by decide +kernel
theorem dX8_write_49 : decode cX8_write 49 = .ok (.getfield 16, 3) := by decide +kernel
theorem dX8_write_52 : decode cX8_write 52 = .ok (.bipush 60, 2) := by decide +kernel
theorem dX8_write_54 : decode cX8_write 54 = .ok (.iload_n 1, 1) := by decide +kernel
theorem dX8_write_55 : decode cX8_write 55 = .ok (.imul, 1) := by decide +kernel
theorem dX8_write_56 : decode cX8_write 56 = .ok (.iload_n 2, 1) := by decide +kernel
theorem dX8_write_57 : decode cX8_write 57 = .ok (.iadd, 1) := by decide +kernel
theorem dX8_write_58 : decode cX8_write 58 = .ok (.aload_n 0, 1) := by decide +kernel
theorem dX8_write_59 : decode cX8_write 59 = .ok (.getfield 9, 3) := by decide +kernel
theorem dX8_write_62 : decode cX8_write 62 = .ok (.iload_n 1, 1) := by decide +kernel
theorem dX8_write_63 : decode cX8_write 63 = .ok (.iaload, 1) := by decide +kernel
theorem dX8_write_64 : decode cX8_write 64 = .ok (.lload_n 3, 1) := by decide +kernel
theorem dX8_write_65 : decode cX8_write 65 = .ok (.invokestatic 150, 3) := by decide +kernel
theorem dX8_write_68 : decode cX8_write 68 = .ok (.lastore, 1) := by decide +kernel
theorem dX8_write_69 : decode cX8_write 69 = .ok (.iconst 0, 1) := by decide +kernel
theorem dX8_write_70 : decode cX8_write 70 = .ok (.ireturn, 1) := by decide +kernel
theorem dX8_paste_0 : decode cX8_paste 0 = .ok (.aload_n 0, 1) := by decide +kernel
theorem dX8_paste_1 : decode cX8_paste 1 = .ok (.iconst 0, 1) := by decide +kernel
theorem dX8_paste_2 : decode cX8_paste 2 = .ok (.putfield 137, 3) := by decide +kernel
theorem dX8_paste_5 : decode cX8_paste 5 = .ok (.iload_n 1, 1) := by decide +kernel
theorem dX8_paste_6 : decode cX8_paste 6 = .ok (.invokestatic 146, 3) := by decide +kernel
theorem dX8_paste_9 : decode cX8_paste 9 = .ok (.ifCond .eq 10, 3) := by decide +kernel
theorem dX8_paste_12 : decode cX8_paste 12 = .ok (.iload_n 3, 1) := by decide +kernel
theorem dX8_paste_13 : decode cX8_paste 13 = .ok (.invokestatic 146, 3) := by decide +kernel
theorem dX8_paste_16 : decode cX8_paste 16 = .ok (.ifCond .ne 6, 3) := by decide +kernel
theorem dX8_paste_19 : decode cX8_paste 19 = .ok (.bipush (-2), 2) := by decide +kernel
theorem dX8_paste_21 : decode cX8_paste 21 = .ok (.ireturn, 1) := by decide +kernel
theorem dX8_paste_22 : decode cX8_paste 22 = .ok (.aload_n 0, 1) := by decide +kernel
theorem dX8_paste_23 : decode cX8_paste 23 = .ok (.getfield 9, 3) := by decide +kernel
theorem dX8_paste_26 : decode cX8_paste 26 = .ok (.iload_n 1, 1) := by decide +kernel
theorem dX8_paste_27 : decode cX8_paste 27 = .ok (.iaload, 1) := by decide +kernel
theorem dX8_paste_28 : decode cX8_paste 28 = .ok (.ifCond .lt 12, 3) := by decide +kernel
theorem dX8_paste_31 : decode cX8_paste 31 = .ok (.aload_n 0, 1) := by decide +kernel
theorem dX8_paste_32 : decode cX8_paste 32 = .ok (.getfield 9, 3) := by decide +kernel
theorem dX8_paste_35 : decode cX8_paste 35 = .ok (.iload_n 3, 1) := by decide +kernel
theorem dX8_paste_36 : decode cX8_paste 36 = .ok (.iaload, 1) := by decide +kernel
theorem dX8_paste_37 : decode cX8_paste 37 = .ok (.ifCond .ge 6, 3) := by decide +kernel
theorem dX8_paste_40 : decode cX8_paste 40 = .ok (.bipush (-5), 2) := by decide +kernel
theorem dX8_paste_42 : decode cX8_paste 42 = .ok (.ireturn, 1) := by decide +kernel
theorem dX8_paste_43 : decode cX8_paste 43 = .ok (.aload_n 0, 1) := by decide +kernel
theorem dX8_paste_44 : decode cX8_paste 44 = .ok (.getfield 9, 3) := by decide +kernel
theorem dX8_paste_47 : decode cX8_paste 47 = .ok (.iload_n 1, 1) := by decide +kernel
theorem dX8_paste_48 : decode cX8_paste 48 = .ok (.iaload, 1) := by decide +kernel
theorem dX8_paste_49 : decode cX8_paste 49 = .ok (.aload_n 0, 1) := by decide +kernel
theorem dX8_paste_50 : decode cX8_paste 50 = .ok (.getfield 9, 3) := by decide +kernel
theorem dX8_paste_53 : decode cX8_paste 53 = .ok (.iload_n 3, 1) := by decide +kernel
theorem dX8_paste_54 : decode cX8_paste 54 = .ok (.iaload, 1) := by decide +kernel
theorem dX8_paste_55 : decode cX8_paste 55 = .ok (.if_icmp .eq 6, 3) := by decide +kernel
theorem dX8_paste_58 : decode cX8_paste 58 = .ok (.bipush (-7), 2) := by decide +kernel
theorem dX8_paste_60 : decode cX8_paste 60 = .ok (.ireturn, 1) := by decide +kernel
theorem dX8_paste_61 : decode cX8_paste 61 = .ok (.iload_n 2, 1) := by decide +kernel
theorem dX8_paste_62 : decode cX8_paste 62 = .ok (.ifCond .lt 48, 3) := by decide +kernel
theorem dX8_paste_65 : decode cX8_paste 65 = .ok (.iload 4, 2) := by decide +kernel
theorem dX8_paste_67 : decode cX8_paste 67 = .ok (.ifCond .lt 43, 3) := by decide +kernel
theorem dX8_paste_70 : decode cX8_paste 70 = .ok (.iload 5, 2) := by decide +kernel
theorem dX8_paste_72 : decode cX8_paste 72 = .ok (.ifCond .lt 38, 3) := by decide +kernel
theorem dX8_paste_75 : decode cX8_paste 75 = .ok (.iload_n 2, 1) := by decide +kernel
theorem dX8_paste_76 : decode cX8_paste 76 = .ok (.i2l, 1) := by decide +kernel
theorem dX8_paste_77 : decode cX8_paste 77 = .ok (.iload 5, 2) := by decide +kernel
theorem dX8_paste_79 : decode cX8_paste 79 = .ok (.i2l, 1) := by decide +kernel
theorem dX8_paste_80 : decode cX8_paste 80 = .ok (.ladd, 1) := by decide +kernel
theorem dX8_paste_81 : decode cX8_paste 81 = .ok (.aload_n 0, 1) := by decide +kernel
theorem dX8_paste_82 : decode cX8_paste 82 = .ok (.getfield 13, 3) := by decide +kernel
theorem dX8_paste_85 : decode cX8_paste 85 = .ok (.iload_n 1, 1) := by decide +kernel
theorem dX8_paste_86 : decode cX8_paste 86 = .ok (.iaload, 1) := by decide +kernel
theorem dX8_paste_87 : decode cX8_paste 87 = .ok (.i2l, 1) := by decide +kernel
theorem dX8_paste_88 : decode cX8_paste 88 = .ok (.lcmp, 1) := by decide +kernel
theorem dX8_paste_89 : decode cX8_paste 89 = .ok (.ifCond .gt 21, 3) := by decide +kernel
theorem dX8_paste_92 : decode cX8_paste 92 = .ok (.iload 4, 2) := by decide +kernel
theorem dX8_paste_94 : decode cX8_paste 94 = .ok (.i2l, 1) := by decide +kernel
theorem dX8_paste_95 : decode cX8_paste 95 = .ok (.iload 5, 2) := by decide +kernel
theorem dX8_paste_97 : decode cX8_paste 97 = .ok (.i2l, 1) := by decide +kernel
theorem dX8_paste_98 : decode cX8_paste 98 = .ok (.ladd, 1) := by decide +kernel
theorem dX8_paste_99 : decode cX8_paste 99 = .ok (.aload_n 0, 1) := by decide +kernel
theorem dX8_paste_100 : decode cX8_paste 100 = .ok (.getfield 13, 3) := by decide +kernel
theorem dX8_paste_103 : decode cX8_paste 103 = .ok (.iload_n 3, 1) := by decide +kernel
theorem dX8_paste_104 : decode cX8_paste 104 = .ok (.iaload, 1) := by decide +kernel
theorem dX8_paste_105 : decode cX8_paste 105 = .ok (.i2l, 1) := by decide +kernel
theorem dX8_paste_106 : decode cX8_paste 106 = .ok (.lcmp, 1) := by decide +kernel
theorem dX8_paste_107 : decode cX8_paste 107 = .ok (.ifCond .le 6, 3) := by decide +kernel
theorem dX8_paste_110 : decode cX8_paste 110 = .ok (.bipush (-6), 2) := by decide +kernel
theorem dX8_paste_112 : decode cX8_paste 112 = .ok (.ireturn, 1) := by decide +kernel
theorem dX8_paste_113 : decode cX8_paste 113 = .ok (.iconst 0, 1) := by decide +kernel
theorem dX8_paste_114 : decode cX8_paste 114 = .ok (.istore 6, 2) := by decide +kernel
theorem dX8_paste_116 : decode cX8_paste 116 = .ok (.iload 6, 2) := by decide +kernel
theorem dX8_paste_118 : decode cX8_paste 118 = .ok (.iload 5, 2) := by decide +kernel
theorem dX8_paste_120 : decode cX8_paste 120 = .ok (.if_icmp .ge 30, 3) := by decide +kernel
theorem dX8_paste_123 : decode cX8_paste 123 = .ok (.aload_n 0, 1) := by decide +kernel
theorem dX8_paste_124 : decode cX8_paste 124 = .ok (.getfield 20, 3) := by decide +kernel
theorem dX8_paste_127 : decode cX8_paste 127 = .ok (.iload 6, 2) := by decide +kernel
theorem dX8_paste_129 : decode cX8_paste 129 = .ok (.aload_n 0, 1) := by decide +kernel
theorem dX8_paste_130 : decode cX8_paste 130 = .ok (.getfield 16, 3) := by decide +kernel
theorem dX8_paste_133 : decode cX8_paste 133 = .ok (.bipush 60, 2) := by decide +kernel
theorem dX8_paste_135 : decode cX8_paste 135 = .ok (.iload_n 1, 1) := by decide +kernel
theorem dX8_paste_136 : decode cX8_paste 136 = .ok (.imul, 1) := by decide +kernel
theorem dX8_paste_137 : decode cX8_paste 137 = .ok (.iload_n 2, 1) := by decide +kernel
theorem dX8_paste_138 : decode cX8_paste 138 = .ok (.iadd, 1) := by decide +kernel
theorem dX8_paste_139 : decode cX8_paste 139 = .ok (.iload 6, 2) := by decide +kernel
theorem dX8_paste_141 : decode cX8_paste 141 = .ok (.iadd, 1) := by decide +kernel
theorem dX8_paste_142 : decode cX8_paste 142 = .ok (.laload, 1) := by decide +kernel
theorem dX8_paste_143 : decode cX8_paste 143 = .ok (.lastore, 1) := by decide +kernel
theorem dX8_paste_144 : decode cX8_paste 144 = .ok (.iinc 6 1, 3) := by decide +kernel
theorem dX8_paste_147 : decode cX8_paste 147 = .ok (.goto (-31), 3) := by decide +kernel
theorem dX8_paste_150 : decode cX8_paste 150 = .ok (.iconst 0, 1) := by decide +kernel
theorem dX8_paste_151 : decode cX8_paste 151 = .ok (.istore 6, 2) := by decide +kernel
theorem dX8_paste_153 : decode cX8_paste 153 = .ok (.iload 6, 2) := by decide +kernel
theorem dX8_paste_155 : decode cX8_paste 155 = .ok (.iload 5, 2) := by decide +kernel
theorem dX8_paste_157 : decode cX8_paste 157 = .ok (.if_icmp .ge 31, 3) := by decide +kernel
theorem dX8_paste_160 : decode cX8_paste 160 = .ok (.aload_n 0, 1) := by decide +kernel
theorem dX8_paste_161 : decode cX8_paste 161 = .ok (.getfield 16, 3) := by decide +kernel
theorem dX8_paste_164 : decode cX8_paste 164 = .ok (.bipush 60, 2) := by decide +kernel
theorem dX8_paste_166 : decode cX8_paste 166 = .ok (.iload_n 3, 1) := by decide +kernel
theorem dX8_paste_167 : decode cX8_paste 167 = .ok (.imul, 1) := by decide +kernel
theorem dX8_paste_168 : decode cX8_paste 168 = .ok (.iload 4, 2) := by decide +kernel
theorem dX8_paste_170 : decode cX8_paste 170 = .ok (.iadd, 1) := by decide +kernel
theorem dX8_paste_171 : decode cX8_paste 171 = .ok (.iload 6, 2) := by decide +kernel
theorem dX8_paste_173 : decode cX8_paste 173 = .ok (.iadd, 1) := by decide +kernel
theorem dX8_paste_174 : decode cX8_paste 174 = .ok (.aload_n 0, 1) := by decide +kernel
theorem dX8_paste_175 : decode cX8_paste 175 = .ok (.getfield 20, 3) := by decide +kernel
theorem dX8_paste_178 : decode cX8_paste 178 = .ok (.iload 6, 2) := by decide +kernel
theorem dX8_paste_180 : decode cX8_paste 180 = .ok (.laload, 1) := by decide +kernel
theorem dX8_paste_181 : decode cX8_paste 181 = .ok (.lastore, 1) := by decide +kernel
theorem dX8_paste_182 : decode cX8_paste 182 = .ok (.iinc 6 1, 3) := by decide +kernel
theorem dX8_paste_185 : decode cX8_paste 185 = .ok (.goto (-32), 3) := by decide +kernel
theorem dX8_paste_188 : decode cX8_paste 188 = .ok (.iconst 0, 1) := by decide +kernel
theorem dX8_paste_189 : decode cX8_paste 189 = .ok (.ireturn, 1) := by decide +kernel
theorem dX8_refuses_0 : decode cX8_refuses 0 = .ok (.iload_n 1, 1) := by decide +kernel
theorem dX8_refuses_1 : decode cX8_refuses 1 = .ok (.invokestatic 146, 3) := by decide +kernel
theorem dX8_refuses_4 : decode cX8_refuses 4 = .ok (.ifCond .ne 6, 3) := by decide +kernel
theorem dX8_refuses_7 : decode cX8_refuses 7 = .ok (.bipush (-2), 2) := by decide +kernel
theorem dX8_refuses_9 : decode cX8_refuses 9 = .ok (.ireturn, 1) := by decide +kernel
theorem dX8_refuses_10 : decode cX8_refuses 10 = .ok (.aload_n 0, 1) := by decide +kernel
theorem dX8_refuses_11 : decode cX8_refuses 11 = .ok (.getfield 9, 3) := by decide +kernel
theorem dX8_refuses_14 : decode cX8_refuses 14 = .ok (.iload_n 1, 1) := by decide +kernel
theorem dX8_refuses_15 : decode cX8_refuses 15 = .ok (.iaload, 1) := by decide +kernel
theorem dX8_refuses_16 : decode cX8_refuses 16 = .ok (.ifCond .ge 6, 3) := by decide +kernel
theorem dX8_refuses_19 : decode cX8_refuses 19 = .ok (.bipush (-5), 2) := by decide +kernel
theorem dX8_refuses_21 : decode cX8_refuses 21 = .ok (.ireturn, 1) := by decide +kernel
theorem dX8_refuses_22 : decode cX8_refuses 22 = .ok (.aload_n 0, 1) := by decide +kernel
theorem dX8_refuses_23 : decode cX8_refuses 23 = .ok (.getfield 13, 3) := by decide +kernel
theorem dX8_refuses_26 : decode cX8_refuses 26 = .ok (.iload_n 1, 1) := by decide +kernel
theorem dX8_refuses_27 : decode cX8_refuses 27 = .ok (.iaload, 1) := by decide +kernel
theorem dX8_refuses_28 : decode cX8_refuses 28 = .ok (.aload_n 0, 1) := by decide +kernel
theorem dX8_refuses_29 : decode cX8_refuses 29 = .ok (.getfield 154, 3) := by decide +kernel
theorem dX8_refuses_32 : decode cX8_refuses 32 = .ok (.if_icmp .ge 6, 3) := by decide +kernel
theorem dX8_refuses_35 : decode cX8_refuses 35 = .ok (.bipush (-6), 2) := by decide +kernel
theorem dX8_refuses_37 : decode cX8_refuses 37 = .ok (.ireturn, 1) := by decide +kernel
theorem dX8_refuses_38 : decode cX8_refuses 38 = .ok (.iconst 0, 1) := by decide +kernel
theorem dX8_refuses_39 : decode cX8_refuses 39 = .ok (.istore 4, 2) := by decide +kernel
theorem dX8_refuses_41 : decode cX8_refuses 41 = .ok (.iload 4, 2) := by decide +kernel
theorem dX8_refuses_43 : decode cX8_refuses 43 = .ok (.aload_n 0, 1) := by decide +kernel
theorem dX8_refuses_44 : decode cX8_refuses 44 = .ok (.getfield 154, 3) := by decide +kernel
theorem dX8_refuses_47 : decode cX8_refuses 47 = .ok (.if_icmp .ge 32, 3) := by decide +kernel
theorem dX8_refuses_50 : decode cX8_refuses 50 = .ok (.aload_n 0, 1) := by decide +kernel
theorem dX8_refuses_51 : decode cX8_refuses 51 = .ok (.getfield 16, 3) := by decide +kernel
theorem dX8_refuses_54 : decode cX8_refuses 54 = .ok (.bipush 60, 2) := by decide +kernel
theorem dX8_refuses_56 : decode cX8_refuses 56 = .ok (.iload_n 1, 1) := by decide +kernel
theorem dX8_refuses_57 : decode cX8_refuses 57 = .ok (.imul, 1) := by decide +kernel
theorem dX8_refuses_58 : decode cX8_refuses 58 = .ok (.iload 4, 2) := by decide +kernel
theorem dX8_refuses_60 : decode cX8_refuses 60 = .ok (.iadd, 1) := by decide +kernel
theorem dX8_refuses_61 : decode cX8_refuses 61 = .ok (.laload, 1) := by decide +kernel
theorem dX8_refuses_62 : decode cX8_refuses 62 = .ok (.lconst 0, 1) := by decide +kernel
theorem dX8_refuses_63 : decode cX8_refuses 63 = .ok (.lload_n 2, 1) := by decide +kernel
theorem dX8_refuses_64 : decode cX8_refuses 64 = .ok (.invokestatic 142, 3) := by decide +kernel
theorem dX8_refuses_67 : decode cX8_refuses 67 = .ok (.ifCond .ne 6, 3) := by decide +kernel
theorem dX8_refuses_70 : decode cX8_refuses 70 = .ok (.bipush (-4), 2) := by decide +kernel
theorem dX8_refuses_72 : decode cX8_refuses 72 = .ok (.ireturn, 1) := by decide +kernel
theorem dX8_refuses_73 : decode cX8_refuses 73 = .ok (.iinc 4 1, 3) := by decide +kernel
theorem dX8_refuses_76 : decode cX8_refuses 76 = .ok (.goto (-35), 3) := by decide +kernel
theorem dX8_refuses_79 : decode cX8_refuses 79 = .ok (.iconst 0, 1) := by decide +kernel
theorem dX8_refuses_80 : decode cX8_refuses 80 = .ok (.ireturn, 1) := by decide +kernel
theorem dX8_terms_0 : decode cX8_terms 0 = .ok (.aload_n 0, 1) := by decide +kernel
theorem dX8_terms_1 : decode cX8_terms 1 = .ok (.iconst 0, 1) := by decide +kernel
theorem dX8_terms_2 : decode cX8_terms 2 = .ok (.putfield 137, 3) := by decide +kernel
theorem dX8_terms_5 : decode cX8_terms 5 = .ok (.iload_n 1, 1) := by decide +kernel
theorem dX8_terms_6 : decode cX8_terms 6 = .ok (.i2l, 1) := by decide +kernel
theorem dX8_terms_7 : decode cX8_terms 7 = .ok (.lconst 1, 1) := by decide +kernel
theorem dX8_terms_8 : decode cX8_terms 8 = .ok (.ldc2_w 157, 3) := by decide +kernel
theorem dX8_terms_11 : decode cX8_terms 11 = .ok (.invokestatic 142, 3) := by decide +kernel
theorem dX8_terms_14 : decode cX8_terms 14 = .ok (.ifCond .eq 40, 3) := by decide +kernel
theorem dX8_terms_17 : decode cX8_terms 17 = .ok (.iload_n 2, 1) := by decide +kernel
theorem dX8_terms_18 : decode cX8_terms 18 = .ok (.i2l, 1) := by decide +kernel
theorem dX8_terms_19 : decode cX8_terms 19 = .ok (.lconst 1, 1) := by decide +kernel
theorem dX8_terms_20 : decode cX8_terms 20 = .ok (.ldc2_w 159, 3) := by decide +kernel
theorem dX8_terms_23 : decode cX8_terms 23 = .ok (.invokestatic 142, 3) := by decide +kernel
theorem dX8_terms_26 : decode cX8_terms 26 = .ok (.ifCond .eq 28, 3) := by decide +kernel
theorem dX8_terms_29 : decode cX8_terms 29 = .ok (.iload_n 3, 1) := by decide +kernel
theorem dX8_terms_30 : decode cX8_terms 30 = .ok (.i2l, 1) := by decide +kernel
theorem dX8_terms_31 : decode cX8_terms 31 = .ok (.lconst 1, 1) := by decide +kernel
theorem dX8_terms_32 : decode cX8_terms 32 = .ok (.ldc2_w 161, 3) := by decide +kernel
theorem dX8_terms_35 : decode cX8_terms 35 = .ok (.invokestatic 142, 3) := by decide +kernel
theorem dX8_terms_38 : decode cX8_terms 38 = .ok (.ifCond .eq 16, 3) := by decide +kernel
theorem dX8_terms_41 : decode cX8_terms 41 = .ok (.iload 4, 2) := by decide +kernel
theorem dX8_terms_43 : decode cX8_terms 43 = .ok (.i2l, 1) := by decide +kernel
theorem dX8_terms_44 : decode cX8_terms 44 = .ok (.lconst 0, 1) := by decide +kernel
theorem dX8_terms_45 : decode cX8_terms 45 = .ok (.ldc2_w 163, 3) := by decide +kernel
theorem dX8_terms_48 : decode cX8_terms 48 = .ok (.invokestatic 142, 3) := by decide +kernel
theorem dX8_terms_51 : decode cX8_terms 51 = .ok (.ifCond .ne 6, 3) := by decide +kernel
theorem dX8_terms_54 : decode cX8_terms 54 = .ok (.bipush (-2), 2) := by decide +kernel
theorem dX8_terms_56 : decode cX8_terms 56 = .ok (.ireturn, 1) := by decide +kernel
theorem dX8_terms_57 : decode cX8_terms 57 = .ok (.aload_n 0, 1) := by decide +kernel
theorem dX8_terms_58 : decode cX8_terms 58 = .ok (.iload_n 1, 1) := by decide +kernel
theorem dX8_terms_59 : decode cX8_terms 59 = .ok (.putfield 23, 3) := by decide +kernel
theorem dX8_terms_62 : decode cX8_terms 62 = .ok (.aload_n 0, 1) := by decide +kernel
theorem dX8_terms_63 : decode cX8_terms 63 = .ok (.iload_n 2, 1) := by decide +kernel
end
section
theorem dX8_terms_64 : decode cX8_terms 64 = .ok (.putfield 27, 3) := by decide +kernel
theorem dX8_terms_67 : decode cX8_terms 67 = .ok (.aload_n 0, 1) := by decide +kernel
theorem dX8_terms_68 : decode cX8_terms 68 = .ok (.iload_n 3, 1) := by decide +kernel
theorem dX8_terms_69 : decode cX8_terms 69 = .ok (.putfield 30, 3) := by decide +kernel
theorem dX8_terms_72 : decode cX8_terms 72 = .ok (.aload_n 0, 1) := by decide +kernel
theorem dX8_terms_73 : decode cX8_terms 73 = .ok (.iload 4, 2) := by decide +kernel
theorem dX8_terms_75 : decode cX8_terms 75 = .ok (.putfield 33, 3) := by decide +kernel
theorem dX8_terms_78 : decode cX8_terms 78 = .ok (.iconst 0, 1) := by decide +kernel
theorem dX8_terms_79 : decode cX8_terms 79 = .ok (.ireturn, 1) := by decide +kernel
theorem dX8_cell_0 : decode cX8_cell 0 = .ok (.aload_n 0, 1) := by decide +kernel
theorem dX8_cell_1 : decode cX8_cell 1 = .ok (.iconst 0, 1) := by decide +kernel
theorem dX8_cell_2 : decode cX8_cell 2 = .ok (.putfield 137, 3) := by decide +kernel
theorem dX8_cell_5 : decode cX8_cell 5 = .ok (.iload_n 1, 1) := by decide +kernel
theorem dX8_cell_6 : decode cX8_cell 6 = .ok (.i2l, 1) := by decide +kernel
theorem dX8_cell_7 : decode cX8_cell 7 = .ok (.lconst 1, 1) := by decide +kernel
theorem dX8_cell_8 : decode cX8_cell 8 = .ok (.ldc2_w 165, 3) := by decide +kernel
theorem dX8_cell_11 : decode cX8_cell 11 = .ok (.invokestatic 142, 3) := by decide +kernel
theorem dX8_cell_14 : decode cX8_cell 14 = .ok (.ifCond .eq 40, 3) := by decide +kernel
theorem dX8_cell_17 : decode cX8_cell 17 = .ok (.iload_n 2, 1) := by decide +kernel
theorem dX8_cell_18 : decode cX8_cell 18 = .ok (.i2l, 1) := by decide +kernel
theorem dX8_cell_19 : decode cX8_cell 19 = .ok (.lconst 1, 1) := by decide +kernel
theorem dX8_cell_20 : decode cX8_cell 20 = .ok (.ldc2_w 159, 3) := by decide +kernel
theorem dX8_cell_23 : decode cX8_cell 23 = .ok (.invokestatic 142, 3) := by decide +kernel
theorem dX8_cell_26 : decode cX8_cell 26 = .ok (.ifCond .eq 28, 3) := by decide +kernel
theorem dX8_cell_29 : decode cX8_cell 29 = .ok (.iload_n 3, 1) := by decide +kernel
theorem dX8_cell_30 : decode cX8_cell 30 = .ok (.i2l, 1) := by decide +kernel
theorem dX8_cell_31 : decode cX8_cell 31 = .ok (.lconst 1, 1) := by decide +kernel
theorem dX8_cell_32 : decode cX8_cell 32 = .ok (.ldc2_w 163, 3) := by decide +kernel
theorem dX8_cell_35 : decode cX8_cell 35 = .ok (.invokestatic 142, 3) := by decide +kernel
theorem dX8_cell_38 : decode cX8_cell 38 = .ok (.ifCond .eq 16, 3) := by decide +kernel
theorem dX8_cell_41 : decode cX8_cell 41 = .ok (.iload 4, 2) := by decide +kernel
theorem dX8_cell_43 : decode cX8_cell 43 = .ok (.i2l, 1) := by decide +kernel
theorem dX8_cell_44 : decode cX8_cell 44 = .ok (.lconst 0, 1) := by decide +kernel
theorem dX8_cell_45 : decode cX8_cell 45 = .ok (.ldc2_w 167, 3) := by decide +kernel
theorem dX8_cell_48 : decode cX8_cell 48 = .ok (.invokestatic 142, 3) := by decide +kernel
theorem dX8_cell_51 : decode cX8_cell 51 = .ok (.ifCond .ne 6, 3) := by decide +kernel
theorem dX8_cell_54 : decode cX8_cell 54 = .ok (.bipush (-2), 2) := by decide +kernel
theorem dX8_cell_56 : decode cX8_cell 56 = .ok (.ireturn, 1) := by decide +kernel
theorem dX8_cell_57 : decode cX8_cell 57 = .ok (.aload_n 0, 1) := by decide +kernel
theorem dX8_cell_58 : decode cX8_cell 58 = .ok (.getfield 154, 3) := by decide +kernel
theorem dX8_cell_61 : decode cX8_cell 61 = .ok (.bipush 10, 2) := by decide +kernel
theorem dX8_cell_63 : decode cX8_cell 63 = .ok (.if_icmp .ne 6, 3) := by decide +kernel
theorem dX8_cell_66 : decode cX8_cell 66 = .ok (.bipush (-3), 2) := by decide +kernel
theorem dX8_cell_68 : decode cX8_cell 68 = .ok (.ireturn, 1) := by decide +kernel
theorem dX8_cell_69 : decode cX8_cell 69 = .ok (.aload_n 0, 1) := by decide +kernel
theorem dX8_cell_70 : decode cX8_cell 70 = .ok (.getfield 39, 3) := by decide +kernel
theorem dX8_cell_73 : decode cX8_cell 73 = .ok (.aload_n 0, 1) := by decide +kernel
theorem dX8_cell_74 : decode cX8_cell 74 = .ok (.getfield 154, 3) := by decide +kernel
theorem dX8_cell_77 : decode cX8_cell 77 = .ok (.iload_n 1, 1) := by decide +kernel
theorem dX8_cell_78 : decode cX8_cell 78 = .ok (.iastore, 1) := by decide +kernel
theorem dX8_cell_79 : decode cX8_cell 79 = .ok (.aload_n 0, 1) := by decide +kernel
theorem dX8_cell_80 : decode cX8_cell 80 = .ok (.getfield 42, 3) := by decide +kernel
theorem dX8_cell_83 : decode cX8_cell 83 = .ok (.aload_n 0, 1) := by decide +kernel
theorem dX8_cell_84 : decode cX8_cell 84 = .ok (.getfield 154, 3) := by decide +kernel
theorem dX8_cell_87 : decode cX8_cell 87 = .ok (.iload_n 2, 1) := by decide +kernel
theorem dX8_cell_88 : decode cX8_cell 88 = .ok (.iastore, 1) := by decide +kernel
theorem dX8_cell_89 : decode cX8_cell 89 = .ok (.aload_n 0, 1) := by decide +kernel
theorem dX8_cell_90 : decode cX8_cell 90 = .ok (.getfield 45, 3) := by decide +kernel
theorem dX8_cell_93 : decode cX8_cell 93 = .ok (.aload_n 0, 1) := by decide +kernel
theorem dX8_cell_94 : decode cX8_cell 94 = .ok (.getfield 154, 3) := by decide +kernel
theorem dX8_cell_97 : decode cX8_cell 97 = .ok (.iload_n 3, 1) := by decide +kernel
theorem dX8_cell_98 : decode cX8_cell 98 = .ok (.iastore, 1) := by decide +kernel
theorem dX8_cell_99 : decode cX8_cell 99 = .ok (.aload_n 0, 1) := by decide +kernel
theorem dX8_cell_100 : decode cX8_cell 100 = .ok (.getfield 48, 3) := by decide +kernel
theorem dX8_cell_103 : decode cX8_cell 103 = .ok (.aload_n 0, 1) := by decide +kernel
theorem dX8_cell_104 : decode cX8_cell 104 = .ok (.getfield 154, 3) := by decide +kernel
theorem dX8_cell_107 : decode cX8_cell 107 = .ok (.iload 4, 2) := by decide +kernel
theorem dX8_cell_109 : decode cX8_cell 109 = .ok (.iastore, 1) := by decide +kernel
theorem dX8_cell_110 : decode cX8_cell 110 = .ok (.aload_n 0, 1) := by decide +kernel
theorem dX8_cell_111 : decode cX8_cell 111 = .ok (.dup, 1) := by decide +kernel
theorem dX8_cell_112 : decode cX8_cell 112 = .ok (.getfield 154, 3) := by decide +kernel
theorem dX8_cell_115 : decode cX8_cell 115 = .ok (.iconst 1, 1) := by decide +kernel
theorem dX8_cell_116 : decode cX8_cell 116 = .ok (.iadd, 1) := by decide +kernel
theorem dX8_cell_117 : decode cX8_cell 117 = .ok (.putfield 154, 3) := by decide +kernel
theorem dX8_cell_120 : decode cX8_cell 120 = .ok (.aload_n 0, 1) := by decide +kernel
theorem dX8_cell_121 : decode cX8_cell 121 = .ok (.getfield 154, 3) := by decide +kernel
theorem dX8_cell_124 : decode cX8_cell 124 = .ok (.iconst 1, 1) := by decide +kernel
theorem dX8_cell_125 : decode cX8_cell 125 = .ok (.isub, 1) := by decide +kernel
theorem dX8_cell_126 : decode cX8_cell 126 = .ok (.ireturn, 1) := by decide +kernel
theorem dX8_isCell_0 : decode cX8_isCell 0 = .ok (.iload_n 1, 1) := by decide +kernel
theorem dX8_isCell_1 : decode cX8_isCell 1 = .ok (.i2l, 1) := by decide +kernel
theorem dX8_isCell_2 : decode cX8_isCell 2 = .ok (.lconst 0, 1) := by decide +kernel
theorem dX8_isCell_3 : decode cX8_isCell 3 = .ok (.aload_n 0, 1) := by decide +kernel
theorem dX8_isCell_4 : decode cX8_isCell 4 = .ok (.getfield 154, 3) := by decide +kernel
theorem dX8_isCell_7 : decode cX8_isCell 7 = .ok (.iconst 1, 1) := by decide +kernel
theorem dX8_isCell_8 : decode cX8_isCell 8 = .ok (.isub, 1) := by decide +kernel
theorem dX8_isCell_9 : decode cX8_isCell 9 = .ok (.i2l, 1) := by decide +kernel
theorem dX8_isCell_10 : decode cX8_isCell 10 = .ok (.invokestatic 142, 3) := by decide +kernel
theorem dX8_isCell_13 : decode cX8_isCell 13 = .ok (.ireturn, 1) := by decide +kernel
theorem dX8_isGate_0 : decode cX8_isGate 0 = .ok (.iload_n 0, 1) := by decide +kernel
theorem dX8_isGate_1 : decode cX8_isGate 1 = .ok (.i2l, 1) := by decide +kernel
theorem dX8_isGate_2 : decode cX8_isGate 2 = .ok (.lconst 0, 1) := by decide +kernel
theorem dX8_isGate_3 : decode cX8_isGate 3 = .ok (.ldc2_w 167, 3) := by decide +kernel
theorem dX8_isGate_6 : decode cX8_isGate 6 = .ok (.invokestatic 142, 3) := by decide +kernel
theorem dX8_isGate_9 : decode cX8_isGate 9 = .ok (.ireturn, 1) := by decide +kernel
theorem dX8_isSet_0 : decode cX8_isSet 0 = .ok (.lload_n 1, 1) := by decide +kernel
theorem dX8_isSet_1 : decode cX8_isSet 1 = .ok (.lconst 0, 1) := by decide +kernel
theorem dX8_isSet_2 : decode cX8_isSet 2 = .ok (.lconst 1, 1) := by decide +kernel
theorem dX8_isSet_3 : decode cX8_isSet 3 = .ok (.aload_n 0, 1) := by decide +kernel
theorem dX8_isSet_4 : decode cX8_isSet 4 = .ok (.getfield 154, 3) := by decide +kernel
theorem dX8_isSet_7 : decode cX8_isSet 7 = .ok (.lshl, 1) := by decide +kernel
theorem dX8_isSet_8 : decode cX8_isSet 8 = .ok (.lconst 1, 1) := by decide +kernel
theorem dX8_isSet_9 : decode cX8_isSet 9 = .ok (.lsub, 1) := by decide +kernel
theorem dX8_isSet_10 : decode cX8_isSet 10 = .ok (.invokestatic 142, 3) := by decide +kernel
theorem dX8_isSet_13 : decode cX8_isSet 13 = .ok (.ireturn, 1) := by decide +kernel
theorem dX8_forbid_0 : decode cX8_forbid 0 = .ok (.aload_n 0, 1) := by decide +kernel
theorem dX8_forbid_1 : decode cX8_forbid 1 = .ok (.iconst 0, 1) := by decide +kernel
theorem dX8_forbid_2 : decode cX8_forbid 2 = .ok (.putfield 137, 3) := by decide +kernel
theorem dX8_forbid_5 : decode cX8_forbid 5 = .ok (.aload_n 0, 1) := by decide +kernel
theorem dX8_forbid_6 : decode cX8_forbid 6 = .ok (.iload_n 1, 1) := by decide +kernel
theorem dX8_forbid_7 : decode cX8_forbid 7 = .ok (.invokevirtual 169, 3) := by decide +kernel
theorem dX8_forbid_10 : decode cX8_forbid 10 = .ok (.ifCond .eq 38, 3) := by decide +kernel
theorem dX8_forbid_13 : decode cX8_forbid 13 = .ok (.aload_n 0, 1) := by decide +kernel
theorem dX8_forbid_14 : decode cX8_forbid 14 = .ok (.iload_n 2, 1) := by decide +kernel
theorem dX8_forbid_15 : decode cX8_forbid 15 = .ok (.invokevirtual 169, 3) := by decide +kernel
theorem dX8_forbid_18 : decode cX8_forbid 18 = .ok (.ifCond .eq 30, 3) := by decide +kernel
theorem dX8_forbid_21 : decode cX8_forbid 21 = .ok (.iload_n 1, 1) := by decide +kernel
theorem dX8_forbid_22 : decode cX8_forbid 22 = .ok (.iload_n 2, 1) := by decide +kernel
theorem dX8_forbid_23 : decode cX8_forbid 23 = .ok (.if_icmp .eq 25, 3) := by decide +kernel
theorem dX8_forbid_26 : decode cX8_forbid 26 = .ok (.aload_n 0, 1) := by decide +kernel
theorem dX8_forbid_27 : decode cX8_forbid 27 = .ok (.getfield 63, 3) := by decide +kernel
theorem dX8_forbid_30 : decode cX8_forbid 30 = .ok (.iload_n 1, 1) := by decide +kernel
theorem dX8_forbid_31 : decode cX8_forbid 31 = .ok (.iaload, 1) := by decide +kernel
theorem dX8_forbid_32 : decode cX8_forbid 32 = .ok (.iload_n 2, 1) := by decide +kernel
theorem dX8_forbid_33 : decode cX8_forbid 33 = .ok (.ishr, 1) := by decide +kernel
theorem dX8_forbid_34 : decode cX8_forbid 34 = .ok (.iconst 1, 1) := by decide +kernel
theorem dX8_forbid_35 : decode cX8_forbid 35 = .ok (.iand, 1) := by decide +kernel
theorem dX8_forbid_36 : decode cX8_forbid 36 = .ok (.iload_n 3, 1) := by decide +kernel
theorem dX8_forbid_37 : decode cX8_forbid 37 = .ok (.ifCond .eq 7, 3) := by decide +kernel
theorem dX8_forbid_40 : decode cX8_forbid 40 = .ok (.iconst 1, 1) := by decide +kernel
theorem dX8_forbid_41 : decode cX8_forbid 41 = .ok (.goto 4, 3) := by decide +kernel
theorem dX8_forbid_44 : decode cX8_forbid 44 = .ok (.iconst 0, 1) := by decide +kernel
theorem dX8_forbid_45 : decode cX8_forbid 45 = .ok (.if_icmp .ne 5, 3) := by decide +kernel
theorem dX8_forbid_48 : decode cX8_forbid 48 = .ok (.iconst 0, 1) := by decide +kernel
theorem dX8_forbid_49 : decode cX8_forbid 49 = .ok (.ireturn, 1) := by decide +kernel
theorem dX8_forbid_50 : decode cX8_forbid 50 = .ok (.aload_n 0, 1) := by decide +kernel
theorem dX8_forbid_51 : decode cX8_forbid 51 = .ok (.getfield 63, 3) := by decide +kernel
theorem dX8_forbid_54 : decode cX8_forbid 54 = .ok (.iload_n 1, 1) := by decide +kernel
theorem dX8_forbid_55 : decode cX8_forbid 55 = .ok (.dup2, 1) := by decide +kernel
theorem dX8_forbid_56 : decode cX8_forbid 56 = .ok (.iaload, 1) := by decide +kernel
theorem dX8_forbid_57 : decode cX8_forbid 57 = .ok (.iconst 1, 1) := by decide +kernel
theorem dX8_forbid_58 : decode cX8_forbid 58 = .ok (.iload_n 2, 1) := by decide +kernel
theorem dX8_forbid_59 : decode cX8_forbid 59 = .ok (.ishl, 1) := by decide +kernel
theorem dX8_forbid_60 : decode cX8_forbid 60 = .ok (.ixor, 1) := by decide +kernel
theorem dX8_forbid_61 : decode cX8_forbid 61 = .ok (.iastore, 1) := by decide +kernel
theorem dX8_forbid_62 : decode cX8_forbid 62 = .ok (.aload_n 0, 1) := by decide +kernel
theorem dX8_forbid_63 : decode cX8_forbid 63 = .ok (.getfield 63, 3) := by decide +kernel
theorem dX8_forbid_66 : decode cX8_forbid 66 = .ok (.iload_n 2, 1) := by decide +kernel
theorem dX8_forbid_67 : decode cX8_forbid 67 = .ok (.dup2, 1) := by decide +kernel
theorem dX8_forbid_68 : decode cX8_forbid 68 = .ok (.iaload, 1) := by decide +kernel
theorem dX8_forbid_69 : decode cX8_forbid 69 = .ok (.iconst 1, 1) := by decide +kernel
theorem dX8_forbid_70 : decode cX8_forbid 70 = .ok (.iload_n 1, 1) := by decide +kernel
theorem dX8_forbid_71 : decode cX8_forbid 71 = .ok (.ishl, 1) := by decide +kernel
theorem dX8_forbid_72 : decode cX8_forbid 72 = .ok (.ixor, 1) := by decide +kernel
theorem dX8_forbid_73 : decode cX8_forbid 73 = .ok (.iastore, 1) := by decide +kernel
theorem dX8_forbid_74 : decode cX8_forbid 74 = .ok (.iconst 1, 1) := by decide +kernel
theorem dX8_forbid_75 : decode cX8_forbid 75 = .ok (.ireturn, 1) := by decide +kernel
theorem dX8_rain_0 : decode cX8_rain 0 = .ok (.aload_n 0, 1) := by decide +kernel
theorem dX8_rain_1 : decode cX8_rain 1 = .ok (.iconst 0, 1) := by decide +kernel
theorem dX8_rain_2 : decode cX8_rain 2 = .ok (.putfield 137, 3) := by decide +kernel
theorem dX8_rain_5 : decode cX8_rain 5 = .ok (.aload_n 0, 1) := by decide +kernel
theorem dX8_rain_6 : decode cX8_rain 6 = .ok (.iload_n 1, 1) := by decide +kernel
theorem dX8_rain_7 : decode cX8_rain 7 = .ok (.invokevirtual 169, 3) := by decide +kernel
theorem dX8_rain_10 : decode cX8_rain 10 = .ok (.ifCond .eq 15, 3) := by decide +kernel
theorem dX8_rain_13 : decode cX8_rain 13 = .ok (.iload_n 2, 1) := by decide +kernel
theorem dX8_rain_14 : decode cX8_rain 14 = .ok (.i2l, 1) := by decide +kernel
theorem dX8_rain_15 : decode cX8_rain 15 = .ok (.lconst 0, 1) := by decide +kernel
theorem dX8_rain_16 : decode cX8_rain 16 = .ok (.ldc2_w 167, 3) := by decide +kernel
theorem dX8_rain_19 : decode cX8_rain 19 = .ok (.invokestatic 142, 3) := by decide +kernel
theorem dX8_rain_22 : decode cX8_rain 22 = .ok (.ifCond .ne 6, 3) := by decide +kernel
theorem dX8_rain_25 : decode cX8_rain 25 = .ok (.bipush (-2), 2) := by decide +kernel
theorem dX8_rain_27 : decode cX8_rain 27 = .ok (.ireturn, 1) := by decide +kernel
theorem dX8_rain_28 : decode cX8_rain 28 = .ok (.aload_n 0, 1) := by decide +kernel
theorem dX8_rain_29 : decode cX8_rain 29 = .ok (.getfield 60, 3) := by decide +kernel
theorem dX8_rain_32 : decode cX8_rain 32 = .ok (.iload_n 1, 1) := by decide +kernel
theorem dX8_rain_33 : decode cX8_rain 33 = .ok (.iaload, 1) := by decide +kernel
theorem dX8_rain_34 : decode cX8_rain 34 = .ok (.istore_n 3, 1) := by decide +kernel
theorem dX8_rain_35 : decode cX8_rain 35 = .ok (.aload_n 0, 1) := by decide +kernel
theorem dX8_rain_36 : decode cX8_rain 36 = .ok (.getfield 60, 3) := by decide +kernel
theorem dX8_rain_39 : decode cX8_rain 39 = .ok (.iload_n 1, 1) := by decide +kernel
theorem dX8_rain_40 : decode cX8_rain 40 = .ok (.iload_n 2, 1) := by decide +kernel
theorem dX8_rain_41 : decode cX8_rain 41 = .ok (.iastore, 1) := by decide +kernel
theorem dX8_rain_42 : decode cX8_rain 42 = .ok (.iload_n 3, 1) := by decide +kernel
theorem dX8_rain_43 : decode cX8_rain 43 = .ok (.ireturn, 1) := by decide +kernel
theorem dX8_gateway_0 : decode cX8_gateway 0 = .ok (.aload_n 0, 1) := by decide +kernel
theorem dX8_gateway_1 : decode cX8_gateway 1 = .ok (.iconst 0, 1) := by decide +kernel
theorem dX8_gateway_2 : decode cX8_gateway 2 = .ok (.putfield 137, 3) := by decide +kernel
theorem dX8_gateway_5 : decode cX8_gateway 5 = .ok (.iload_n 1, 1) := by decide +kernel
theorem dX8_gateway_6 : decode cX8_gateway 6 = .ok (.invokestatic 172, 3) := by decide +kernel
theorem dX8_gateway_9 : decode cX8_gateway 9 = .ok (.ifCond .eq 15, 3) := by decide +kernel
theorem dX8_gateway_12 : decode cX8_gateway 12 = .ok (.iload_n 2, 1) := by decide +kernel
theorem dX8_gateway_13 : decode cX8_gateway 13 = .ok (.i2l, 1) := by decide +kernel
theorem dX8_gateway_14 : decode cX8_gateway 14 = .ok (.lconst 0, 1) := by decide +kernel
theorem dX8_gateway_15 : decode cX8_gateway 15 = .ok (.ldc2_w 175, 3) := by decide +kernel
theorem dX8_gateway_18 : decode cX8_gateway 18 = .ok (.invokestatic 142, 3) := by decide +kernel
theorem dX8_gateway_21 : decode cX8_gateway 21 = .ok (.ifCond .ne 6, 3) := by decide +kernel
theorem dX8_gateway_24 : decode cX8_gateway 24 = .ok (.bipush (-2), 2) := by decide +kernel
theorem dX8_gateway_26 : decode cX8_gateway 26 = .ok (.ireturn, 1) := by decide +kernel
theorem dX8_gateway_27 : decode cX8_gateway 27 = .ok (.aload_n 0, 1) := by decide +kernel
theorem dX8_gateway_28 : decode cX8_gateway 28 = .ok (.getfield 75, 3) := by decide +kernel
theorem dX8_gateway_31 : decode cX8_gateway 31 = .ok (.iload_n 1, 1) := by decide +kernel
theorem dX8_gateway_32 : decode cX8_gateway 32 = .ok (.iload_n 2, 1) := by decide +kernel
theorem dX8_gateway_33 : decode cX8_gateway 33 = .ok (.iastore, 1) := by decide +kernel
theorem dX8_gateway_34 : decode cX8_gateway 34 = .ok (.aload_n 0, 1) := by decide +kernel
theorem dX8_gateway_35 : decode cX8_gateway 35 = .ok (.getfield 78, 3) := by decide +kernel
theorem dX8_gateway_38 : decode cX8_gateway 38 = .ok (.iload_n 1, 1) := by decide +kernel
theorem dX8_gateway_39 : decode cX8_gateway 39 = .ok (.iload_n 3, 1) := by decide +kernel
theorem dX8_gateway_40 : decode cX8_gateway 40 = .ok (.bastore, 1) := by decide +kernel
theorem dX8_gateway_41 : decode cX8_gateway 41 = .ok (.iconst 0, 1) := by decide +kernel
theorem dX8_gateway_42 : decode cX8_gateway 42 = .ok (.ireturn, 1) := by decide +kernel
theorem dX8_swap_0 : decode cX8_swap 0 = .ok (.aload_n 0, 1) := by decide +kernel
theorem dX8_swap_1 : decode cX8_swap 1 = .ok (.iconst 0, 1) := by decide +kernel
theorem dX8_swap_2 : decode cX8_swap 2 = .ok (.putfield 137, 3) := by decide +kernel
theorem dX8_swap_5 : decode cX8_swap 5 = .ok (.aload_n 0, 1) := by decide +kernel
theorem dX8_swap_6 : decode cX8_swap 6 = .ok (.iload_n 1, 1) := by decide +kernel
theorem dX8_swap_7 : decode cX8_swap 7 = .ok (.invokevirtual 169, 3) := by decide +kernel
theorem dX8_swap_10 : decode cX8_swap 10 = .ok (.ifCond .eq 20, 3) := by decide +kernel
theorem dX8_swap_13 : decode cX8_swap 13 = .ok (.iload_n 2, 1) := by decide +kernel
theorem dX8_swap_14 : decode cX8_swap 14 = .ok (.invokestatic 172, 3) := by decide +kernel
theorem dX8_swap_17 : decode cX8_swap 17 = .ok (.ifCond .eq 13, 3) := by decide +kernel
theorem dX8_swap_20 : decode cX8_swap 20 = .ok (.aload_n 0, 1) := by decide +kernel
theorem dX8_swap_21 : decode cX8_swap 21 = .ok (.getfield 48, 3) := by decide +kernel
theorem dX8_swap_24 : decode cX8_swap 24 = .ok (.iload_n 1, 1) := by decide +kernel
theorem dX8_swap_25 : decode cX8_swap 25 = .ok (.iaload, 1) := by decide +kernel
theorem dX8_swap_26 : decode cX8_swap 26 = .ok (.iload_n 2, 1) := by decide +kernel
theorem dX8_swap_27 : decode cX8_swap 27 = .ok (.if_icmp .ne 6, 3) := by decide +kernel
theorem dX8_swap_30 : decode cX8_swap 30 = .ok (.bipush (-2), 2) := by decide +kernel
theorem dX8_swap_32 : decode cX8_swap 32 = .ok (.ireturn, 1) := by decide +kernel
theorem dX8_swap_33 : decode cX8_swap 33 = .ok (.aload_n 0, 1) := by decide +kernel
theorem dX8_swap_34 : decode cX8_swap 34 = .ok (.getfield 51, 3) := by decide +kernel
theorem dX8_swap_37 : decode cX8_swap 37 = .ok (.iload_n 1, 1) := by decide +kernel
theorem dX8_swap_38 : decode cX8_swap 38 = .ok (.iaload, 1) := by decide +kernel
theorem dX8_swap_39 : decode cX8_swap 39 = .ok (.ifCond .le 6, 3) := by decide +kernel
theorem dX8_swap_42 : decode cX8_swap 42 = .ok (.bipush (-7), 2) := by decide +kernel
theorem dX8_swap_44 : decode cX8_swap 44 = .ok (.ireturn, 1) := by decide +kernel
theorem dX8_swap_45 : decode cX8_swap 45 = .ok (.aload_n 0, 1) := by decide +kernel
theorem dX8_swap_46 : decode cX8_swap 46 = .ok (.getfield 48, 3) := by decide +kernel
theorem dX8_swap_49 : decode cX8_swap 49 = .ok (.iload_n 1, 1) := by decide +kernel
theorem dX8_swap_50 : decode cX8_swap 50 = .ok (.iload_n 2, 1) := by decide +kernel
theorem dX8_swap_51 : decode cX8_swap 51 = .ok (.iastore, 1) := by decide +kernel
theorem dX8_swap_52 : decode cX8_swap 52 = .ok (.aload_n 0, 1) := by decide +kernel
theorem dX8_swap_53 : decode cX8_swap 53 = .ok (.getfield 51, 3) := by decide +kernel
theorem dX8_swap_56 : decode cX8_swap 56 = .ok (.iload_n 1, 1) := by decide +kernel
theorem dX8_swap_57 : decode cX8_swap 57 = .ok (.aload_n 0, 1) := by decide +kernel
theorem dX8_swap_58 : decode cX8_swap 58 = .ok (.getfield 33, 3) := by decide +kernel
theorem dX8_swap_61 : decode cX8_swap 61 = .ok (.iastore, 1) := by decide +kernel
theorem dX8_swap_62 : decode cX8_swap 62 = .ok (.iconst 0, 1) := by decide +kernel
theorem dX8_swap_63 : decode cX8_swap 63 = .ok (.ireturn, 1) := by decide +kernel
theorem dX8_total_0 : decode cX8_total 0 = .ok (.iconst 0, 1) := by decide +kernel
theorem dX8_total_1 : decode cX8_total 1 = .ok (.istore_n 2, 1) := by decide +kernel
theorem dX8_total_2 : decode cX8_total 2 = .ok (.iconst 0, 1) := by decide +kernel
theorem dX8_total_3 : decode cX8_total 3 = .ok (.istore_n 3, 1) := by decide +kernel
theorem dX8_total_4 : decode cX8_total 4 = .ok (.iload_n 3, 1) := by decide +kernel
theorem dX8_total_5 : decode cX8_total 5 = .ok (.aload_n 0, 1) := by decide +kernel
theorem dX8_total_6 : decode cX8_total 6 = .ok (.getfield 154, 3) := by decide +kernel
theorem dX8_total_9 : decode cX8_total 9 = .ok (.if_icmp .ge 15, 3) := by decide +kernel
theorem dX8_total_12 : decode cX8_total 12 = .ok (.iload_n 2, 1) := by decide +kernel
theorem dX8_total_13 : decode cX8_total 13 = .ok (.aload_n 1, 1) := by decide +kernel
theorem dX8_total_14 : decode cX8_total 14 = .ok (.iload_n 3, 1) := by decide +kernel
theorem dX8_total_15 : decode cX8_total 15 = .ok (.iaload, 1) := by decide +kernel
theorem dX8_total_16 : decode cX8_total 16 = .ok (.iadd, 1) := by decide +kernel
theorem dX8_total_17 : decode cX8_total 17 = .ok (.istore_n 2, 1) := by decide +kernel
theorem dX8_total_18 : decode cX8_total 18 = .ok (.iinc 3 1, 3) := by decide +kernel
theorem dX8_total_21 : decode cX8_total 21 = .ok (.goto (-17), 3) := by decide +kernel
theorem dX8_total_24 : decode cX8_total 24 = .ok (.iload_n 2, 1) := by decide +kernel
theorem dX8_total_25 : decode cX8_total 25 = .ok (.ireturn, 1) := by decide +kernel
theorem dX8_needs_0 : decode cX8_needs 0 = .ok (.aload_n 0, 1) := by decide +kernel
theorem dX8_needs_1 : decode cX8_needs 1 = .ok (.iconst 0, 1) := by decide +kernel
theorem dX8_needs_2 : decode cX8_needs 2 = .ok (.putfield 137, 3) := by decide +kernel
theorem dX8_needs_5 : decode cX8_needs 5 = .ok (.aload_n 0, 1) := by decide +kernel
theorem dX8_needs_6 : decode cX8_needs 6 = .ok (.iload_n 1, 1) := by decide +kernel
theorem dX8_needs_7 : decode cX8_needs 7 = .ok (.ldc2_w 163, 3) := by decide +kernel
theorem dX8_needs_10 : decode cX8_needs 10 = .ok (.invokevirtual 177, 3) := by decide +kernel
theorem dX8_needs_13 : decode cX8_needs 13 = .ok (.istore_n 2, 1) := by decide +kernel
theorem dX8_needs_14 : decode cX8_needs 14 = .ok (.iload_n 2, 1) := by decide +kernel
theorem dX8_needs_15 : decode cX8_needs 15 = .ok (.ifCond .ge 5, 3) := by decide +kernel
theorem dX8_needs_18 : decode cX8_needs 18 = .ok (.iload_n 2, 1) := by decide +kernel
theorem dX8_needs_19 : decode cX8_needs 19 = .ok (.ireturn, 1) := by decide +kernel
theorem dX8_needs_20 : decode cX8_needs 20 = .ok (.iconst 0, 1) := by decide +kernel
theorem dX8_needs_21 : decode cX8_needs 21 = .ok (.istore_n 3, 1) := by decide +kernel
theorem dX8_needs_22 : decode cX8_needs 22 = .ok (.iload_n 3, 1) := by decide +kernel
theorem dX8_needs_23 : decode cX8_needs 23 = .ok (.aload_n 0, 1) := by decide +kernel
theorem dX8_needs_24 : decode cX8_needs 24 = .ok (.getfield 154, 3) := by decide +kernel
theorem dX8_needs_27 : decode cX8_needs 27 = .ok (.if_icmp .ge 27, 3) := by decide +kernel
theorem dX8_needs_30 : decode cX8_needs 30 = .ok (.aload_n 0, 1) := by decide +kernel
theorem dX8_needs_31 : decode cX8_needs 31 = .ok (.getfield 54, 3) := by decide +kernel
theorem dX8_needs_34 : decode cX8_needs 34 = .ok (.iload_n 3, 1) := by decide +kernel
theorem dX8_needs_35 : decode cX8_needs 35 = .ok (.aload_n 0, 1) := by decide +kernel
theorem dX8_needs_36 : decode cX8_needs 36 = .ok (.getfield 16, 3) := by decide +kernel
theorem dX8_needs_39 : decode cX8_needs 39 = .ok (.bipush 60, 2) := by decide +kernel
theorem dX8_needs_41 : decode cX8_needs 41 = .ok (.iload_n 1, 1) := by decide +kernel
theorem dX8_needs_42 : decode cX8_needs 42 = .ok (.imul, 1) := by decide +kernel
theorem dX8_needs_43 : decode cX8_needs 43 = .ok (.iload_n 3, 1) := by decide +kernel
theorem dX8_needs_44 : decode cX8_needs 44 = .ok (.iadd, 1) := by decide +kernel
theorem dX8_needs_45 : decode cX8_needs 45 = .ok (.laload, 1) := by decide +kernel
theorem dX8_needs_46 : decode cX8_needs 46 = .ok (.l2i, 1) := by decide +kernel
theorem dX8_needs_47 : decode cX8_needs 47 = .ok (.iastore, 1) := by decide +kernel
theorem dX8_needs_48 : decode cX8_needs 48 = .ok (.iinc 3 1, 3) := by decide +kernel
theorem dX8_needs_51 : decode cX8_needs 51 = .ok (.goto (-29), 3) := by decide +kernel
theorem dX8_needs_54 : decode cX8_needs 54 = .ok (.aload_n 0, 1) := by decide +kernel
theorem dX8_needs_55 : decode cX8_needs 55 = .ok (.aload_n 0, 1) := by decide +kernel
theorem dX8_needs_56 : decode cX8_needs 56 = .ok (.getfield 54, 3) := by decide +kernel
theorem dX8_needs_59 : decode cX8_needs 59 = .ok (.invokevirtual 181, 3) := by decide +kernel
theorem dX8_needs_62 : decode cX8_needs 62 = .ok (.ireturn, 1) := by decide +kernel
theorem dX8_asks_0 : decode cX8_asks 0 = .ok (.aload_n 0, 1) := by decide +kernel
theorem dX8_asks_1 : decode cX8_asks 1 = .ok (.iconst 0, 1) := by decide +kernel
theorem dX8_asks_2 : decode cX8_asks 2 = .ok (.putfield 137, 3) := by decide +kernel
theorem dX8_asks_5 : decode cX8_asks 5 = .ok (.aload_n 0, 1) := by decide +kernel
theorem dX8_asks_6 : decode cX8_asks 6 = .ok (.iload_n 1, 1) := by decide +kernel
theorem dX8_asks_7 : decode cX8_asks 7 = .ok (.ldc2_w 159, 3) := by decide +kernel
theorem dX8_asks_10 : decode cX8_asks 10 = .ok (.invokevirtual 177, 3) := by decide +kernel
theorem dX8_asks_13 : decode cX8_asks 13 = .ok (.istore_n 2, 1) := by decide +kernel
theorem dX8_asks_14 : decode cX8_asks 14 = .ok (.iload_n 2, 1) := by decide +kernel
theorem dX8_asks_15 : decode cX8_asks 15 = .ok (.ifCond .ge 5, 3) := by decide +kernel
theorem dX8_asks_18 : decode cX8_asks 18 = .ok (.iload_n 2, 1) := by decide +kernel
theorem dX8_asks_19 : decode cX8_asks 19 = .ok (.ireturn, 1) := by decide +kernel
theorem dX8_asks_20 : decode cX8_asks 20 = .ok (.iconst 0, 1) := by decide +kernel
theorem dX8_asks_21 : decode cX8_asks 21 = .ok (.istore_n 3, 1) := by decide +kernel
theorem dX8_asks_22 : decode cX8_asks 22 = .ok (.iload_n 3, 1) := by decide +kernel
theorem dX8_asks_23 : decode cX8_asks 23 = .ok (.aload_n 0, 1) := by decide +kernel
theorem dX8_asks_24 : decode cX8_asks 24 = .ok (.getfield 154, 3) := by decide +kernel
theorem dX8_asks_27 : decode cX8_asks 27 = .ok (.if_icmp .ge 27, 3) := by decide +kernel
theorem dX8_asks_30 : decode cX8_asks 30 = .ok (.aload_n 0, 1) := by decide +kernel
theorem dX8_asks_31 : decode cX8_asks 31 = .ok (.getfield 57, 3) := by decide +kernel
theorem dX8_asks_34 : decode cX8_asks 34 = .ok (.iload_n 3, 1) := by decide +kernel
theorem dX8_asks_35 : decode cX8_asks 35 = .ok (.aload_n 0, 1) := by decide +kernel
theorem dX8_asks_36 : decode cX8_asks 36 = .ok (.getfield 16, 3) := by decide +kernel
theorem dX8_asks_39 : decode cX8_asks 39 = .ok (.bipush 60, 2) := by decide +kernel
theorem dX8_asks_41 : decode cX8_asks 41 = .ok (.iload_n 1, 1) := by decide +kernel
theorem dX8_asks_42 : decode cX8_asks 42 = .ok (.imul, 1) := by decide +kernel
theorem dX8_asks_43 : decode cX8_asks 43 = .ok (.iload_n 3, 1) := by decide +kernel
theorem dX8_asks_44 : decode cX8_asks 44 = .ok (.iadd, 1) := by decide +kernel
theorem dX8_asks_45 : decode cX8_asks 45 = .ok (.laload, 1) := by decide +kernel
theorem dX8_asks_46 : decode cX8_asks 46 = .ok (.l2i, 1) := by decide +kernel
theorem dX8_asks_47 : decode cX8_asks 47 = .ok (.iastore, 1) := by decide +kernel
theorem dX8_asks_48 : decode cX8_asks 48 = .ok (.iinc 3 1, 3) := by decide +kernel
theorem dX8_asks_51 : decode cX8_asks 51 = .ok (.goto (-29), 3) := by decide +kernel
theorem dX8_asks_54 : decode cX8_asks 54 = .ok (.aload_n 0, 1) := by decide +kernel
theorem dX8_asks_55 : decode cX8_asks 55 = .ok (.aload_n 0, 1) := by decide +kernel
theorem dX8_asks_56 : decode cX8_asks 56 = .ok (.getfield 57, 3) := by decide +kernel
theorem dX8_asks_59 : decode cX8_asks 59 = .ok (.invokevirtual 181, 3) := by decide +kernel
theorem dX8_asks_62 : decode cX8_asks 62 = .ok (.ireturn, 1) := by decide +kernel
theorem dX8_powerNow_0 : decode cX8_powerNow 0 = .ok (.aload_n 0, 1) := by decide +kernel
theorem dX8_powerNow_1 : decode cX8_powerNow 1 = .ok (.getfield 39, 3) := by decide +kernel
theorem dX8_powerNow_4 : decode cX8_powerNow 4 = .ok (.iload_n 1, 1) := by decide +kernel
theorem dX8_powerNow_5 : decode cX8_powerNow 5 = .ok (.iaload, 1) := by decide +kernel
theorem dX8_powerNow_6 : decode cX8_powerNow 6 = .ok (.iconst 2, 1) := by decide +kernel
theorem dX8_powerNow_7 : decode cX8_powerNow 7 = .ok (.aload_n 0, 1) := by decide +kernel
theorem dX8_powerNow_8 : decode cX8_powerNow 8 = .ok (.getfield 60, 3) := by decide +kernel
theorem dX8_powerNow_11 : decode cX8_powerNow 11 = .ok (.iload_n 1, 1) := by decide +kernel
theorem dX8_powerNow_12 : decode cX8_powerNow 12 = .ok (.iaload, 1) := by decide +kernel
theorem dX8_powerNow_13 : decode cX8_powerNow 13 = .ok (.iadd, 1) := by decide +kernel
theorem dX8_powerNow_14 : decode cX8_powerNow 14 = .ok (.imul, 1) := by decide +kernel
theorem dX8_powerNow_15 : decode cX8_powerNow 15 = .ok (.iconst 2, 1) := by decide +kernel
theorem dX8_powerNow_16 : decode cX8_powerNow 16 = .ok (.idiv, 1) := by decide +kernel
theorem dX8_powerNow_17 : decode cX8_powerNow 17 = .ok (.ireturn, 1) := by decide +kernel
theorem dX8_rateNow_0 : decode cX8_rateNow 0 = .ok (.aload_n 0, 1) := by decide +kernel
theorem dX8_rateNow_1 : decode cX8_rateNow 1 = .ok (.getfield 60, 3) := by decide +kernel
theorem dX8_rateNow_4 : decode cX8_rateNow 4 = .ok (.iload_n 1, 1) := by decide +kernel
theorem dX8_rateNow_5 : decode cX8_rateNow 5 = .ok (.iaload, 1) := by decide +kernel
theorem dX8_rateNow_6 : decode cX8_rateNow 6 = .ok (.ifCond .ne 12, 3) := by decide +kernel
theorem dX8_rateNow_9 : decode cX8_rateNow 9 = .ok (.aload_n 0, 1) := by decide +kernel
theorem dX8_rateNow_10 : decode cX8_rateNow 10 = .ok (.getfield 42, 3) := by decide +kernel
theorem dX8_rateNow_13 : decode cX8_rateNow 13 = .ok (.iload_n 1, 1) := by decide +kernel
theorem dX8_rateNow_14 : decode cX8_rateNow 14 = .ok (.iaload, 1) := by decide +kernel
theorem dX8_rateNow_15 : decode cX8_rateNow 15 = .ok (.goto 25, 3) := by decide +kernel
theorem dX8_rateNow_18 : decode cX8_rateNow 18 = .ok (.aload_n 0, 1) := by decide +kernel
theorem dX8_rateNow_19 : decode cX8_rateNow 19 = .ok (.getfield 60, 3) := by decide +kernel
theorem dX8_rateNow_22 : decode cX8_rateNow 22 = .ok (.iload_n 1, 1) := by decide +kernel
theorem dX8_rateNow_23 : decode cX8_rateNow 23 = .ok (.iaload, 1) := by decide +kernel
theorem dX8_rateNow_24 : decode cX8_rateNow 24 = .ok (.iconst 1, 1) := by decide +kernel
theorem dX8_rateNow_25 : decode cX8_rateNow 25 = .ok (.if_icmp .ne 14, 3) := by decide +kernel
theorem dX8_rateNow_28 : decode cX8_rateNow 28 = .ok (.aload_n 0, 1) := by decide +kernel
theorem dX8_rateNow_29 : decode cX8_rateNow 29 = .ok (.getfield 42, 3) := by decide +kernel
theorem dX8_rateNow_32 : decode cX8_rateNow 32 = .ok (.iload_n 1, 1) := by decide +kernel
theorem dX8_rateNow_33 : decode cX8_rateNow 33 = .ok (.iaload, 1) := by decide +kernel
theorem dX8_rateNow_34 : decode cX8_rateNow 34 = .ok (.iconst 2, 1) := by decide +kernel
theorem dX8_rateNow_35 : decode cX8_rateNow 35 = .ok (.idiv, 1) := by decide +kernel
theorem dX8_rateNow_36 : decode cX8_rateNow 36 = .ok (.goto 4, 3) := by decide +kernel
theorem dX8_rateNow_39 : decode cX8_rateNow 39 = .ok (.iconst 0, 1) := by decide +kernel
theorem dX8_rateNow_40 : decode cX8_rateNow 40 = .ok (.ireturn, 1) := by decide +kernel
theorem dX8_isLegal_0 : decode cX8_isLegal 0 = .ok (.iconst 0, 1) := by decide +kernel
theorem dX8_isLegal_1 : decode cX8_isLegal 1 = .ok (.istore_n 2, 1) := by decide +kernel
theorem dX8_isLegal_2 : decode cX8_isLegal 2 = .ok (.iconst 0, 1) := by decide +kernel
theorem dX8_isLegal_3 : decode cX8_isLegal 3 = .ok (.istore_n 3, 1) := by decide +kernel
theorem dX8_isLegal_4 : decode cX8_isLegal 4 = .ok (.iconst 0, 1) := by decide +kernel
theorem dX8_isLegal_5 : decode cX8_isLegal 5 = .ok (.istore 4, 2) := by decide +kernel
theorem dX8_isLegal_7 : decode cX8_isLegal 7 = .ok (.iconst 0, 1) := by decide +kernel
theorem dX8_isLegal_8 : decode cX8_isLegal 8 = .ok (.istore 5, 2) := by decide +kernel
theorem dX8_isLegal_10 : decode cX8_isLegal 10 = .ok (.iconst 0, 1) := by decide +kernel
theorem dX8_isLegal_11 : decode cX8_isLegal 11 = .ok (.istore 6, 2) := by decide +kernel
theorem dX8_isLegal_13 : decode cX8_isLegal 13 = .ok (.iconst 0, 1) := by decide +kernel
theorem dX8_isLegal_14 : decode cX8_isLegal 14 = .ok (.istore 7, 2) := by decide +kernel
theorem dX8_isLegal_16 : decode cX8_isLegal 16 = .ok (.iload 7, 2) := by decide +kernel
theorem dX8_isLegal_18 : decode cX8_isLegal 18 = .ok (.aload_n 0, 1) := by decide +kernel
theorem dX8_isLegal_19 : decode cX8_isLegal 19 = .ok (.getfield 154, 3) := by decide +kernel
theorem dX8_isLegal_22 : decode cX8_isLegal 22 = .ok (.if_icmp .ge 134, 3) := by decide +kernel
theorem dX8_isLegal_25 : decode cX8_isLegal 25 = .ok (.iload_n 1, 1) := by decide +kernel
theorem dX8_isLegal_26 : decode cX8_isLegal 26 = .ok (.iload 7, 2) := by decide +kernel
theorem dX8_isLegal_28 : decode cX8_isLegal 28 = .ok (.ishr, 1) := by decide +kernel
theorem dX8_isLegal_29 : decode cX8_isLegal 29 = .ok (.iconst 1, 1) := by decide +kernel
theorem dX8_isLegal_30 : decode cX8_isLegal 30 = .ok (.iand, 1) := by decide +kernel
theorem dX8_isLegal_31 : decode cX8_isLegal 31 = .ok (.ifCond .ne 6, 3) := by decide +kernel
theorem dX8_isLegal_34 : decode cX8_isLegal 34 = .ok (.goto 116, 3) := by decide +kernel
theorem dX8_isLegal_37 : decode cX8_isLegal 37 = .ok (.aload_n 0, 1) := by decide +kernel
theorem dX8_isLegal_38 : decode cX8_isLegal 38 = .ok (.getfield 63, 3) := by decide +kernel
theorem dX8_isLegal_41 : decode cX8_isLegal 41 = .ok (.iload 7, 2) := by decide +kernel
theorem dX8_isLegal_43 : decode cX8_isLegal 43 = .ok (.iaload, 1) := by decide +kernel
theorem dX8_isLegal_44 : decode cX8_isLegal 44 = .ok (.iload_n 1, 1) := by decide +kernel
theorem dX8_isLegal_45 : decode cX8_isLegal 45 = .ok (.iand, 1) := by decide +kernel
theorem dX8_isLegal_46 : decode cX8_isLegal 46 = .ok (.ifCond .ne 28, 3) := by decide +kernel
theorem dX8_isLegal_49 : decode cX8_isLegal 49 = .ok (.aload_n 0, 1) := by decide +kernel
theorem dX8_isLegal_50 : decode cX8_isLegal 50 = .ok (.getfield 78, 3) := by decide +kernel
theorem dX8_isLegal_53 : decode cX8_isLegal 53 = .ok (.aload_n 0, 1) := by decide +kernel
theorem dX8_isLegal_54 : decode cX8_isLegal 54 = .ok (.getfield 48, 3) := by decide +kernel
theorem dX8_isLegal_57 : decode cX8_isLegal 57 = .ok (.iload 7, 2) := by decide +kernel
theorem dX8_isLegal_59 : decode cX8_isLegal 59 = .ok (.iaload, 1) := by decide +kernel
theorem dX8_isLegal_60 : decode cX8_isLegal 60 = .ok (.baload, 1) := by decide +kernel
theorem dX8_isLegal_61 : decode cX8_isLegal 61 = .ok (.ifCond .eq 13, 3) := by decide +kernel
theorem dX8_isLegal_64 : decode cX8_isLegal 64 = .ok (.aload_n 0, 1) := by decide +kernel
theorem dX8_isLegal_65 : decode cX8_isLegal 65 = .ok (.getfield 51, 3) := by decide +kernel
theorem dX8_isLegal_68 : decode cX8_isLegal 68 = .ok (.iload 7, 2) := by decide +kernel
theorem dX8_isLegal_70 : decode cX8_isLegal 70 = .ok (.iaload, 1) := by decide +kernel
theorem dX8_isLegal_71 : decode cX8_isLegal 71 = .ok (.ifCond .le 5, 3) := by decide +kernel
theorem dX8_isLegal_74 : decode cX8_isLegal 74 = .ok (.iconst 0, 1) := by decide +kernel
theorem dX8_isLegal_75 : decode cX8_isLegal 75 = .ok (.ireturn, 1) := by decide +kernel
theorem dX8_isLegal_76 : decode cX8_isLegal 76 = .ok (.iinc 2 1, 3) := by decide +kernel
theorem dX8_isLegal_79 : decode cX8_isLegal 79 = .ok (.iload_n 3, 1) := by decide +kernel
theorem dX8_isLegal_80 : decode cX8_isLegal 80 = .ok (.aload_n 0, 1) := by decide +kernel
theorem dX8_isLegal_81 : decode cX8_isLegal 81 = .ok (.iload 7, 2) := by decide +kernel
theorem dX8_isLegal_83 : decode cX8_isLegal 83 = .ok (.invokevirtual 185, 3) := by decide +kernel
theorem dX8_isLegal_86 : decode cX8_isLegal 86 = .ok (.iadd, 1) := by decide +kernel
theorem dX8_isLegal_87 : decode cX8_isLegal 87 = .ok (.istore_n 3, 1) := by decide +kernel
theorem dX8_isLegal_88 : decode cX8_isLegal 88 = .ok (.iload 4, 2) := by decide +kernel
theorem dX8_isLegal_90 : decode cX8_isLegal 90 = .ok (.aload_n 0, 1) := by decide +kernel
theorem dX8_isLegal_91 : decode cX8_isLegal 91 = .ok (.getfield 48, 3) := by decide +kernel
theorem dX8_isLegal_94 : decode cX8_isLegal 94 = .ok (.iload 7, 2) := by decide +kernel
theorem dX8_isLegal_96 : decode cX8_isLegal 96 = .ok (.iaload, 1) := by decide +kernel
theorem dX8_isLegal_97 : decode cX8_isLegal 97 = .ok (.ifCond .ne 7, 3) := by decide +kernel
theorem dX8_isLegal_100 : decode cX8_isLegal 100 = .ok (.iconst 1, 1) := by decide +kernel
theorem dX8_isLegal_101 : decode cX8_isLegal 101 = .ok (.goto 4, 3) := by decide +kernel
theorem dX8_isLegal_104 : decode cX8_isLegal 104 = .ok (.iconst 0, 1) := by decide +kernel
theorem dX8_isLegal_105 : decode cX8_isLegal 105 = .ok (.iadd, 1) := by decide +kernel
theorem dX8_isLegal_106 : decode cX8_isLegal 106 = .ok (.istore 4, 2) := by decide +kernel
theorem dX8_isLegal_108 : decode cX8_isLegal 108 = .ok (.iload 5, 2) := by decide +kernel
theorem dX8_isLegal_110 : decode cX8_isLegal 110 = .ok (.aload_n 0, 1) := by decide +kernel
theorem dX8_isLegal_111 : decode cX8_isLegal 111 = .ok (.getfield 48, 3) := by decide +kernel
theorem dX8_isLegal_114 : decode cX8_isLegal 114 = .ok (.iload 7, 2) := by decide +kernel
theorem dX8_isLegal_116 : decode cX8_isLegal 116 = .ok (.iaload, 1) := by decide +kernel
theorem dX8_isLegal_117 : decode cX8_isLegal 117 = .ok (.iconst 1, 1) := by decide +kernel
theorem dX8_isLegal_118 : decode cX8_isLegal 118 = .ok (.if_icmp .ne 7, 3) := by decide +kernel
theorem dX8_isLegal_121 : decode cX8_isLegal 121 = .ok (.iconst 1, 1) := by decide +kernel
theorem dX8_isLegal_122 : decode cX8_isLegal 122 = .ok (.goto 4, 3) := by decide +kernel
theorem dX8_isLegal_125 : decode cX8_isLegal 125 = .ok (.iconst 0, 1) := by decide +kernel
theorem dX8_isLegal_126 : decode cX8_isLegal 126 = .ok (.iadd, 1) := by decide +kernel
theorem dX8_isLegal_127 : decode cX8_isLegal 127 = .ok (.istore 5, 2) := by decide +kernel
theorem dX8_isLegal_129 : decode cX8_isLegal 129 = .ok (.iload 6, 2) := by decide +kernel
theorem dX8_isLegal_131 : decode cX8_isLegal 131 = .ok (.aload_n 0, 1) := by decide +kernel
theorem dX8_isLegal_132 : decode cX8_isLegal 132 = .ok (.getfield 48, 3) := by decide +kernel
theorem dX8_isLegal_135 : decode cX8_isLegal 135 = .ok (.iload 7, 2) := by decide +kernel
theorem dX8_isLegal_137 : decode cX8_isLegal 137 = .ok (.iaload, 1) := by decide +kernel
theorem dX8_isLegal_138 : decode cX8_isLegal 138 = .ok (.iconst 2, 1) := by decide +kernel
theorem dX8_isLegal_139 : decode cX8_isLegal 139 = .ok (.if_icmp .ne 7, 3) := by decide +kernel
theorem dX8_isLegal_142 : decode cX8_isLegal 142 = .ok (.iconst 1, 1) := by decide +kernel
theorem dX8_isLegal_143 : decode cX8_isLegal 143 = .ok (.goto 4, 3) := by decide +kernel
theorem dX8_isLegal_146 : decode cX8_isLegal 146 = .ok (.iconst 0, 1) := by decide +kernel
theorem dX8_isLegal_147 : decode cX8_isLegal 147 = .ok (.iadd, 1) := by decide +kernel
theorem dX8_isLegal_148 : decode cX8_isLegal 148 = .ok (.istore 6, 2) := by decide +kernel
theorem dX8_isLegal_150 : decode cX8_isLegal 150 = .ok (.iinc 7 1, 3) := by decide +kernel
theorem dX8_isLegal_153 : decode cX8_isLegal 153 = .ok (.goto (-137), 3) := by decide +kernel
theorem dX8_isLegal_156 : decode cX8_isLegal 156 = .ok (.iload_n 2, 1) := by decide +kernel
theorem dX8_isLegal_157 : decode cX8_isLegal 157 = .ok (.aload_n 0, 1) := by decide +kernel
theorem dX8_isLegal_158 : decode cX8_isLegal 158 = .ok (.getfield 23, 3) := by decide +kernel
theorem dX8_isLegal_161 : decode cX8_isLegal 161 = .ok (.if_icmp .gt 48, 3) := by decide +kernel
theorem dX8_isLegal_164 : decode cX8_isLegal 164 = .ok (.iload_n 3, 1) := by decide +kernel
theorem dX8_isLegal_165 : decode cX8_isLegal 165 = .ok (.aload_n 0, 1) := by decide +kernel
theorem dX8_isLegal_166 : decode cX8_isLegal 166 = .ok (.getfield 27, 3) := by decide +kernel
theorem dX8_isLegal_169 : decode cX8_isLegal 169 = .ok (.if_icmp .gt 40, 3) := by decide +kernel
theorem dX8_isLegal_172 : decode cX8_isLegal 172 = .ok (.iload 4, 2) := by decide +kernel
theorem dX8_isLegal_174 : decode cX8_isLegal 174 = .ok (.aload_n 0, 1) := by decide +kernel
theorem dX8_isLegal_175 : decode cX8_isLegal 175 = .ok (.getfield 75, 3) := by decide +kernel
theorem dX8_isLegal_178 : decode cX8_isLegal 178 = .ok (.iconst 0, 1) := by decide +kernel
theorem dX8_isLegal_179 : decode cX8_isLegal 179 = .ok (.iaload, 1) := by decide +kernel
theorem dX8_isLegal_180 : decode cX8_isLegal 180 = .ok (.if_icmp .gt 29, 3) := by decide +kernel
theorem dX8_isLegal_183 : decode cX8_isLegal 183 = .ok (.iload 5, 2) := by decide +kernel
theorem dX8_isLegal_185 : decode cX8_isLegal 185 = .ok (.aload_n 0, 1) := by decide +kernel
theorem dX8_isLegal_186 : decode cX8_isLegal 186 = .ok (.getfield 75, 3) := by decide +kernel
theorem dX8_isLegal_189 : decode cX8_isLegal 189 = .ok (.iconst 1, 1) := by decide +kernel
theorem dX8_isLegal_190 : decode cX8_isLegal 190 = .ok (.iaload, 1) := by decide +kernel
theorem dX8_isLegal_191 : decode cX8_isLegal 191 = .ok (.if_icmp .gt 18, 3) := by decide +kernel
theorem dX8_isLegal_194 : decode cX8_isLegal 194 = .ok (.iload 6, 2) := by decide +kernel
theorem dX8_isLegal_196 : decode cX8_isLegal 196 = .ok (.aload_n 0, 1) := by decide +kernel
theorem dX8_isLegal_197 : decode cX8_isLegal 197 = .ok (.getfield 75, 3) := by decide +kernel
theorem dX8_isLegal_200 : decode cX8_isLegal 200 = .ok (.iconst 2, 1) := by decide +kernel
theorem dX8_isLegal_201 : decode cX8_isLegal 201 = .ok (.iaload, 1) := by decide +kernel
theorem dX8_isLegal_202 : decode cX8_isLegal 202 = .ok (.if_icmp .gt 7, 3) := by decide +kernel
theorem dX8_isLegal_205 : decode cX8_isLegal 205 = .ok (.iconst 1, 1) := by decide +kernel
theorem dX8_isLegal_206 : decode cX8_isLegal 206 = .ok (.goto 4, 3) := by decide +kernel
theorem dX8_isLegal_209 : decode cX8_isLegal 209 = .ok (.iconst 0, 1) := by decide +kernel
theorem dX8_isLegal_210 : decode cX8_isLegal 210 = .ok (.ireturn, 1) := by decide +kernel
theorem dX8_legal_0 : decode cX8_legal 0 = .ok (.aload_n 0, 1) := by decide +kernel
theorem dX8_legal_1 : decode cX8_legal 1 = .ok (.iconst 0, 1) := by decide +kernel
theorem dX8_legal_2 : decode cX8_legal 2 = .ok (.putfield 137, 3) := by decide +kernel
theorem dX8_legal_5 : decode cX8_legal 5 = .ok (.aload_n 0, 1) := by decide +kernel
theorem dX8_legal_6 : decode cX8_legal 6 = .ok (.iload_n 1, 1) := by decide +kernel
theorem dX8_legal_7 : decode cX8_legal 7 = .ok (.i2l, 1) := by decide +kernel
theorem dX8_legal_8 : decode cX8_legal 8 = .ok (.invokevirtual 189, 3) := by decide +kernel
theorem dX8_legal_11 : decode cX8_legal 11 = .ok (.ifCond .eq 19, 3) := by decide +kernel
theorem dX8_legal_14 : decode cX8_legal 14 = .ok (.aload_n 0, 1) := by decide +kernel
theorem dX8_legal_15 : decode cX8_legal 15 = .ok (.iload_n 1, 1) := by decide +kernel
theorem dX8_legal_16 : decode cX8_legal 16 = .ok (.invokevirtual 193, 3) := by decide +kernel
theorem dX8_legal_19 : decode cX8_legal 19 = .ok (.ifCond .eq 7, 3) := by decide +kernel
theorem dX8_legal_22 : decode cX8_legal 22 = .ok (.iconst 1, 1) := by decide +kernel
theorem dX8_legal_23 : decode cX8_legal 23 = .ok (.goto 9, 3) := by decide +kernel
theorem dX8_legal_26 : decode cX8_legal 26 = .ok (.iconst 0, 1) := by decide +kernel
theorem dX8_legal_27 : decode cX8_legal 27 = .ok (.goto 5, 3) := by decide +kernel
theorem dX8_legal_30 : decode cX8_legal 30 = .ok (.bipush (-2), 2) := by decide +kernel
theorem dX8_legal_32 : decode cX8_legal 32 = .ok (.ireturn, 1) := by decide +kernel
theorem dX8_sets_0 : decode cX8_sets 0 = .ok (.aload_n 0, 1) := by decide +kernel
theorem dX8_sets_1 : decode cX8_sets 1 = .ok (.iconst 0, 1) := by decide +kernel
theorem dX8_sets_2 : decode cX8_sets 2 = .ok (.putfield 137, 3) := by decide +kernel
theorem dX8_sets_5 : decode cX8_sets 5 = .ok (.iconst 0, 1) := by decide +kernel
theorem dX8_sets_6 : decode cX8_sets 6 = .ok (.istore_n 1, 1) := by decide +kernel
theorem dX8_sets_7 : decode cX8_sets 7 = .ok (.iconst 0, 1) := by decide +kernel
theorem dX8_sets_8 : decode cX8_sets 8 = .ok (.istore_n 2, 1) := by decide +kernel
theorem dX8_sets_9 : decode cX8_sets 9 = .ok (.iload_n 2, 1) := by decide +kernel
theorem dX8_sets_10 : decode cX8_sets 10 = .ok (.iconst 1, 1) := by decide +kernel
theorem dX8_sets_11 : decode cX8_sets 11 = .ok (.aload_n 0, 1) := by decide +kernel
theorem dX8_sets_12 : decode cX8_sets 12 = .ok (.getfield 154, 3) := by decide +kernel
theorem dX8_sets_15 : decode cX8_sets 15 = .ok (.ishl, 1) := by decide +kernel
theorem dX8_sets_16 : decode cX8_sets 16 = .ok (.if_icmp .ge 25, 3) := by decide +kernel
theorem dX8_sets_19 : decode cX8_sets 19 = .ok (.iload_n 1, 1) := by decide +kernel
theorem dX8_sets_20 : decode cX8_sets 20 = .ok (.aload_n 0, 1) := by decide +kernel
theorem dX8_sets_21 : decode cX8_sets 21 = .ok (.iload_n 2, 1) := by decide +kernel
theorem dX8_sets_22 : decode cX8_sets 22 = .ok (.invokevirtual 193, 3) := by decide +kernel
theorem dX8_sets_25 : decode cX8_sets 25 = .ok (.ifCond .eq 7, 3) := by decide +kernel
theorem dX8_sets_28 : decode cX8_sets 28 = .ok (.iconst 1, 1) := by decide +kernel
theorem dX8_sets_29 : decode cX8_sets 29 = .ok (.goto 4, 3) := by decide +kernel
theorem dX8_sets_32 : decode cX8_sets 32 = .ok (.iconst 0, 1) := by decide +kernel
theorem dX8_sets_33 : decode cX8_sets 33 = .ok (.iadd, 1) := by decide +kernel
theorem dX8_sets_34 : decode cX8_sets 34 = .ok (.istore_n 1, 1) := by decide +kernel
theorem dX8_sets_35 : decode cX8_sets 35 = .ok (.iinc 2 1, 3) := by decide +kernel
theorem dX8_sets_38 : decode cX8_sets 38 = .ok (.goto (-29), 3) := by decide +kernel
theorem dX8_sets_41 : decode cX8_sets 41 = .ok (.iload_n 1, 1) := by decide +kernel
theorem dX8_sets_42 : decode cX8_sets 42 = .ok (.ireturn, 1) := by decide +kernel
theorem dX8_isWhole_0 : decode cX8_isWhole 0 = .ok (.iload_n 1, 1) := by decide +kernel
theorem dX8_isWhole_1 : decode cX8_isWhole 1 = .ok (.ifCond .eq 20, 3) := by decide +kernel
theorem dX8_isWhole_4 : decode cX8_isWhole 4 = .ok (.iload_n 1, 1) := by decide +kernel
theorem dX8_isWhole_5 : decode cX8_isWhole 5 = .ok (.iload_n 2, 1) := by decide +kernel
theorem dX8_isWhole_6 : decode cX8_isWhole 6 = .ok (.iconst (-1), 1) := by decide +kernel
theorem dX8_isWhole_7 : decode cX8_isWhole 7 = .ok (.ixor, 1) := by decide +kernel
theorem dX8_isWhole_8 : decode cX8_isWhole 8 = .ok (.iand, 1) := by decide +kernel
theorem dX8_isWhole_9 : decode cX8_isWhole 9 = .ok (.ifCond .ne 12, 3) := by decide +kernel
theorem dX8_isWhole_12 : decode cX8_isWhole 12 = .ok (.aload_n 0, 1) := by decide +kernel
theorem dX8_isWhole_13 : decode cX8_isWhole 13 = .ok (.getfield 119, 3) := by decide +kernel
theorem dX8_isWhole_16 : decode cX8_isWhole 16 = .ok (.iload_n 1, 1) := by decide +kernel
theorem dX8_isWhole_17 : decode cX8_isWhole 17 = .ok (.baload, 1) := by decide +kernel
theorem dX8_isWhole_18 : decode cX8_isWhole 18 = .ok (.ifCond .ne 5, 3) := by decide +kernel
theorem dX8_isWhole_21 : decode cX8_isWhole 21 = .ok (.iconst 0, 1) := by decide +kernel
theorem dX8_isWhole_22 : decode cX8_isWhole 22 = .ok (.ireturn, 1) := by decide +kernel
theorem dX8_isWhole_23 : decode cX8_isWhole 23 = .ok (.iconst 0, 1) := by decide +kernel
theorem dX8_isWhole_24 : decode cX8_isWhole 24 = .ok (.istore_n 3, 1) := by decide +kernel
theorem dX8_isWhole_25 : decode cX8_isWhole 25 = .ok (.iload_n 3, 1) := by decide +kernel
theorem dX8_isWhole_26 : decode cX8_isWhole 26 = .ok (.aload_n 0, 1) := by decide +kernel
theorem dX8_isWhole_27 : decode cX8_isWhole 27 = .ok (.getfield 154, 3) := by decide +kernel
theorem dX8_isWhole_30 : decode cX8_isWhole 30 = .ok (.if_icmp .ge 41, 3) := by decide +kernel
theorem dX8_isWhole_33 : decode cX8_isWhole 33 = .ok (.iload_n 2, 1) := by decide +kernel
theorem dX8_isWhole_34 : decode cX8_isWhole 34 = .ok (.iload_n 3, 1) := by decide +kernel
theorem dX8_isWhole_35 : decode cX8_isWhole 35 = .ok (.ishr, 1) := by decide +kernel
theorem dX8_isWhole_36 : decode cX8_isWhole 36 = .ok (.iconst 1, 1) := by decide +kernel
theorem dX8_isWhole_37 : decode cX8_isWhole 37 = .ok (.iand, 1) := by decide +kernel
theorem dX8_isWhole_38 : decode cX8_isWhole 38 = .ok (.iconst 1, 1) := by decide +kernel
theorem dX8_isWhole_39 : decode cX8_isWhole 39 = .ok (.if_icmp .ne 26, 3) := by decide +kernel
theorem dX8_isWhole_42 : decode cX8_isWhole 42 = .ok (.iload_n 1, 1) := by decide +kernel
theorem dX8_isWhole_43 : decode cX8_isWhole 43 = .ok (.iload_n 3, 1) := by decide +kernel
theorem dX8_isWhole_44 : decode cX8_isWhole 44 = .ok (.ishr, 1) := by decide +kernel
theorem dX8_isWhole_45 : decode cX8_isWhole 45 = .ok (.iconst 1, 1) := by decide +kernel
theorem dX8_isWhole_46 : decode cX8_isWhole 46 = .ok (.iand, 1) := by decide +kernel
theorem dX8_isWhole_47 : decode cX8_isWhole 47 = .ok (.ifCond .ne 18, 3) := by decide +kernel
theorem dX8_isWhole_50 : decode cX8_isWhole 50 = .ok (.aload_n 0, 1) := by decide +kernel
theorem dX8_isWhole_51 : decode cX8_isWhole 51 = .ok (.getfield 119, 3) := by decide +kernel
theorem dX8_isWhole_54 : decode cX8_isWhole 54 = .ok (.iload_n 1, 1) := by decide +kernel
theorem dX8_isWhole_55 : decode cX8_isWhole 55 = .ok (.iconst 1, 1) := by decide +kernel
theorem dX8_isWhole_56 : decode cX8_isWhole 56 = .ok (.iload_n 3, 1) := by decide +kernel
theorem dX8_isWhole_57 : decode cX8_isWhole 57 = .ok (.ishl, 1) := by decide +kernel
theorem dX8_isWhole_58 : decode cX8_isWhole 58 = .ok (.ior, 1) := by decide +kernel
theorem dX8_isWhole_59 : decode cX8_isWhole 59 = .ok (.baload, 1) := by decide +kernel
theorem dX8_isWhole_60 : decode cX8_isWhole 60 = .ok (.ifCond .eq 5, 3) := by decide +kernel
theorem dX8_isWhole_63 : decode cX8_isWhole 63 = .ok (.iconst 0, 1) := by decide +kernel
theorem dX8_isWhole_64 : decode cX8_isWhole 64 = .ok (.ireturn, 1) := by decide +kernel
theorem dX8_isWhole_65 : decode cX8_isWhole 65 = .ok (.iinc 3 1, 3) := by decide +kernel
theorem dX8_isWhole_68 : decode cX8_isWhole 68 = .ok (.goto (-43), 3) := by decide +kernel
theorem dX8_isWhole_71 : decode cX8_isWhole 71 = .ok (.iconst 1, 1) := by decide +kernel
theorem dX8_isWhole_72 : decode cX8_isWhole 72 = .ok (.ireturn, 1) := by decide +kernel
theorem dX8_sumOf_0 : decode cX8_sumOf 0 = .ok (.iconst 0, 1) := by decide +kernel
theorem dX8_sumOf_1 : decode cX8_sumOf 1 = .ok (.istore_n 1, 1) := by decide +kernel
theorem dX8_sumOf_2 : decode cX8_sumOf 2 = .ok (.iconst 0, 1) := by decide +kernel
theorem dX8_sumOf_3 : decode cX8_sumOf 3 = .ok (.istore_n 2, 1) := by decide +kernel
theorem dX8_sumOf_4 : decode cX8_sumOf 4 = .ok (.iload_n 2, 1) := by decide +kernel
theorem dX8_sumOf_5 : decode cX8_sumOf 5 = .ok (.aload_n 0, 1) := by decide +kernel
theorem dX8_sumOf_6 : decode cX8_sumOf 6 = .ok (.getfield 154, 3) := by decide +kernel
theorem dX8_sumOf_9 : decode cX8_sumOf 9 = .ok (.if_icmp .ge 21, 3) := by decide +kernel
theorem dX8_sumOf_12 : decode cX8_sumOf 12 = .ok (.bipush 10, 2) := by decide +kernel
theorem dX8_sumOf_14 : decode cX8_sumOf 14 = .ok (.iload_n 1, 1) := by decide +kernel
theorem dX8_sumOf_15 : decode cX8_sumOf 15 = .ok (.imul, 1) := by decide +kernel
theorem dX8_sumOf_16 : decode cX8_sumOf 16 = .ok (.aload_n 0, 1) := by decide +kernel
theorem dX8_sumOf_17 : decode cX8_sumOf 17 = .ok (.getfield 110, 3) := by decide +kernel
theorem dX8_sumOf_20 : decode cX8_sumOf 20 = .ok (.iload_n 2, 1) := by decide +kernel
theorem dX8_sumOf_21 : decode cX8_sumOf 21 = .ok (.iaload, 1) := by decide +kernel
theorem dX8_sumOf_22 : decode cX8_sumOf 22 = .ok (.iadd, 1) := by decide +kernel
theorem dX8_sumOf_23 : decode cX8_sumOf 23 = .ok (.istore_n 1, 1) := by decide +kernel
theorem dX8_sumOf_24 : decode cX8_sumOf 24 = .ok (.iinc 2 1, 3) := by decide +kernel
theorem dX8_sumOf_27 : decode cX8_sumOf 27 = .ok (.goto (-23), 3) := by decide +kernel
theorem dX8_sumOf_30 : decode cX8_sumOf 30 = .ok (.iload_n 1, 1) := by decide +kernel
theorem dX8_sumOf_31 : decode cX8_sumOf 31 = .ok (.bipush 31, 2) := by decide +kernel
theorem dX8_sumOf_33 : decode cX8_sumOf 33 = .ok (.imul, 1) := by decide +kernel
theorem dX8_sumOf_34 : decode cX8_sumOf 34 = .ok (.iload_n 1, 1) := by decide +kernel
theorem dX8_sumOf_35 : decode cX8_sumOf 35 = .ok (.bipush 7, 2) := by decide +kernel
theorem dX8_sumOf_37 : decode cX8_sumOf 37 = .ok (.iushr, 1) := by decide +kernel
theorem dX8_sumOf_38 : decode cX8_sumOf 38 = .ok (.iadd, 1) := by decide +kernel
theorem dX8_sumOf_39 : decode cX8_sumOf 39 = .ok (.ireturn, 1) := by decide +kernel
theorem dX8_isNew_0 : decode cX8_isNew 0 = .ok (.aload_n 0, 1) := by decide +kernel
theorem dX8_isNew_1 : decode cX8_isNew 1 = .ok (.getfield 113, 3) := by decide +kernel
theorem dX8_isNew_4 : decode cX8_isNew 4 = .ok (.iload_n 1, 1) := by decide +kernel
theorem dX8_isNew_5 : decode cX8_isNew 5 = .ok (.sipush 8191, 3) := by decide +kernel
theorem dX8_isNew_8 : decode cX8_isNew 8 = .ok (.iand, 1) := by decide +kernel
theorem dX8_isNew_9 : decode cX8_isNew 9 = .ok (.iaload, 1) := by decide +kernel
theorem dX8_isNew_10 : decode cX8_isNew 10 = .ok (.istore_n 2, 1) := by decide +kernel
theorem dX8_isNew_11 : decode cX8_isNew 11 = .ok (.iload_n 2, 1) := by decide +kernel
theorem dX8_isNew_12 : decode cX8_isNew 12 = .ok (.ifCond .lt 72, 3) := by decide +kernel
theorem dX8_isNew_15 : decode cX8_isNew 15 = .ok (.aload_n 0, 1) := by decide +kernel
theorem dX8_isNew_16 : decode cX8_isNew 16 = .ok (.getfield 101, 3) := by decide +kernel
theorem dX8_isNew_19 : decode cX8_isNew 19 = .ok (.iload_n 2, 1) := by decide +kernel
theorem dX8_isNew_20 : decode cX8_isNew 20 = .ok (.iaload, 1) := by decide +kernel
theorem dX8_isNew_21 : decode cX8_isNew 21 = .ok (.iload_n 1, 1) := by decide +kernel
theorem dX8_isNew_22 : decode cX8_isNew 22 = .ok (.if_icmp .eq 6, 3) := by decide +kernel
theorem dX8_isNew_25 : decode cX8_isNew 25 = .ok (.goto 49, 3) := by decide +kernel
theorem dX8_isNew_28 : decode cX8_isNew 28 = .ok (.iconst 0, 1) := by decide +kernel
theorem dX8_isNew_29 : decode cX8_isNew 29 = .ok (.istore_n 3, 1) := by decide +kernel
theorem dX8_isNew_30 : decode cX8_isNew 30 = .ok (.iload_n 3, 1) := by decide +kernel
theorem dX8_isNew_31 : decode cX8_isNew 31 = .ok (.aload_n 0, 1) := by decide +kernel
theorem dX8_isNew_32 : decode cX8_isNew 32 = .ok (.getfield 154, 3) := by decide +kernel
theorem dX8_isNew_35 : decode cX8_isNew 35 = .ok (.if_icmp .ge 29, 3) := by decide +kernel
theorem dX8_isNew_38 : decode cX8_isNew 38 = .ok (.aload_n 0, 1) := by decide +kernel
theorem dX8_isNew_39 : decode cX8_isNew 39 = .ok (.getfield 98, 3) := by decide +kernel
theorem dX8_isNew_42 : decode cX8_isNew 42 = .ok (.bipush 10, 2) := by decide +kernel
theorem dX8_isNew_44 : decode cX8_isNew 44 = .ok (.iload_n 2, 1) := by decide +kernel
theorem dX8_isNew_45 : decode cX8_isNew 45 = .ok (.imul, 1) := by decide +kernel
theorem dX8_isNew_46 : decode cX8_isNew 46 = .ok (.iload_n 3, 1) := by decide +kernel
theorem dX8_isNew_47 : decode cX8_isNew 47 = .ok (.iadd, 1) := by decide +kernel
theorem dX8_isNew_48 : decode cX8_isNew 48 = .ok (.iaload, 1) := by decide +kernel
theorem dX8_isNew_49 : decode cX8_isNew 49 = .ok (.aload_n 0, 1) := by decide +kernel
theorem dX8_isNew_50 : decode cX8_isNew 50 = .ok (.getfield 110, 3) := by decide +kernel
theorem dX8_isNew_53 : decode cX8_isNew 53 = .ok (.iload_n 3, 1) := by decide +kernel
theorem dX8_isNew_54 : decode cX8_isNew 54 = .ok (.iaload, 1) := by decide +kernel
theorem dX8_isNew_55 : decode cX8_isNew 55 = .ok (.if_icmp .ne 9, 3) := by decide +kernel
theorem dX8_isNew_58 : decode cX8_isNew 58 = .ok (.iinc 3 1, 3) := by decide +kernel
theorem dX8_isNew_61 : decode cX8_isNew 61 = .ok (.goto (-31), 3) := by decide +kernel
theorem dX8_isNew_64 : decode cX8_isNew 64 = .ok (.iload_n 3, 1) := by decide +kernel
theorem dX8_isNew_65 : decode cX8_isNew 65 = .ok (.aload_n 0, 1) := by decide +kernel
theorem dX8_isNew_66 : decode cX8_isNew 66 = .ok (.getfield 154, 3) := by decide +kernel
theorem dX8_isNew_69 : decode cX8_isNew 69 = .ok (.if_icmp .ne 5, 3) := by decide +kernel
theorem dX8_isNew_72 : decode cX8_isNew 72 = .ok (.iconst 0, 1) := by decide +kernel
theorem dX8_isNew_73 : decode cX8_isNew 73 = .ok (.ireturn, 1) := by decide +kernel
theorem dX8_isNew_74 : decode cX8_isNew 74 = .ok (.aload_n 0, 1) := by decide +kernel
theorem dX8_isNew_75 : decode cX8_isNew 75 = .ok (.getfield 116, 3) := by decide +kernel
theorem dX8_isNew_78 : decode cX8_isNew 78 = .ok (.iload_n 2, 1) := by decide +kernel
theorem dX8_isNew_79 : decode cX8_isNew 79 = .ok (.iaload, 1) := by decide +kernel
theorem dX8_isNew_80 : decode cX8_isNew 80 = .ok (.istore_n 2, 1) := by decide +kernel
theorem dX8_isNew_81 : decode cX8_isNew 81 = .ok (.goto (-70), 3) := by decide +kernel
theorem dX8_isNew_84 : decode cX8_isNew 84 = .ok (.iconst 1, 1) := by decide +kernel
theorem dX8_isNew_85 : decode cX8_isNew 85 = .ok (.ireturn, 1) := by decide +kernel
theorem dX8_lays_0 : decode cX8_lays 0 = .ok (.iconst 0, 1) := by decide +kernel
theorem dX8_lays_1 : decode cX8_lays 1 = .ok (.istore 4, 2) := by decide +kernel
theorem dX8_lays_3 : decode cX8_lays 3 = .ok (.iload 4, 2) := by decide +kernel
theorem dX8_lays_5 : decode cX8_lays 5 = .ok (.aload_n 0, 1) := by decide +kernel
theorem dX8_lays_6 : decode cX8_lays 6 = .ok (.getfield 154, 3) := by decide +kernel
theorem dX8_lays_9 : decode cX8_lays 9 = .ok (.if_icmp .ge 31, 3) := by decide +kernel
theorem dX8_lays_12 : decode cX8_lays 12 = .ok (.aload_n 0, 1) := by decide +kernel
theorem dX8_lays_13 : decode cX8_lays 13 = .ok (.getfield 98, 3) := by decide +kernel
theorem dX8_lays_16 : decode cX8_lays 16 = .ok (.bipush 10, 2) := by decide +kernel
theorem dX8_lays_18 : decode cX8_lays 18 = .ok (.aload_n 0, 1) := by decide +kernel
theorem dX8_lays_19 : decode cX8_lays 19 = .ok (.getfield 196, 3) := by decide +kernel
theorem dX8_lays_22 : decode cX8_lays 22 = .ok (.imul, 1) := by decide +kernel
theorem dX8_lays_23 : decode cX8_lays 23 = .ok (.iload 4, 2) := by decide +kernel
theorem dX8_lays_25 : decode cX8_lays 25 = .ok (.iadd, 1) := by decide +kernel
theorem dX8_lays_26 : decode cX8_lays 26 = .ok (.aload_n 0, 1) := by decide +kernel
theorem dX8_lays_27 : decode cX8_lays 27 = .ok (.getfield 110, 3) := by decide +kernel
theorem dX8_lays_30 : decode cX8_lays 30 = .ok (.iload 4, 2) := by decide +kernel
theorem dX8_lays_32 : decode cX8_lays 32 = .ok (.iaload, 1) := by decide +kernel
theorem dX8_lays_33 : decode cX8_lays 33 = .ok (.iastore, 1) := by decide +kernel
theorem dX8_lays_34 : decode cX8_lays 34 = .ok (.iinc 4 1, 3) := by decide +kernel
theorem dX8_lays_37 : decode cX8_lays 37 = .ok (.goto (-34), 3) := by decide +kernel
theorem dX8_lays_40 : decode cX8_lays 40 = .ok (.aload_n 0, 1) := by decide +kernel
theorem dX8_lays_41 : decode cX8_lays 41 = .ok (.getfield 101, 3) := by decide +kernel
theorem dX8_lays_44 : decode cX8_lays 44 = .ok (.aload_n 0, 1) := by decide +kernel
theorem dX8_lays_45 : decode cX8_lays 45 = .ok (.getfield 196, 3) := by decide +kernel
theorem dX8_lays_48 : decode cX8_lays 48 = .ok (.iload_n 1, 1) := by decide +kernel
theorem dX8_lays_49 : decode cX8_lays 49 = .ok (.iastore, 1) := by decide +kernel
theorem dX8_lays_50 : decode cX8_lays 50 = .ok (.aload_n 0, 1) := by decide +kernel
theorem dX8_lays_51 : decode cX8_lays 51 = .ok (.getfield 104, 3) := by decide +kernel
theorem dX8_lays_54 : decode cX8_lays 54 = .ok (.aload_n 0, 1) := by decide +kernel
theorem dX8_lays_55 : decode cX8_lays 55 = .ok (.getfield 196, 3) := by decide +kernel
theorem dX8_lays_58 : decode cX8_lays 58 = .ok (.iload_n 2, 1) := by decide +kernel
theorem dX8_lays_59 : decode cX8_lays 59 = .ok (.iastore, 1) := by decide +kernel
theorem dX8_lays_60 : decode cX8_lays 60 = .ok (.aload_n 0, 1) := by decide +kernel
theorem dX8_lays_61 : decode cX8_lays 61 = .ok (.getfield 107, 3) := by decide +kernel
theorem dX8_lays_64 : decode cX8_lays 64 = .ok (.aload_n 0, 1) := by decide +kernel
theorem dX8_lays_65 : decode cX8_lays 65 = .ok (.getfield 196, 3) := by decide +kernel
theorem dX8_lays_68 : decode cX8_lays 68 = .ok (.iload_n 3, 1) := by decide +kernel
theorem dX8_lays_69 : decode cX8_lays 69 = .ok (.iastore, 1) := by decide +kernel
theorem dX8_lays_70 : decode cX8_lays 70 = .ok (.aload_n 0, 1) := by decide +kernel
theorem dX8_lays_71 : decode cX8_lays 71 = .ok (.getfield 116, 3) := by decide +kernel
theorem dX8_lays_74 : decode cX8_lays 74 = .ok (.aload_n 0, 1) := by decide +kernel
theorem dX8_lays_75 : decode cX8_lays 75 = .ok (.getfield 196, 3) := by decide +kernel
theorem dX8_lays_78 : decode cX8_lays 78 = .ok (.aload_n 0, 1) := by decide +kernel
theorem dX8_lays_79 : decode cX8_lays 79 = .ok (.getfield 113, 3) := by decide +kernel
theorem dX8_lays_82 : decode cX8_lays 82 = .ok (.iload_n 1, 1) := by decide +kernel
theorem dX8_lays_83 : decode cX8_lays 83 = .ok (.sipush 8191, 3) := by decide +kernel
theorem dX8_lays_86 : decode cX8_lays 86 = .ok (.iand, 1) := by decide +kernel
theorem dX8_lays_87 : decode cX8_lays 87 = .ok (.iaload, 1) := by decide +kernel
theorem dX8_lays_88 : decode cX8_lays 88 = .ok (.iastore, 1) := by decide +kernel
theorem dX8_lays_89 : decode cX8_lays 89 = .ok (.aload_n 0, 1) := by decide +kernel
theorem dX8_lays_90 : decode cX8_lays 90 = .ok (.getfield 113, 3) := by decide +kernel
theorem dX8_lays_93 : decode cX8_lays 93 = .ok (.iload_n 1, 1) := by decide +kernel
theorem dX8_lays_94 : decode cX8_lays 94 = .ok (.sipush 8191, 3) := by decide +kernel
theorem dX8_lays_97 : decode cX8_lays 97 = .ok (.iand, 1) := by decide +kernel
theorem dX8_lays_98 : decode cX8_lays 98 = .ok (.aload_n 0, 1) := by decide +kernel
theorem dX8_lays_99 : decode cX8_lays 99 = .ok (.getfield 196, 3) := by decide +kernel
theorem dX8_lays_102 : decode cX8_lays 102 = .ok (.iastore, 1) := by decide +kernel
theorem dX8_lays_103 : decode cX8_lays 103 = .ok (.aload_n 0, 1) := by decide +kernel
theorem dX8_lays_104 : decode cX8_lays 104 = .ok (.dup, 1) := by decide +kernel
theorem dX8_lays_105 : decode cX8_lays 105 = .ok (.getfield 196, 3) := by decide +kernel
theorem dX8_lays_108 : decode cX8_lays 108 = .ok (.iconst 1, 1) := by decide +kernel
theorem dX8_lays_109 : decode cX8_lays 109 = .ok (.iadd, 1) := by decide +kernel
theorem dX8_lays_110 : decode cX8_lays 110 = .ok (.putfield 196, 3) := by decide +kernel
theorem dX8_lays_113 : decode cX8_lays 113 = .ok (.return_, 1) := by decide +kernel
theorem dX8_told_0 : decode cX8_told 0 = .ok (.iconst 1, 1) := by decide +kernel
theorem dX8_told_1 : decode cX8_told 1 = .ok (.istore_n 3, 1) := by decide +kernel
theorem dX8_told_2 : decode cX8_told 2 = .ok (.iload_n 1, 1) := by decide +kernel
theorem dX8_told_3 : decode cX8_told 3 = .ok (.istore 4, 2) := by decide +kernel
theorem dX8_told_5 : decode cX8_told 5 = .ok (.aload_n 0, 1) := by decide +kernel
theorem dX8_told_6 : decode cX8_told 6 = .ok (.getfield 104, 3) := by decide +kernel
theorem dX8_told_9 : decode cX8_told 9 = .ok (.iload 4, 2) := by decide +kernel
theorem dX8_told_11 : decode cX8_told 11 = .ok (.iaload, 1) := by decide +kernel
theorem dX8_told_12 : decode cX8_told 12 = .ok (.ifCond .lt 18, 3) := by decide +kernel
theorem dX8_told_15 : decode cX8_told 15 = .ok (.iinc 3 1, 3) := by decide +kernel
theorem dX8_told_18 : decode cX8_told 18 = .ok (.aload_n 0, 1) := by decide +kernel
theorem dX8_told_19 : decode cX8_told 19 = .ok (.getfield 104, 3) := by decide +kernel
theorem dX8_told_22 : decode cX8_told 22 = .ok (.iload 4, 2) := by decide +kernel
theorem dX8_told_24 : decode cX8_told 24 = .ok (.iaload, 1) := by decide +kernel
theorem dX8_told_25 : decode cX8_told 25 = .ok (.istore 4, 2) := by decide +kernel
theorem dX8_told_27 : decode cX8_told 27 = .ok (.goto (-22), 3) := by decide +kernel
theorem dX8_told_30 : decode cX8_told 30 = .ok (.aload_n 0, 1) := by decide +kernel
theorem dX8_told_31 : decode cX8_told 31 = .ok (.iload_n 3, 1) := by decide +kernel
theorem dX8_told_32 : decode cX8_told 32 = .ok (.putfield 199, 3) := by decide +kernel
theorem dX8_told_35 : decode cX8_told 35 = .ok (.aload_n 0, 1) := by decide +kernel
theorem dX8_told_36 : decode cX8_told 36 = .ok (.getfield 82, 3) := by decide +kernel
theorem dX8_told_39 : decode cX8_told 39 = .ok (.iload_n 3, 1) := by decide +kernel
theorem dX8_told_40 : decode cX8_told 40 = .ok (.iconst 1, 1) := by decide +kernel
theorem dX8_told_41 : decode cX8_told 41 = .ok (.isub, 1) := by decide +kernel
theorem dX8_told_42 : decode cX8_told 42 = .ok (.iload_n 2, 1) := by decide +kernel
theorem dX8_told_43 : decode cX8_told 43 = .ok (.iastore, 1) := by decide +kernel
theorem dX8_told_44 : decode cX8_told 44 = .ok (.iload_n 3, 1) := by decide +kernel
theorem dX8_told_45 : decode cX8_told 45 = .ok (.iconst 1, 1) := by decide +kernel
theorem dX8_told_46 : decode cX8_told 46 = .ok (.isub, 1) := by decide +kernel
theorem dX8_told_47 : decode cX8_told 47 = .ok (.istore 4, 2) := by decide +kernel
theorem dX8_told_49 : decode cX8_told 49 = .ok (.iload_n 1, 1) := by decide +kernel
theorem dX8_told_50 : decode cX8_told 50 = .ok (.istore 5, 2) := by decide +kernel
theorem dX8_told_52 : decode cX8_told 52 = .ok (.aload_n 0, 1) := by decide +kernel
theorem dX8_told_53 : decode cX8_told 53 = .ok (.getfield 104, 3) := by decide +kernel
theorem dX8_told_56 : decode cX8_told 56 = .ok (.iload 5, 2) := by decide +kernel
theorem dX8_told_58 : decode cX8_told 58 = .ok (.iaload, 1) := by decide +kernel
theorem dX8_told_59 : decode cX8_told 59 = .ok (.ifCond .lt 32, 3) := by decide +kernel
theorem dX8_told_62 : decode cX8_told 62 = .ok (.iinc 4 (-1), 3) := by decide +kernel
theorem dX8_told_65 : decode cX8_told 65 = .ok (.aload_n 0, 1) := by decide +kernel
theorem dX8_told_66 : decode cX8_told 66 = .ok (.getfield 82, 3) := by decide +kernel
theorem dX8_told_69 : decode cX8_told 69 = .ok (.iload 4, 2) := by decide +kernel
theorem dX8_told_71 : decode cX8_told 71 = .ok (.aload_n 0, 1) := by decide +kernel
theorem dX8_told_72 : decode cX8_told 72 = .ok (.getfield 107, 3) := by decide +kernel
theorem dX8_told_75 : decode cX8_told 75 = .ok (.iload 5, 2) := by decide +kernel
theorem dX8_told_77 : decode cX8_told 77 = .ok (.iaload, 1) := by decide +kernel
theorem dX8_told_78 : decode cX8_told 78 = .ok (.iastore, 1) := by decide +kernel
theorem dX8_told_79 : decode cX8_told 79 = .ok (.aload_n 0, 1) := by decide +kernel
theorem dX8_told_80 : decode cX8_told 80 = .ok (.getfield 104, 3) := by decide +kernel
theorem dX8_told_83 : decode cX8_told 83 = .ok (.iload 5, 2) := by decide +kernel
theorem dX8_told_85 : decode cX8_told 85 = .ok (.iaload, 1) := by decide +kernel
theorem dX8_told_86 : decode cX8_told 86 = .ok (.istore 5, 2) := by decide +kernel
theorem dX8_told_88 : decode cX8_told 88 = .ok (.goto (-36), 3) := by decide +kernel
theorem dX8_told_91 : decode cX8_told 91 = .ok (.iload_n 3, 1) := by decide +kernel
theorem dX8_told_92 : decode cX8_told 92 = .ok (.ireturn, 1) := by decide +kernel
theorem dX8_fewest_0 : decode cX8_fewest 0 = .ok (.aload_n 0, 1) := by decide +kernel
theorem dX8_fewest_1 : decode cX8_fewest 1 = .ok (.iconst 0, 1) := by decide +kernel
theorem dX8_fewest_2 : decode cX8_fewest 2 = .ok (.putfield 137, 3) := by decide +kernel
theorem dX8_fewest_5 : decode cX8_fewest 5 = .ok (.aload_n 0, 1) := by decide +kernel
theorem dX8_fewest_6 : decode cX8_fewest 6 = .ok (.iconst 0, 1) := by decide +kernel
theorem dX8_fewest_7 : decode cX8_fewest 7 = .ok (.putfield 196, 3) := by decide +kernel
theorem dX8_fewest_10 : decode cX8_fewest 10 = .ok (.iconst 0, 1) := by decide +kernel
theorem dX8_fewest_11 : decode cX8_fewest 11 = .ok (.istore_n 1, 1) := by decide +kernel
theorem dX8_fewest_12 : decode cX8_fewest 12 = .ok (.iload_n 1, 1) := by decide +kernel
theorem dX8_fewest_13 : decode cX8_fewest 13 = .ok (.iconst 1, 1) := by decide +kernel
theorem dX8_fewest_14 : decode cX8_fewest 14 = .ok (.aload_n 0, 1) := by decide +kernel
theorem dX8_fewest_15 : decode cX8_fewest 15 = .ok (.getfield 154, 3) := by decide +kernel
theorem dX8_fewest_18 : decode cX8_fewest 18 = .ok (.ishl, 1) := by decide +kernel
theorem dX8_fewest_19 : decode cX8_fewest 19 = .ok (.if_icmp .ge 20, 3) := by decide +kernel
theorem dX8_fewest_22 : decode cX8_fewest 22 = .ok (.aload_n 0, 1) := by decide +kernel
theorem dX8_fewest_23 : decode cX8_fewest 23 = .ok (.getfield 119, 3) := by decide +kernel
theorem dX8_fewest_26 : decode cX8_fewest 26 = .ok (.iload_n 1, 1) := by decide +kernel
theorem dX8_fewest_27 : decode cX8_fewest 27 = .ok (.aload_n 0, 1) := by decide +kernel
theorem dX8_fewest_28 : decode cX8_fewest 28 = .ok (.iload_n 1, 1) := by decide +kernel
theorem dX8_fewest_29 : decode cX8_fewest 29 = .ok (.invokevirtual 193, 3) := by decide +kernel
theorem dX8_fewest_32 : decode cX8_fewest 32 = .ok (.bastore, 1) := by decide +kernel
theorem dX8_fewest_33 : decode cX8_fewest 33 = .ok (.iinc 1 1, 3) := by decide +kernel
theorem dX8_fewest_36 : decode cX8_fewest 36 = .ok (.goto (-24), 3) := by decide +kernel
theorem dX8_fewest_39 : decode cX8_fewest 39 = .ok (.iconst 0, 1) := by decide +kernel
theorem dX8_fewest_40 : decode cX8_fewest 40 = .ok (.istore_n 1, 1) := by decide +kernel
theorem dX8_fewest_41 : decode cX8_fewest 41 = .ok (.iload_n 1, 1) := by decide +kernel
theorem dX8_fewest_42 : decode cX8_fewest 42 = .ok (.aload_n 0, 1) := by decide +kernel
theorem dX8_fewest_43 : decode cX8_fewest 43 = .ok (.getfield 154, 3) := by decide +kernel
theorem dX8_fewest_46 : decode cX8_fewest 46 = .ok (.if_icmp .ge 31, 3) := by decide +kernel
theorem dX8_fewest_49 : decode cX8_fewest 49 = .ok (.aload_n 0, 1) := by decide +kernel
theorem dX8_fewest_50 : decode cX8_fewest 50 = .ok (.getfield 54, 3) := by decide +kernel
theorem dX8_fewest_53 : decode cX8_fewest 53 = .ok (.iload_n 1, 1) := by decide +kernel
theorem dX8_fewest_54 : decode cX8_fewest 54 = .ok (.iaload, 1) := by decide +kernel
theorem dX8_fewest_55 : decode cX8_fewest 55 = .ok (.ifCond .le 16, 3) := by decide +kernel
theorem dX8_fewest_58 : decode cX8_fewest 58 = .ok (.aload_n 0, 1) := by decide +kernel
theorem dX8_fewest_59 : decode cX8_fewest 59 = .ok (.getfield 119, 3) := by decide +kernel
theorem dX8_fewest_62 : decode cX8_fewest 62 = .ok (.iconst 1, 1) := by decide +kernel
theorem dX8_fewest_63 : decode cX8_fewest 63 = .ok (.iload_n 1, 1) := by decide +kernel
theorem dX8_fewest_64 : decode cX8_fewest 64 = .ok (.ishl, 1) := by decide +kernel
theorem dX8_fewest_65 : decode cX8_fewest 65 = .ok (.baload, 1) := by decide +kernel
theorem dX8_fewest_66 : decode cX8_fewest 66 = .ok (.ifCond .ne 5, 3) := by decide +kernel
theorem dX8_fewest_69 : decode cX8_fewest 69 = .ok (.iconst (-1), 1) := by decide +kernel
theorem dX8_fewest_70 : decode cX8_fewest 70 = .ok (.ireturn, 1) := by decide +kernel
theorem dX8_fewest_71 : decode cX8_fewest 71 = .ok (.iinc 1 1, 3) := by decide +kernel
theorem dX8_fewest_74 : decode cX8_fewest 74 = .ok (.goto (-33), 3) := by decide +kernel
theorem dX8_fewest_77 : decode cX8_fewest 77 = .ok (.aload_n 0, 1) := by decide +kernel
theorem dX8_fewest_78 : decode cX8_fewest 78 = .ok (.aload_n 0, 1) := by decide +kernel
theorem dX8_fewest_79 : decode cX8_fewest 79 = .ok (.getfield 54, 3) := by decide +kernel
theorem dX8_fewest_82 : decode cX8_fewest 82 = .ok (.invokevirtual 181, 3) := by decide +kernel
theorem dX8_fewest_85 : decode cX8_fewest 85 = .ok (.ifCond .ne 10, 3) := by decide +kernel
theorem dX8_fewest_88 : decode cX8_fewest 88 = .ok (.aload_n 0, 1) := by decide +kernel
theorem dX8_fewest_89 : decode cX8_fewest 89 = .ok (.iconst 0, 1) := by decide +kernel
theorem dX8_fewest_90 : decode cX8_fewest 90 = .ok (.putfield 199, 3) := by decide +kernel
theorem dX8_fewest_93 : decode cX8_fewest 93 = .ok (.iconst 0, 1) := by decide +kernel
theorem dX8_fewest_94 : decode cX8_fewest 94 = .ok (.ireturn, 1) := by decide +kernel
theorem dX8_fewest_95 : decode cX8_fewest 95 = .ok (.iconst 0, 1) := by decide +kernel
theorem dX8_fewest_96 : decode cX8_fewest 96 = .ok (.istore_n 1, 1) := by decide +kernel
theorem dX8_fewest_97 : decode cX8_fewest 97 = .ok (.iload_n 1, 1) := by decide +kernel
theorem dX8_fewest_98 : decode cX8_fewest 98 = .ok (.aload_n 0, 1) := by decide +kernel
theorem dX8_fewest_99 : decode cX8_fewest 99 = .ok (.getfield 113, 3) := by decide +kernel
theorem dX8_fewest_102 : decode cX8_fewest 102 = .ok (.arraylength, 1) := by decide +kernel
theorem dX8_fewest_103 : decode cX8_fewest 103 = .ok (.if_icmp .ge 16, 3) := by decide +kernel
theorem dX8_fewest_106 : decode cX8_fewest 106 = .ok (.aload_n 0, 1) := by decide +kernel
theorem dX8_fewest_107 : decode cX8_fewest 107 = .ok (.getfield 113, 3) := by decide +kernel
theorem dX8_fewest_110 : decode cX8_fewest 110 = .ok (.iload_n 1, 1) := by decide +kernel
theorem dX8_fewest_111 : decode cX8_fewest 111 = .ok (.iconst (-1), 1) := by decide +kernel
theorem dX8_fewest_112 : decode cX8_fewest 112 = .ok (.iastore, 1) := by decide +kernel
theorem dX8_fewest_113 : decode cX8_fewest 113 = .ok (.iinc 1 1, 3) := by decide +kernel
theorem dX8_fewest_116 : decode cX8_fewest 116 = .ok (.goto (-19), 3) := by decide +kernel
theorem dX8_fewest_119 : decode cX8_fewest 119 = .ok (.iconst 0, 1) := by decide +kernel
theorem dX8_fewest_120 : decode cX8_fewest 120 = .ok (.istore_n 1, 1) := by decide +kernel
theorem dX8_fewest_121 : decode cX8_fewest 121 = .ok (.iload_n 1, 1) := by decide +kernel
theorem dX8_fewest_122 : decode cX8_fewest 122 = .ok (.aload_n 0, 1) := by decide +kernel
theorem dX8_fewest_123 : decode cX8_fewest 123 = .ok (.getfield 154, 3) := by decide +kernel
theorem dX8_fewest_126 : decode cX8_fewest 126 = .ok (.if_icmp .ge 21, 3) := by decide +kernel
theorem dX8_fewest_129 : decode cX8_fewest 129 = .ok (.aload_n 0, 1) := by decide +kernel
theorem dX8_fewest_130 : decode cX8_fewest 130 = .ok (.getfield 110, 3) := by decide +kernel
theorem dX8_fewest_133 : decode cX8_fewest 133 = .ok (.iload_n 1, 1) := by decide +kernel
theorem dX8_fewest_134 : decode cX8_fewest 134 = .ok (.aload_n 0, 1) := by decide +kernel
theorem dX8_fewest_135 : decode cX8_fewest 135 = .ok (.getfield 54, 3) := by decide +kernel
theorem dX8_fewest_138 : decode cX8_fewest 138 = .ok (.iload_n 1, 1) := by decide +kernel
theorem dX8_fewest_139 : decode cX8_fewest 139 = .ok (.iaload, 1) := by decide +kernel
theorem dX8_fewest_140 : decode cX8_fewest 140 = .ok (.iastore, 1) := by decide +kernel
theorem dX8_fewest_141 : decode cX8_fewest 141 = .ok (.iinc 1 1, 3) := by decide +kernel
theorem dX8_fewest_144 : decode cX8_fewest 144 = .ok (.goto (-23), 3) := by decide +kernel
theorem dX8_fewest_147 : decode cX8_fewest 147 = .ok (.aload_n 0, 1) := by decide +kernel
theorem dX8_fewest_148 : decode cX8_fewest 148 = .ok (.aload_n 0, 1) := by decide +kernel
theorem dX8_fewest_149 : decode cX8_fewest 149 = .ok (.invokevirtual 202, 3) := by decide +kernel
theorem dX8_fewest_152 : decode cX8_fewest 152 = .ok (.iconst (-1), 1) := by decide +kernel
theorem dX8_fewest_153 : decode cX8_fewest 153 = .ok (.iconst (-1), 1) := by decide +kernel
theorem dX8_fewest_154 : decode cX8_fewest 154 = .ok (.invokevirtual 206, 3) := by decide +kernel
theorem dX8_fewest_157 : decode cX8_fewest 157 = .ok (.iconst 0, 1) := by decide +kernel
theorem dX8_fewest_158 : decode cX8_fewest 158 = .ok (.istore_n 1, 1) := by decide +kernel
theorem dX8_fewest_159 : decode cX8_fewest 159 = .ok (.iload_n 1, 1) := by decide +kernel
theorem dX8_fewest_160 : decode cX8_fewest 160 = .ok (.aload_n 0, 1) := by decide +kernel
theorem dX8_fewest_161 : decode cX8_fewest 161 = .ok (.getfield 196, 3) := by decide +kernel
theorem dX8_fewest_164 : decode cX8_fewest 164 = .ok (.if_icmp .ge 191, 3) := by decide +kernel
theorem dX8_fewest_167 : decode cX8_fewest 167 = .ok (.iconst 0, 1) := by decide +kernel
theorem dX8_fewest_168 : decode cX8_fewest 168 = .ok (.istore_n 2, 1) := by decide +kernel
theorem dX8_fewest_169 : decode cX8_fewest 169 = .ok (.iconst 0, 1) := by decide +kernel
theorem dX8_fewest_170 : decode cX8_fewest 170 = .ok (.istore_n 3, 1) := by decide +kernel
theorem dX8_fewest_171 : decode cX8_fewest 171 = .ok (.iload_n 3, 1) := by decide +kernel
theorem dX8_fewest_172 : decode cX8_fewest 172 = .ok (.aload_n 0, 1) := by decide +kernel
theorem dX8_fewest_173 : decode cX8_fewest 173 = .ok (.getfield 154, 3) := by decide +kernel
theorem dX8_fewest_176 : decode cX8_fewest 176 = .ok (.if_icmp .ge 33, 3) := by decide +kernel
theorem dX8_fewest_179 : decode cX8_fewest 179 = .ok (.iload_n 2, 1) := by decide +kernel
theorem dX8_fewest_180 : decode cX8_fewest 180 = .ok (.aload_n 0, 1) := by decide +kernel
theorem dX8_fewest_181 : decode cX8_fewest 181 = .ok (.getfield 98, 3) := by decide +kernel
theorem dX8_fewest_184 : decode cX8_fewest 184 = .ok (.bipush 10, 2) := by decide +kernel
theorem dX8_fewest_186 : decode cX8_fewest 186 = .ok (.iload_n 1, 1) := by decide +kernel
theorem dX8_fewest_187 : decode cX8_fewest 187 = .ok (.imul, 1) := by decide +kernel
theorem dX8_fewest_188 : decode cX8_fewest 188 = .ok (.iload_n 3, 1) := by decide +kernel
theorem dX8_fewest_189 : decode cX8_fewest 189 = .ok (.iadd, 1) := by decide +kernel
theorem dX8_fewest_190 : decode cX8_fewest 190 = .ok (.iaload, 1) := by decide +kernel
theorem dX8_fewest_191 : decode cX8_fewest 191 = .ok (.ifCond .le 9, 3) := by decide +kernel
theorem dX8_fewest_194 : decode cX8_fewest 194 = .ok (.iconst 1, 1) := by decide +kernel
theorem dX8_fewest_195 : decode cX8_fewest 195 = .ok (.iload_n 3, 1) := by decide +kernel
theorem dX8_fewest_196 : decode cX8_fewest 196 = .ok (.ishl, 1) := by decide +kernel
theorem dX8_fewest_197 : decode cX8_fewest 197 = .ok (.goto 4, 3) := by decide +kernel
theorem dX8_fewest_200 : decode cX8_fewest 200 = .ok (.iconst 0, 1) := by decide +kernel
theorem dX8_fewest_201 : decode cX8_fewest 201 = .ok (.ior, 1) := by decide +kernel
theorem dX8_fewest_202 : decode cX8_fewest 202 = .ok (.istore_n 2, 1) := by decide +kernel
theorem dX8_fewest_203 : decode cX8_fewest 203 = .ok (.iinc 3 1, 3) := by decide +kernel
theorem dX8_fewest_206 : decode cX8_fewest 206 = .ok (.goto (-35), 3) := by decide +kernel
theorem dX8_fewest_209 : decode cX8_fewest 209 = .ok (.iconst 1, 1) := by decide +kernel
theorem dX8_fewest_210 : decode cX8_fewest 210 = .ok (.istore_n 3, 1) := by decide +kernel
theorem dX8_fewest_211 : decode cX8_fewest 211 = .ok (.iload_n 3, 1) := by decide +kernel
theorem dX8_fewest_212 : decode cX8_fewest 212 = .ok (.iconst 1, 1) := by decide +kernel
theorem dX8_fewest_213 : decode cX8_fewest 213 = .ok (.aload_n 0, 1) := by decide +kernel
theorem dX8_fewest_214 : decode cX8_fewest 214 = .ok (.getfield 154, 3) := by decide +kernel
theorem dX8_fewest_217 : decode cX8_fewest 217 = .ok (.ishl, 1) := by decide +kernel
theorem dX8_fewest_218 : decode cX8_fewest 218 = .ok (.if_icmp .ge 131, 3) := by decide +kernel
theorem dX8_fewest_221 : decode cX8_fewest 221 = .ok (.aload_n 0, 1) := by decide +kernel
theorem dX8_fewest_222 : decode cX8_fewest 222 = .ok (.iload_n 3, 1) := by decide +kernel
theorem dX8_fewest_223 : decode cX8_fewest 223 = .ok (.iload_n 2, 1) := by decide +kernel
theorem dX8_fewest_224 : decode cX8_fewest 224 = .ok (.invokevirtual 210, 3) := by decide +kernel
theorem dX8_fewest_227 : decode cX8_fewest 227 = .ok (.ifCond .ne 6, 3) := by decide +kernel
theorem dX8_fewest_230 : decode cX8_fewest 230 = .ok (.goto 113, 3) := by decide +kernel
theorem dX8_fewest_233 : decode cX8_fewest 233 = .ok (.iconst 0, 1) := by decide +kernel
theorem dX8_fewest_234 : decode cX8_fewest 234 = .ok (.istore 4, 2) := by decide +kernel
theorem dX8_fewest_236 : decode cX8_fewest 236 = .ok (.iconst 0, 1) := by decide +kernel
theorem dX8_fewest_237 : decode cX8_fewest 237 = .ok (.istore 5, 2) := by decide +kernel
theorem dX8_fewest_239 : decode cX8_fewest 239 = .ok (.iload 5, 2) := by decide +kernel
theorem dX8_fewest_241 : decode cX8_fewest 241 = .ok (.aload_n 0, 1) := by decide +kernel
theorem dX8_fewest_242 : decode cX8_fewest 242 = .ok (.getfield 154, 3) := by decide +kernel
theorem dX8_fewest_245 : decode cX8_fewest 245 = .ok (.if_icmp .ge 47, 3) := by decide +kernel
theorem dX8_fewest_248 : decode cX8_fewest 248 = .ok (.aload_n 0, 1) := by decide +kernel
theorem dX8_fewest_249 : decode cX8_fewest 249 = .ok (.getfield 110, 3) := by decide +kernel
theorem dX8_fewest_252 : decode cX8_fewest 252 = .ok (.iload 5, 2) := by decide +kernel
theorem dX8_fewest_254 : decode cX8_fewest 254 = .ok (.aload_n 0, 1) := by decide +kernel
theorem dX8_fewest_255 : decode cX8_fewest 255 = .ok (.getfield 98, 3) := by decide +kernel
theorem dX8_fewest_258 : decode cX8_fewest 258 = .ok (.bipush 10, 2) := by decide +kernel
theorem dX8_fewest_260 : decode cX8_fewest 260 = .ok (.iload_n 1, 1) := by decide +kernel
theorem dX8_fewest_261 : decode cX8_fewest 261 = .ok (.imul, 1) := by decide +kernel
theorem dX8_fewest_262 : decode cX8_fewest 262 = .ok (.iload 5, 2) := by decide +kernel
theorem dX8_fewest_264 : decode cX8_fewest 264 = .ok (.iadd, 1) := by decide +kernel
theorem dX8_fewest_265 : decode cX8_fewest 265 = .ok (.iaload, 1) := by decide +kernel
theorem dX8_fewest_266 : decode cX8_fewest 266 = .ok (.iload_n 3, 1) := by decide +kernel
theorem dX8_fewest_267 : decode cX8_fewest 267 = .ok (.iload 5, 2) := by decide +kernel
theorem dX8_fewest_269 : decode cX8_fewest 269 = .ok (.ishr, 1) := by decide +kernel
theorem dX8_fewest_270 : decode cX8_fewest 270 = .ok (.iconst 1, 1) := by decide +kernel
theorem dX8_fewest_271 : decode cX8_fewest 271 = .ok (.iand, 1) := by decide +kernel
theorem dX8_fewest_272 : decode cX8_fewest 272 = .ok (.isub, 1) := by decide +kernel
theorem dX8_fewest_273 : decode cX8_fewest 273 = .ok (.iastore, 1) := by decide +kernel
theorem dX8_fewest_274 : decode cX8_fewest 274 = .ok (.iload 4, 2) := by decide +kernel
theorem dX8_fewest_276 : decode cX8_fewest 276 = .ok (.aload_n 0, 1) := by decide +kernel
theorem dX8_fewest_277 : decode cX8_fewest 277 = .ok (.getfield 110, 3) := by decide +kernel
theorem dX8_fewest_280 : decode cX8_fewest 280 = .ok (.iload 5, 2) := by decide +kernel
theorem dX8_fewest_282 : decode cX8_fewest 282 = .ok (.iaload, 1) := by decide +kernel
theorem dX8_fewest_283 : decode cX8_fewest 283 = .ok (.iadd, 1) := by decide +kernel
theorem dX8_fewest_284 : decode cX8_fewest 284 = .ok (.istore 4, 2) := by decide +kernel
theorem dX8_fewest_286 : decode cX8_fewest 286 = .ok (.iinc 5 1, 3) := by decide +kernel
theorem dX8_fewest_289 : decode cX8_fewest 289 = .ok (.goto (-50), 3) := by decide +kernel
theorem dX8_fewest_292 : decode cX8_fewest 292 = .ok (.iload 4, 2) := by decide +kernel
theorem dX8_fewest_294 : decode cX8_fewest 294 = .ok (.ifCond .ne 10, 3) := by decide +kernel
theorem dX8_fewest_297 : decode cX8_fewest 297 = .ok (.aload_n 0, 1) := by decide +kernel
theorem dX8_fewest_298 : decode cX8_fewest 298 = .ok (.iload_n 1, 1) := by decide +kernel
theorem dX8_fewest_299 : decode cX8_fewest 299 = .ok (.iload_n 3, 1) := by decide +kernel
theorem dX8_fewest_300 : decode cX8_fewest 300 = .ok (.invokevirtual 214, 3) := by decide +kernel
theorem dX8_fewest_303 : decode cX8_fewest 303 = .ok (.ireturn, 1) := by decide +kernel
theorem dX8_fewest_304 : decode cX8_fewest 304 = .ok (.aload_n 0, 1) := by decide +kernel
theorem dX8_fewest_305 : decode cX8_fewest 305 = .ok (.invokevirtual 202, 3) := by decide +kernel
theorem dX8_fewest_308 : decode cX8_fewest 308 = .ok (.istore 5, 2) := by decide +kernel
theorem dX8_fewest_310 : decode cX8_fewest 310 = .ok (.aload_n 0, 1) := by decide +kernel
theorem dX8_fewest_311 : decode cX8_fewest 311 = .ok (.iload 5, 2) := by decide +kernel
theorem dX8_fewest_313 : decode cX8_fewest 313 = .ok (.invokevirtual 218, 3) := by decide +kernel
theorem dX8_fewest_316 : decode cX8_fewest 316 = .ok (.ifCond .ne 6, 3) := by decide +kernel
theorem dX8_fewest_319 : decode cX8_fewest 319 = .ok (.goto 24, 3) := by decide +kernel
theorem dX8_fewest_322 : decode cX8_fewest 322 = .ok (.aload_n 0, 1) := by decide +kernel
theorem dX8_fewest_323 : decode cX8_fewest 323 = .ok (.getfield 196, 3) := by decide +kernel
theorem dX8_fewest_326 : decode cX8_fewest 326 = .ok (.sipush 5000, 3) := by decide +kernel
theorem dX8_fewest_329 : decode cX8_fewest 329 = .ok (.if_icmp .ne 6, 3) := by decide +kernel
theorem dX8_fewest_332 : decode cX8_fewest 332 = .ok (.bipush (-4), 2) := by decide +kernel
theorem dX8_fewest_334 : decode cX8_fewest 334 = .ok (.ireturn, 1) := by decide +kernel
theorem dX8_fewest_335 : decode cX8_fewest 335 = .ok (.aload_n 0, 1) := by decide +kernel
theorem dX8_fewest_336 : decode cX8_fewest 336 = .ok (.iload 5, 2) := by decide +kernel
theorem dX8_fewest_338 : decode cX8_fewest 338 = .ok (.iload_n 1, 1) := by decide +kernel
theorem dX8_fewest_339 : decode cX8_fewest 339 = .ok (.iload_n 3, 1) := by decide +kernel
theorem dX8_fewest_340 : decode cX8_fewest 340 = .ok (.invokevirtual 206, 3) := by decide +kernel
theorem dX8_fewest_343 : decode cX8_fewest 343 = .ok (.iinc 3 1, 3) := by decide +kernel
theorem dX8_fewest_346 : decode cX8_fewest 346 = .ok (.goto (-135), 3) := by decide +kernel
theorem dX8_fewest_349 : decode cX8_fewest 349 = .ok (.iinc 1 1, 3) := by decide +kernel
theorem dX8_fewest_352 : decode cX8_fewest 352 = .ok (.goto (-193), 3) := by decide +kernel
theorem dX8_fewest_355 : decode cX8_fewest 355 = .ok (.iconst (-1), 1) := by decide +kernel
theorem dX8_fewest_356 : decode cX8_fewest 356 = .ok (.ireturn, 1) := by decide +kernel
theorem dX8_frame_0 : decode cX8_frame 0 = .ok (.aload_n 0, 1) := by decide +kernel
theorem dX8_frame_1 : decode cX8_frame 1 = .ok (.iconst 0, 1) := by decide +kernel
theorem dX8_frame_2 : decode cX8_frame 2 = .ok (.putfield 137, 3) := by decide +kernel
theorem dX8_frame_5 : decode cX8_frame 5 = .ok (.iload_n 1, 1) := by decide +kernel
theorem dX8_frame_6 : decode cX8_frame 6 = .ok (.i2l, 1) := by decide +kernel
theorem dX8_frame_7 : decode cX8_frame 7 = .ok (.lconst 0, 1) := by decide +kernel
theorem dX8_frame_8 : decode cX8_frame 8 = .ok (.aload_n 0, 1) := by decide +kernel
theorem dX8_frame_9 : decode cX8_frame 9 = .ok (.getfield 199, 3) := by decide +kernel
theorem dX8_frame_12 : decode cX8_frame 12 = .ok (.iconst 1, 1) := by decide +kernel
theorem dX8_frame_13 : decode cX8_frame 13 = .ok (.isub, 1) := by decide +kernel
theorem dX8_frame_14 : decode cX8_frame 14 = .ok (.i2l, 1) := by decide +kernel
theorem dX8_frame_15 : decode cX8_frame 15 = .ok (.invokestatic 142, 3) := by decide +kernel
theorem dX8_frame_18 : decode cX8_frame 18 = .ok (.ifCond .eq 12, 3) := by decide +kernel
theorem dX8_frame_21 : decode cX8_frame 21 = .ok (.aload_n 0, 1) := by decide +kernel
theorem dX8_frame_22 : decode cX8_frame 22 = .ok (.getfield 82, 3) := by decide +kernel
theorem dX8_frame_25 : decode cX8_frame 25 = .ok (.iload_n 1, 1) := by decide +kernel
theorem dX8_frame_26 : decode cX8_frame 26 = .ok (.iaload, 1) := by decide +kernel
theorem dX8_frame_27 : decode cX8_frame 27 = .ok (.goto 4, 3) := by decide +kernel
theorem dX8_frame_30 : decode cX8_frame 30 = .ok (.iconst (-1), 1) := by decide +kernel
theorem dX8_frame_31 : decode cX8_frame 31 = .ok (.ireturn, 1) := by decide +kernel
theorem dX8_frameOf_0 : decode cX8_frameOf 0 = .ok (.aload_n 0, 1) := by decide +kernel
theorem dX8_frameOf_1 : decode cX8_frameOf 1 = .ok (.iconst 0, 1) := by decide +kernel
theorem dX8_frameOf_2 : decode cX8_frameOf 2 = .ok (.putfield 137, 3) := by decide +kernel
theorem dX8_frameOf_5 : decode cX8_frameOf 5 = .ok (.iload_n 1, 1) := by decide +kernel
theorem dX8_frameOf_6 : decode cX8_frameOf 6 = .ok (.invokestatic 146, 3) := by decide +kernel
theorem dX8_frameOf_9 : decode cX8_frameOf 9 = .ok (.ifCond .ne 6, 3) := by decide +kernel
theorem dX8_frameOf_12 : decode cX8_frameOf 12 = .ok (.bipush (-2), 2) := by decide +kernel
theorem dX8_frameOf_14 : decode cX8_frameOf 14 = .ok (.ireturn, 1) := by decide +kernel
theorem dX8_frameOf_15 : decode cX8_frameOf 15 = .ok (.aload_n 0, 1) := by decide +kernel
theorem dX8_frameOf_16 : decode cX8_frameOf 16 = .ok (.getfield 9, 3) := by decide +kernel
theorem dX8_frameOf_19 : decode cX8_frameOf 19 = .ok (.iload_n 1, 1) := by decide +kernel
theorem dX8_frameOf_20 : decode cX8_frameOf 20 = .ok (.iaload, 1) := by decide +kernel
theorem dX8_frameOf_21 : decode cX8_frameOf 21 = .ok (.ifCond .ge 6, 3) := by decide +kernel
theorem dX8_frameOf_24 : decode cX8_frameOf 24 = .ok (.bipush (-5), 2) := by decide +kernel
theorem dX8_frameOf_26 : decode cX8_frameOf 26 = .ok (.ireturn, 1) := by decide +kernel
theorem dX8_frameOf_27 : decode cX8_frameOf 27 = .ok (.aload_n 0, 1) := by decide +kernel
theorem dX8_frameOf_28 : decode cX8_frameOf 28 = .ok (.getfield 13, 3) := by decide +kernel
theorem dX8_frameOf_31 : decode cX8_frameOf 31 = .ok (.iload_n 1, 1) := by decide +kernel
theorem dX8_frameOf_32 : decode cX8_frameOf 32 = .ok (.iaload, 1) := by decide +kernel
theorem dX8_frameOf_33 : decode cX8_frameOf 33 = .ok (.ifCond .ne 6, 3) := by decide +kernel
theorem dX8_frameOf_36 : decode cX8_frameOf 36 = .ok (.bipush (-8), 2) := by decide +kernel
theorem dX8_frameOf_38 : decode cX8_frameOf 38 = .ok (.ireturn, 1) := by decide +kernel
theorem dX8_frameOf_39 : decode cX8_frameOf 39 = .ok (.bipush 12, 2) := by decide +kernel
theorem dX8_frameOf_41 : decode cX8_frameOf 41 = .ok (.aload_n 0, 1) := by decide +kernel
theorem dX8_frameOf_42 : decode cX8_frameOf 42 = .ok (.getfield 13, 3) := by decide +kernel
theorem dX8_frameOf_45 : decode cX8_frameOf 45 = .ok (.iload_n 1, 1) := by decide +kernel
theorem dX8_frameOf_46 : decode cX8_frameOf 46 = .ok (.iaload, 1) := by decide +kernel
theorem dX8_frameOf_47 : decode cX8_frameOf 47 = .ok (.invokestatic 221, 3) := by decide +kernel
theorem dX8_frameOf_50 : decode cX8_frameOf 50 = .ok (.istore_n 2, 1) := by decide +kernel
theorem dX8_frameOf_51 : decode cX8_frameOf 51 = .ok (.iconst 0, 1) := by decide +kernel
theorem dX8_frameOf_52 : decode cX8_frameOf 52 = .ok (.istore_n 3, 1) := by decide +kernel
theorem dX8_frameOf_53 : decode cX8_frameOf 53 = .ok (.iload_n 3, 1) := by decide +kernel
theorem dX8_frameOf_54 : decode cX8_frameOf 54 = .ok (.iload_n 2, 1) := by decide +kernel
theorem dX8_frameOf_55 : decode cX8_frameOf 55 = .ok (.if_icmp .ge 30, 3) := by decide +kernel
theorem dX8_frameOf_58 : decode cX8_frameOf 58 = .ok (.aload_n 0, 1) := by decide +kernel
theorem dX8_frameOf_59 : decode cX8_frameOf 59 = .ok (.aload_n 0, 1) := by decide +kernel
theorem dX8_frameOf_60 : decode cX8_frameOf 60 = .ok (.getfield 16, 3) := by decide +kernel
theorem dX8_frameOf_63 : decode cX8_frameOf 63 = .ok (.bipush 60, 2) := by decide +kernel
theorem dX8_frameOf_65 : decode cX8_frameOf 65 = .ok (.iload_n 1, 1) := by decide +kernel
theorem dX8_frameOf_66 : decode cX8_frameOf 66 = .ok (.imul, 1) := by decide +kernel
theorem dX8_frameOf_67 : decode cX8_frameOf 67 = .ok (.iload_n 3, 1) := by decide +kernel
theorem dX8_frameOf_68 : decode cX8_frameOf 68 = .ok (.iadd, 1) := by decide +kernel
theorem dX8_frameOf_69 : decode cX8_frameOf 69 = .ok (.laload, 1) := by decide +kernel
theorem dX8_frameOf_70 : decode cX8_frameOf 70 = .ok (.invokevirtual 189, 3) := by decide +kernel
theorem dX8_frameOf_73 : decode cX8_frameOf 73 = .ok (.ifCond .ne 6, 3) := by decide +kernel
theorem dX8_frameOf_76 : decode cX8_frameOf 76 = .ok (.bipush (-4), 2) := by decide +kernel
theorem dX8_frameOf_78 : decode cX8_frameOf 78 = .ok (.ireturn, 1) := by decide +kernel
theorem dX8_frameOf_79 : decode cX8_frameOf 79 = .ok (.iinc 3 1, 3) := by decide +kernel
theorem dX8_frameOf_82 : decode cX8_frameOf 82 = .ok (.goto (-29), 3) := by decide +kernel
theorem dX8_frameOf_85 : decode cX8_frameOf 85 = .ok (.iconst 0, 1) := by decide +kernel
theorem dX8_frameOf_86 : decode cX8_frameOf 86 = .ok (.istore_n 3, 1) := by decide +kernel
theorem dX8_frameOf_87 : decode cX8_frameOf 87 = .ok (.iload_n 3, 1) := by decide +kernel
theorem dX8_frameOf_88 : decode cX8_frameOf 88 = .ok (.iload_n 2, 1) := by decide +kernel
theorem dX8_frameOf_89 : decode cX8_frameOf 89 = .ok (.if_icmp .ge 27, 3) := by decide +kernel
theorem dX8_frameOf_92 : decode cX8_frameOf 92 = .ok (.aload_n 0, 1) := by decide +kernel
theorem dX8_frameOf_93 : decode cX8_frameOf 93 = .ok (.getfield 82, 3) := by decide +kernel
theorem dX8_frameOf_96 : decode cX8_frameOf 96 = .ok (.iload_n 3, 1) := by decide +kernel
theorem dX8_frameOf_97 : decode cX8_frameOf 97 = .ok (.aload_n 0, 1) := by decide +kernel
theorem dX8_frameOf_98 : decode cX8_frameOf 98 = .ok (.getfield 16, 3) := by decide +kernel
theorem dX8_frameOf_101 : decode cX8_frameOf 101 = .ok (.bipush 60, 2) := by decide +kernel
theorem dX8_frameOf_103 : decode cX8_frameOf 103 = .ok (.iload_n 1, 1) := by decide +kernel
theorem dX8_frameOf_104 : decode cX8_frameOf 104 = .ok (.imul, 1) := by decide +kernel
theorem dX8_frameOf_105 : decode cX8_frameOf 105 = .ok (.iload_n 3, 1) := by decide +kernel
theorem dX8_frameOf_106 : decode cX8_frameOf 106 = .ok (.iadd, 1) := by decide +kernel
theorem dX8_frameOf_107 : decode cX8_frameOf 107 = .ok (.laload, 1) := by decide +kernel
theorem dX8_frameOf_108 : decode cX8_frameOf 108 = .ok (.l2i, 1) := by decide +kernel
theorem dX8_frameOf_109 : decode cX8_frameOf 109 = .ok (.iastore, 1) := by decide +kernel
theorem dX8_frameOf_110 : decode cX8_frameOf 110 = .ok (.iinc 3 1, 3) := by decide +kernel
theorem dX8_frameOf_113 : decode cX8_frameOf 113 = .ok (.goto (-26), 3) := by decide +kernel
theorem dX8_frameOf_116 : decode cX8_frameOf 116 = .ok (.aload_n 0, 1) := by decide +kernel
theorem dX8_frameOf_117 : decode cX8_frameOf 117 = .ok (.iload_n 2, 1) := by decide +kernel
theorem dX8_frameOf_118 : decode cX8_frameOf 118 = .ok (.putfield 199, 3) := by decide +kernel
theorem dX8_frameOf_121 : decode cX8_frameOf 121 = .ok (.iload_n 2, 1) := by decide +kernel
theorem dX8_frameOf_122 : decode cX8_frameOf 122 = .ok (.ireturn, 1) := by decide +kernel
theorem dX8_proof_0 : decode cX8_proof 0 = .ok (.aload_n 0, 1) := by decide +kernel
theorem dX8_proof_1 : decode cX8_proof 1 = .ok (.iconst 0, 1) := by decide +kernel
theorem dX8_proof_2 : decode cX8_proof 2 = .ok (.putfield 137, 3) := by decide +kernel
theorem dX8_proof_5 : decode cX8_proof 5 = .ok (.aload_n 0, 1) := by decide +kernel
theorem dX8_proof_6 : decode cX8_proof 6 = .ok (.iload_n 1, 1) := by decide +kernel
theorem dX8_proof_7 : decode cX8_proof 7 = .ok (.ldc2_w 226, 3) := by decide +kernel
theorem dX8_proof_10 : decode cX8_proof 10 = .ok (.invokevirtual 177, 3) := by decide +kernel
theorem dX8_proof_13 : decode cX8_proof 13 = .ok (.istore_n 2, 1) := by decide +kernel
theorem dX8_proof_14 : decode cX8_proof 14 = .ok (.iload_n 2, 1) := by decide +kernel
theorem dX8_proof_15 : decode cX8_proof 15 = .ok (.ifCond .ge 6, 3) := by decide +kernel
end
section
theorem dX8_proof_18 : decode cX8_proof 18 = .ok (.iload_n 2, 1) := by decide +kernel
theorem dX8_proof_19 : decode cX8_proof 19 = .ok (.i2l, 1) := by decide +kernel
theorem dX8_proof_20 : decode cX8_proof 20 = .ok (.lreturn, 1) := by decide +kernel
theorem dX8_proof_21 : decode cX8_proof 21 = .ok (.lconst 0, 1) := by decide +kernel
theorem dX8_proof_22 : decode cX8_proof 22 = .ok (.lstore_n 3, 1) := by decide +kernel
theorem dX8_proof_23 : decode cX8_proof 23 = .ok (.iconst 0, 1) := by decide +kernel
theorem dX8_proof_24 : decode cX8_proof 24 = .ok (.istore 5, 2) := by decide +kernel
theorem dX8_proof_26 : decode cX8_proof 26 = .ok (.iload 5, 2) := by decide +kernel
theorem dX8_proof_28 : decode cX8_proof 28 = .ok (.aload_n 0, 1) := by decide +kernel
theorem dX8_proof_29 : decode cX8_proof 29 = .ok (.getfield 154, 3) := by decide +kernel
theorem dX8_proof_32 : decode cX8_proof 32 = .ok (.if_icmp .ge 33, 3) := by decide +kernel
theorem dX8_proof_35 : decode cX8_proof 35 = .ok (.lload_n 3, 1) := by decide +kernel
theorem dX8_proof_36 : decode cX8_proof 36 = .ok (.aload_n 0, 1) := by decide +kernel
theorem dX8_proof_37 : decode cX8_proof 37 = .ok (.getfield 54, 3) := by decide +kernel
theorem dX8_proof_40 : decode cX8_proof 40 = .ok (.iload 5, 2) := by decide +kernel
theorem dX8_proof_42 : decode cX8_proof 42 = .ok (.iaload, 1) := by decide +kernel
theorem dX8_proof_43 : decode cX8_proof 43 = .ok (.i2l, 1) := by decide +kernel
theorem dX8_proof_44 : decode cX8_proof 44 = .ok (.aload_n 0, 1) := by decide +kernel
theorem dX8_proof_45 : decode cX8_proof 45 = .ok (.getfield 16, 3) := by decide +kernel
theorem dX8_proof_48 : decode cX8_proof 48 = .ok (.bipush 60, 2) := by decide +kernel
theorem dX8_proof_50 : decode cX8_proof 50 = .ok (.iload_n 1, 1) := by decide +kernel
theorem dX8_proof_51 : decode cX8_proof 51 = .ok (.imul, 1) := by decide +kernel
theorem dX8_proof_52 : decode cX8_proof 52 = .ok (.iload 5, 2) := by decide +kernel
theorem dX8_proof_54 : decode cX8_proof 54 = .ok (.iadd, 1) := by decide +kernel
theorem dX8_proof_55 : decode cX8_proof 55 = .ok (.laload, 1) := by decide +kernel
theorem dX8_proof_56 : decode cX8_proof 56 = .ok (.lmul, 1) := by decide +kernel
theorem dX8_proof_57 : decode cX8_proof 57 = .ok (.ladd, 1) := by decide +kernel
theorem dX8_proof_58 : decode cX8_proof 58 = .ok (.lstore_n 3, 1) := by decide +kernel
theorem dX8_proof_59 : decode cX8_proof 59 = .ok (.iinc 5 1, 3) := by decide +kernel
theorem dX8_proof_62 : decode cX8_proof 62 = .ok (.goto (-36), 3) := by decide +kernel
theorem dX8_proof_65 : decode cX8_proof 65 = .ok (.lconst 0, 1) := by decide +kernel
theorem dX8_proof_66 : decode cX8_proof 66 = .ok (.lstore 5, 2) := by decide +kernel
theorem dX8_proof_68 : decode cX8_proof 68 = .ok (.iconst 0, 1) := by decide +kernel
theorem dX8_proof_69 : decode cX8_proof 69 = .ok (.istore 7, 2) := by decide +kernel
theorem dX8_proof_71 : decode cX8_proof 71 = .ok (.iload 7, 2) := by decide +kernel
theorem dX8_proof_73 : decode cX8_proof 73 = .ok (.iconst 1, 1) := by decide +kernel
theorem dX8_proof_74 : decode cX8_proof 74 = .ok (.aload_n 0, 1) := by decide +kernel
theorem dX8_proof_75 : decode cX8_proof 75 = .ok (.getfield 154, 3) := by decide +kernel
theorem dX8_proof_78 : decode cX8_proof 78 = .ok (.ishl, 1) := by decide +kernel
theorem dX8_proof_79 : decode cX8_proof 79 = .ok (.if_icmp .ge 83, 3) := by decide +kernel
theorem dX8_proof_82 : decode cX8_proof 82 = .ok (.aload_n 0, 1) := by decide +kernel
theorem dX8_proof_83 : decode cX8_proof 83 = .ok (.iload 7, 2) := by decide +kernel
theorem dX8_proof_85 : decode cX8_proof 85 = .ok (.invokevirtual 193, 3) := by decide +kernel
theorem dX8_proof_88 : decode cX8_proof 88 = .ok (.ifCond .ne 6, 3) := by decide +kernel
theorem dX8_proof_91 : decode cX8_proof 91 = .ok (.goto 65, 3) := by decide +kernel
theorem dX8_proof_94 : decode cX8_proof 94 = .ok (.lconst 0, 1) := by decide +kernel
theorem dX8_proof_95 : decode cX8_proof 95 = .ok (.lstore 8, 2) := by decide +kernel
theorem dX8_proof_97 : decode cX8_proof 97 = .ok (.iconst 0, 1) := by decide +kernel
theorem dX8_proof_98 : decode cX8_proof 98 = .ok (.istore 10, 2) := by decide +kernel
theorem dX8_proof_100 : decode cX8_proof 100 = .ok (.iload 10, 2) := by decide +kernel
theorem dX8_proof_102 : decode cX8_proof 102 = .ok (.aload_n 0, 1) := by decide +kernel
theorem dX8_proof_103 : decode cX8_proof 103 = .ok (.getfield 154, 3) := by decide +kernel
theorem dX8_proof_106 : decode cX8_proof 106 = .ok (.if_icmp .ge 41, 3) := by decide +kernel
theorem dX8_proof_109 : decode cX8_proof 109 = .ok (.lload 8, 2) := by decide +kernel
theorem dX8_proof_111 : decode cX8_proof 111 = .ok (.iload 7, 2) := by decide +kernel
theorem dX8_proof_113 : decode cX8_proof 113 = .ok (.iload 10, 2) := by decide +kernel
theorem dX8_proof_115 : decode cX8_proof 115 = .ok (.ishr, 1) := by decide +kernel
theorem dX8_proof_116 : decode cX8_proof 116 = .ok (.iconst 1, 1) := by decide +kernel
theorem dX8_proof_117 : decode cX8_proof 117 = .ok (.iand, 1) := by decide +kernel
theorem dX8_proof_118 : decode cX8_proof 118 = .ok (.iconst 1, 1) := by decide +kernel
theorem dX8_proof_119 : decode cX8_proof 119 = .ok (.if_icmp .ne 18, 3) := by decide +kernel
theorem dX8_proof_122 : decode cX8_proof 122 = .ok (.aload_n 0, 1) := by decide +kernel
theorem dX8_proof_123 : decode cX8_proof 123 = .ok (.getfield 16, 3) := by decide +kernel
theorem dX8_proof_126 : decode cX8_proof 126 = .ok (.bipush 60, 2) := by decide +kernel
theorem dX8_proof_128 : decode cX8_proof 128 = .ok (.iload_n 1, 1) := by decide +kernel
theorem dX8_proof_129 : decode cX8_proof 129 = .ok (.imul, 1) := by decide +kernel
theorem dX8_proof_130 : decode cX8_proof 130 = .ok (.iload 10, 2) := by decide +kernel
theorem dX8_proof_132 : decode cX8_proof 132 = .ok (.iadd, 1) := by decide +kernel
theorem dX8_proof_133 : decode cX8_proof 133 = .ok (.laload, 1) := by decide +kernel
theorem dX8_proof_134 : decode cX8_proof 134 = .ok (.goto 4, 3) := by decide +kernel
theorem dX8_proof_137 : decode cX8_proof 137 = .ok (.lconst 0, 1) := by decide +kernel
theorem dX8_proof_138 : decode cX8_proof 138 = .ok (.ladd, 1) := by decide +kernel
theorem dX8_proof_139 : decode cX8_proof 139 = .ok (.lstore 8, 2) := by decide +kernel
theorem dX8_proof_141 : decode cX8_proof 141 = .ok (.iinc 10 1, 3) := by decide +kernel
theorem dX8_proof_144 : decode cX8_proof 144 = .ok (.goto (-44), 3) := by decide +kernel
theorem dX8_proof_147 : decode cX8_proof 147 = .ok (.lload 5, 2) := by decide +kernel
theorem dX8_proof_149 : decode cX8_proof 149 = .ok (.lload 8, 2) := by decide +kernel
theorem dX8_proof_151 : decode cX8_proof 151 = .ok (.invokestatic 228, 3) := by decide +kernel
theorem dX8_proof_154 : decode cX8_proof 154 = .ok (.lstore 5, 2) := by decide +kernel
theorem dX8_proof_156 : decode cX8_proof 156 = .ok (.iinc 7 1, 3) := by decide +kernel
theorem dX8_proof_159 : decode cX8_proof 159 = .ok (.goto (-88), 3) := by decide +kernel
theorem dX8_proof_162 : decode cX8_proof 162 = .ok (.lload 5, 2) := by decide +kernel
theorem dX8_proof_164 : decode cX8_proof 164 = .ok (.lconst 0, 1) := by decide +kernel
theorem dX8_proof_165 : decode cX8_proof 165 = .ok (.lcmp, 1) := by decide +kernel
theorem dX8_proof_166 : decode cX8_proof 166 = .ok (.ifCond .ne 17, 3) := by decide +kernel
theorem dX8_proof_169 : decode cX8_proof 169 = .ok (.lload_n 3, 1) := by decide +kernel
theorem dX8_proof_170 : decode cX8_proof 170 = .ok (.lconst 0, 1) := by decide +kernel
theorem dX8_proof_171 : decode cX8_proof 171 = .ok (.lcmp, 1) := by decide +kernel
theorem dX8_proof_172 : decode cX8_proof 172 = .ok (.ifCond .ne 7, 3) := by decide +kernel
theorem dX8_proof_175 : decode cX8_proof 175 = .ok (.lconst 0, 1) := by decide +kernel
theorem dX8_proof_176 : decode cX8_proof 176 = .ok (.goto 6, 3) := by decide +kernel
theorem dX8_proof_179 : decode cX8_proof 179 = .ok (.ldc2_w 232, 3) := by decide +kernel
theorem dX8_proof_182 : decode cX8_proof 182 = .ok (.lreturn, 1) := by decide +kernel
theorem dX8_proof_183 : decode cX8_proof 183 = .ok (.lload_n 3, 1) := by decide +kernel
theorem dX8_proof_184 : decode cX8_proof 184 = .ok (.lload 5, 2) := by decide +kernel
theorem dX8_proof_186 : decode cX8_proof 186 = .ok (.ladd, 1) := by decide +kernel
theorem dX8_proof_187 : decode cX8_proof 187 = .ok (.lconst 1, 1) := by decide +kernel
theorem dX8_proof_188 : decode cX8_proof 188 = .ok (.lsub, 1) := by decide +kernel
theorem dX8_proof_189 : decode cX8_proof 189 = .ok (.lload 5, 2) := by decide +kernel
theorem dX8_proof_191 : decode cX8_proof 191 = .ok (.ldiv, 1) := by decide +kernel
theorem dX8_proof_192 : decode cX8_proof 192 = .ok (.lreturn, 1) := by decide +kernel
theorem dX8_adds_0 : decode cX8_adds 0 = .ok (.lconst 0, 1) := by decide +kernel
theorem dX8_adds_1 : decode cX8_adds 1 = .ok (.lstore_n 2, 1) := by decide +kernel
theorem dX8_adds_2 : decode cX8_adds 2 = .ok (.iconst 0, 1) := by decide +kernel
theorem dX8_adds_3 : decode cX8_adds 3 = .ok (.istore 4, 2) := by decide +kernel
theorem dX8_adds_5 : decode cX8_adds 5 = .ok (.iload 4, 2) := by decide +kernel
theorem dX8_adds_7 : decode cX8_adds 7 = .ok (.bipush 40, 2) := by decide +kernel
theorem dX8_adds_9 : decode cX8_adds 9 = .ok (.if_icmp .ge 39, 3) := by decide +kernel
theorem dX8_adds_12 : decode cX8_adds 12 = .ok (.lload_n 2, 1) := by decide +kernel
theorem dX8_adds_13 : decode cX8_adds 13 = .ok (.aload_n 0, 1) := by decide +kernel
theorem dX8_adds_14 : decode cX8_adds 14 = .ok (.iload 4, 2) := by decide +kernel
theorem dX8_adds_16 : decode cX8_adds 16 = .ok (.iaload, 1) := by decide +kernel
theorem dX8_adds_17 : decode cX8_adds 17 = .ok (.i2l, 1) := by decide +kernel
theorem dX8_adds_18 : decode cX8_adds 18 = .ok (.aload_n 1, 1) := by decide +kernel
theorem dX8_adds_19 : decode cX8_adds 19 = .ok (.iload 4, 2) := by decide +kernel
theorem dX8_adds_21 : decode cX8_adds 21 = .ok (.iaload, 1) := by decide +kernel
theorem dX8_adds_22 : decode cX8_adds 22 = .ok (.i2l, 1) := by decide +kernel
theorem dX8_adds_23 : decode cX8_adds 23 = .ok (.ladd, 1) := by decide +kernel
theorem dX8_adds_24 : decode cX8_adds 24 = .ok (.ladd, 1) := by decide +kernel
theorem dX8_adds_25 : decode cX8_adds 25 = .ok (.lstore_n 2, 1) := by decide +kernel
theorem dX8_adds_26 : decode cX8_adds 26 = .ok (.aload_n 0, 1) := by decide +kernel
theorem dX8_adds_27 : decode cX8_adds 27 = .ok (.iload 4, 2) := by decide +kernel
theorem dX8_adds_29 : decode cX8_adds 29 = .ok (.lload_n 2, 1) := by decide +kernel
theorem dX8_adds_30 : decode cX8_adds 30 = .ok (.ldc2_w 234, 3) := by decide +kernel
theorem dX8_adds_33 : decode cX8_adds 33 = .ok (.lrem, 1) := by decide +kernel
theorem dX8_adds_34 : decode cX8_adds 34 = .ok (.l2i, 1) := by decide +kernel
theorem dX8_adds_35 : decode cX8_adds 35 = .ok (.iastore, 1) := by decide +kernel
theorem dX8_adds_36 : decode cX8_adds 36 = .ok (.lload_n 2, 1) := by decide +kernel
theorem dX8_adds_37 : decode cX8_adds 37 = .ok (.ldc2_w 234, 3) := by decide +kernel
theorem dX8_adds_40 : decode cX8_adds 40 = .ok (.ldiv, 1) := by decide +kernel
theorem dX8_adds_41 : decode cX8_adds 41 = .ok (.lstore_n 2, 1) := by decide +kernel
theorem dX8_adds_42 : decode cX8_adds 42 = .ok (.iinc 4 1, 3) := by decide +kernel
theorem dX8_adds_45 : decode cX8_adds 45 = .ok (.goto (-40), 3) := by decide +kernel
theorem dX8_adds_48 : decode cX8_adds 48 = .ok (.return_, 1) := by decide +kernel
theorem dX8_multiplies_0 : decode cX8_multiplies 0 = .ok (.lconst 0, 1) := by decide +kernel
theorem dX8_multiplies_1 : decode cX8_multiplies 1 = .ok (.lstore_n 2, 1) := by decide +kernel
theorem dX8_multiplies_2 : decode cX8_multiplies 2 = .ok (.iconst 0, 1) := by decide +kernel
theorem dX8_multiplies_3 : decode cX8_multiplies 3 = .ok (.istore 4, 2) := by decide +kernel
theorem dX8_multiplies_5 : decode cX8_multiplies 5 = .ok (.iload 4, 2) := by decide +kernel
theorem dX8_multiplies_7 : decode cX8_multiplies 7 = .ok (.bipush 40, 2) := by decide +kernel
theorem dX8_multiplies_9 : decode cX8_multiplies 9 = .ok (.if_icmp .ge 36, 3) := by decide +kernel
theorem dX8_multiplies_12 : decode cX8_multiplies 12 = .ok (.lload_n 2, 1) := by decide +kernel
theorem dX8_multiplies_13 : decode cX8_multiplies 13 = .ok (.aload_n 0, 1) := by decide +kernel
theorem dX8_multiplies_14 : decode cX8_multiplies 14 = .ok (.iload 4, 2) := by decide +kernel
theorem dX8_multiplies_16 : decode cX8_multiplies 16 = .ok (.iaload, 1) := by decide +kernel
theorem dX8_multiplies_17 : decode cX8_multiplies 17 = .ok (.i2l, 1) := by decide +kernel
theorem dX8_multiplies_18 : decode cX8_multiplies 18 = .ok (.iload_n 1, 1) := by decide +kernel
theorem dX8_multiplies_19 : decode cX8_multiplies 19 = .ok (.i2l, 1) := by decide +kernel
theorem dX8_multiplies_20 : decode cX8_multiplies 20 = .ok (.lmul, 1) := by decide +kernel
theorem dX8_multiplies_21 : decode cX8_multiplies 21 = .ok (.ladd, 1) := by decide +kernel
theorem dX8_multiplies_22 : decode cX8_multiplies 22 = .ok (.lstore_n 2, 1) := by decide +kernel
theorem dX8_multiplies_23 : decode cX8_multiplies 23 = .ok (.aload_n 0, 1) := by decide +kernel
theorem dX8_multiplies_24 : decode cX8_multiplies 24 = .ok (.iload 4, 2) := by decide +kernel
theorem dX8_multiplies_26 : decode cX8_multiplies 26 = .ok (.lload_n 2, 1) := by decide +kernel
theorem dX8_multiplies_27 : decode cX8_multiplies 27 = .ok (.ldc2_w 234, 3) := by decide +kernel
theorem dX8_multiplies_30 : decode cX8_multiplies 30 = .ok (.lrem, 1) := by decide +kernel
theorem dX8_multiplies_31 : decode cX8_multiplies 31 = .ok (.l2i, 1) := by decide +kernel
theorem dX8_multiplies_32 : decode cX8_multiplies 32 = .ok (.iastore, 1) := by decide +kernel
theorem dX8_multiplies_33 : decode cX8_multiplies 33 = .ok (.lload_n 2, 1) := by decide +kernel
theorem dX8_multiplies_34 : decode cX8_multiplies 34 = .ok (.ldc2_w 234, 3) := by decide +kernel
theorem dX8_multiplies_37 : decode cX8_multiplies 37 = .ok (.ldiv, 1) := by decide +kernel
theorem dX8_multiplies_38 : decode cX8_multiplies 38 = .ok (.lstore_n 2, 1) := by decide +kernel
theorem dX8_multiplies_39 : decode cX8_multiplies 39 = .ok (.iinc 4 1, 3) := by decide +kernel
theorem dX8_multiplies_42 : decode cX8_multiplies 42 = .ok (.goto (-37), 3) := by decide +kernel
theorem dX8_multiplies_45 : decode cX8_multiplies 45 = .ok (.return_, 1) := by decide +kernel
theorem dX8_ways_0 : decode cX8_ways 0 = .ok (.aload_n 0, 1) := by decide +kernel
theorem dX8_ways_1 : decode cX8_ways 1 = .ok (.iconst 0, 1) := by decide +kernel
theorem dX8_ways_2 : decode cX8_ways 2 = .ok (.putfield 137, 3) := by decide +kernel
theorem dX8_ways_5 : decode cX8_ways 5 = .ok (.iload_n 1, 1) := by decide +kernel
theorem dX8_ways_6 : decode cX8_ways 6 = .ok (.i2l, 1) := by decide +kernel
theorem dX8_ways_7 : decode cX8_ways 7 = .ok (.lconst 0, 1) := by decide +kernel
theorem dX8_ways_8 : decode cX8_ways 8 = .ok (.ldc2_w 236, 3) := by decide +kernel
theorem dX8_ways_11 : decode cX8_ways 11 = .ok (.invokestatic 142, 3) := by decide +kernel
theorem dX8_ways_14 : decode cX8_ways 14 = .ok (.ifCond .ne 6, 3) := by decide +kernel
theorem dX8_ways_17 : decode cX8_ways 17 = .ok (.bipush (-2), 2) := by decide +kernel
theorem dX8_ways_19 : decode cX8_ways 19 = .ok (.ireturn, 1) := by decide +kernel
theorem dX8_ways_20 : decode cX8_ways 20 = .ok (.iconst 0, 1) := by decide +kernel
theorem dX8_ways_21 : decode cX8_ways 21 = .ok (.istore_n 2, 1) := by decide +kernel
theorem dX8_ways_22 : decode cX8_ways 22 = .ok (.iload_n 2, 1) := by decide +kernel
theorem dX8_ways_23 : decode cX8_ways 23 = .ok (.bipush 40, 2) := by decide +kernel
theorem dX8_ways_25 : decode cX8_ways 25 = .ok (.if_icmp .ge 23, 3) := by decide +kernel
theorem dX8_ways_28 : decode cX8_ways 28 = .ok (.aload_n 0, 1) := by decide +kernel
theorem dX8_ways_29 : decode cX8_ways 29 = .ok (.getfield 122, 3) := by decide +kernel
theorem dX8_ways_32 : decode cX8_ways 32 = .ok (.iload_n 2, 1) := by decide +kernel
theorem dX8_ways_33 : decode cX8_ways 33 = .ok (.iconst 0, 1) := by decide +kernel
theorem dX8_ways_34 : decode cX8_ways 34 = .ok (.iastore, 1) := by decide +kernel
theorem dX8_ways_35 : decode cX8_ways 35 = .ok (.aload_n 0, 1) := by decide +kernel
theorem dX8_ways_36 : decode cX8_ways 36 = .ok (.getfield 125, 3) := by decide +kernel
theorem dX8_ways_39 : decode cX8_ways 39 = .ok (.iload_n 2, 1) := by decide +kernel
theorem dX8_ways_40 : decode cX8_ways 40 = .ok (.iconst 0, 1) := by decide +kernel
theorem dX8_ways_41 : decode cX8_ways 41 = .ok (.iastore, 1) := by decide +kernel
theorem dX8_ways_42 : decode cX8_ways 42 = .ok (.iinc 2 1, 3) := by decide +kernel
theorem dX8_ways_45 : decode cX8_ways 45 = .ok (.goto (-23), 3) := by decide +kernel
theorem dX8_ways_48 : decode cX8_ways 48 = .ok (.iconst 1, 1) := by decide +kernel
theorem dX8_ways_49 : decode cX8_ways 49 = .ok (.aload_n 0, 1) := by decide +kernel
theorem dX8_ways_50 : decode cX8_ways 50 = .ok (.getfield 154, 3) := by decide +kernel
theorem dX8_ways_53 : decode cX8_ways 53 = .ok (.ishl, 1) := by decide +kernel
theorem dX8_ways_54 : decode cX8_ways 54 = .ok (.iconst 1, 1) := by decide +kernel
theorem dX8_ways_55 : decode cX8_ways 55 = .ok (.isub, 1) := by decide +kernel
theorem dX8_ways_56 : decode cX8_ways 56 = .ok (.istore_n 2, 1) := by decide +kernel
theorem dX8_ways_57 : decode cX8_ways 57 = .ok (.iconst 0, 1) := by decide +kernel
theorem dX8_ways_58 : decode cX8_ways 58 = .ok (.istore_n 3, 1) := by decide +kernel
theorem dX8_ways_59 : decode cX8_ways 59 = .ok (.iload_n 3, 1) := by decide +kernel
theorem dX8_ways_60 : decode cX8_ways 60 = .ok (.iload_n 2, 1) := by decide +kernel
theorem dX8_ways_61 : decode cX8_ways 61 = .ok (.if_icmp .gt 20, 3) := by decide +kernel
theorem dX8_ways_64 : decode cX8_ways 64 = .ok (.aload_n 0, 1) := by decide +kernel
theorem dX8_ways_65 : decode cX8_ways 65 = .ok (.getfield 119, 3) := by decide +kernel
theorem dX8_ways_68 : decode cX8_ways 68 = .ok (.iload_n 3, 1) := by decide +kernel
theorem dX8_ways_69 : decode cX8_ways 69 = .ok (.aload_n 0, 1) := by decide +kernel
theorem dX8_ways_70 : decode cX8_ways 70 = .ok (.iload_n 3, 1) := by decide +kernel
theorem dX8_ways_71 : decode cX8_ways 71 = .ok (.invokevirtual 193, 3) := by decide +kernel
theorem dX8_ways_74 : decode cX8_ways 74 = .ok (.bastore, 1) := by decide +kernel
theorem dX8_ways_75 : decode cX8_ways 75 = .ok (.iinc 3 1, 3) := by decide +kernel
theorem dX8_ways_78 : decode cX8_ways 78 = .ok (.goto (-19), 3) := by decide +kernel
theorem dX8_ways_81 : decode cX8_ways 81 = .ok (.iconst 0, 1) := by decide +kernel
theorem dX8_ways_82 : decode cX8_ways 82 = .ok (.istore_n 3, 1) := by decide +kernel
theorem dX8_ways_83 : decode cX8_ways 83 = .ok (.iload_n 3, 1) := by decide +kernel
theorem dX8_ways_84 : decode cX8_ways 84 = .ok (.iload_n 2, 1) := by decide +kernel
theorem dX8_ways_85 : decode cX8_ways 85 = .ok (.if_icmp .gt 188, 3) := by decide +kernel
theorem dX8_ways_88 : decode cX8_ways 88 = .ok (.iconst 0, 1) := by decide +kernel
theorem dX8_ways_89 : decode cX8_ways 89 = .ok (.istore 4, 2) := by decide +kernel
theorem dX8_ways_91 : decode cX8_ways 91 = .ok (.iload_n 3, 1) := by decide +kernel
theorem dX8_ways_92 : decode cX8_ways 92 = .ok (.istore 5, 2) := by decide +kernel
theorem dX8_ways_94 : decode cX8_ways 94 = .ok (.iload 5, 2) := by decide +kernel
theorem dX8_ways_96 : decode cX8_ways 96 = .ok (.ifCond .lt 43, 3) := by decide +kernel
theorem dX8_ways_99 : decode cX8_ways 99 = .ok (.iload 4, 2) := by decide +kernel
theorem dX8_ways_101 : decode cX8_ways 101 = .ok (.aload_n 0, 1) := by decide +kernel
theorem dX8_ways_102 : decode cX8_ways 102 = .ok (.getfield 119, 3) := by decide +kernel
theorem dX8_ways_105 : decode cX8_ways 105 = .ok (.iload 5, 2) := by decide +kernel
theorem dX8_ways_107 : decode cX8_ways 107 = .ok (.baload, 1) := by decide +kernel
theorem dX8_ways_108 : decode cX8_ways 108 = .ok (.ifCond .eq 7, 3) := by decide +kernel
theorem dX8_ways_111 : decode cX8_ways 111 = .ok (.iconst 1, 1) := by decide +kernel
theorem dX8_ways_112 : decode cX8_ways 112 = .ok (.goto 4, 3) := by decide +kernel
theorem dX8_ways_115 : decode cX8_ways 115 = .ok (.iconst 0, 1) := by decide +kernel
theorem dX8_ways_116 : decode cX8_ways 116 = .ok (.iadd, 1) := by decide +kernel
theorem dX8_ways_117 : decode cX8_ways 117 = .ok (.istore 4, 2) := by decide +kernel
theorem dX8_ways_119 : decode cX8_ways 119 = .ok (.iload 5, 2) := by decide +kernel
theorem dX8_ways_121 : decode cX8_ways 121 = .ok (.ifCond .ne 7, 3) := by decide +kernel
theorem dX8_ways_124 : decode cX8_ways 124 = .ok (.iconst (-1), 1) := by decide +kernel
theorem dX8_ways_125 : decode cX8_ways 125 = .ok (.goto 9, 3) := by decide +kernel
theorem dX8_ways_128 : decode cX8_ways 128 = .ok (.iload 5, 2) := by decide +kernel
theorem dX8_ways_130 : decode cX8_ways 130 = .ok (.iconst 1, 1) := by decide +kernel
theorem dX8_ways_131 : decode cX8_ways 131 = .ok (.isub, 1) := by decide +kernel
theorem dX8_ways_132 : decode cX8_ways 132 = .ok (.iload_n 3, 1) := by decide +kernel
theorem dX8_ways_133 : decode cX8_ways 133 = .ok (.iand, 1) := by decide +kernel
theorem dX8_ways_134 : decode cX8_ways 134 = .ok (.istore 5, 2) := by decide +kernel
theorem dX8_ways_136 : decode cX8_ways 136 = .ok (.goto (-42), 3) := by decide +kernel
theorem dX8_ways_139 : decode cX8_ways 139 = .ok (.iconst 0, 1) := by decide +kernel
theorem dX8_ways_140 : decode cX8_ways 140 = .ok (.istore 5, 2) := by decide +kernel
theorem dX8_ways_142 : decode cX8_ways 142 = .ok (.iload 5, 2) := by decide +kernel
theorem dX8_ways_144 : decode cX8_ways 144 = .ok (.bipush 40, 2) := by decide +kernel
theorem dX8_ways_146 : decode cX8_ways 146 = .ok (.if_icmp .ge 26, 3) := by decide +kernel
theorem dX8_ways_149 : decode cX8_ways 149 = .ok (.aload_n 0, 1) := by decide +kernel
theorem dX8_ways_150 : decode cX8_ways 150 = .ok (.getfield 128, 3) := by decide +kernel
theorem dX8_ways_153 : decode cX8_ways 153 = .ok (.iload 5, 2) := by decide +kernel
theorem dX8_ways_155 : decode cX8_ways 155 = .ok (.iload 5, 2) := by decide +kernel
theorem dX8_ways_157 : decode cX8_ways 157 = .ok (.ifCond .ne 7, 3) := by decide +kernel
theorem dX8_ways_160 : decode cX8_ways 160 = .ok (.iconst 1, 1) := by decide +kernel
theorem dX8_ways_161 : decode cX8_ways 161 = .ok (.goto 4, 3) := by decide +kernel
theorem dX8_ways_164 : decode cX8_ways 164 = .ok (.iconst 0, 1) := by decide +kernel
theorem dX8_ways_165 : decode cX8_ways 165 = .ok (.iastore, 1) := by decide +kernel
theorem dX8_ways_166 : decode cX8_ways 166 = .ok (.iinc 5 1, 3) := by decide +kernel
theorem dX8_ways_169 : decode cX8_ways 169 = .ok (.goto (-27), 3) := by decide +kernel
theorem dX8_ways_172 : decode cX8_ways 172 = .ok (.iconst 0, 1) := by decide +kernel
theorem dX8_ways_173 : decode cX8_ways 173 = .ok (.istore 5, 2) := by decide +kernel
theorem dX8_ways_175 : decode cX8_ways 175 = .ok (.iload 5, 2) := by decide +kernel
theorem dX8_ways_177 : decode cX8_ways 177 = .ok (.iload_n 1, 1) := by decide +kernel
theorem dX8_ways_178 : decode cX8_ways 178 = .ok (.if_icmp .ge 18, 3) := by decide +kernel
theorem dX8_ways_181 : decode cX8_ways 181 = .ok (.aload_n 0, 1) := by decide +kernel
theorem dX8_ways_182 : decode cX8_ways 182 = .ok (.getfield 128, 3) := by decide +kernel
theorem dX8_ways_185 : decode cX8_ways 185 = .ok (.iload 4, 2) := by decide +kernel
theorem dX8_ways_187 : decode cX8_ways 187 = .ok (.invokestatic 238, 3) := by decide +kernel
theorem dX8_ways_190 : decode cX8_ways 190 = .ok (.iinc 5 1, 3) := by decide +kernel
theorem dX8_ways_193 : decode cX8_ways 193 = .ok (.goto (-18), 3) := by decide +kernel
theorem dX8_ways_196 : decode cX8_ways 196 = .ok (.iconst 0, 1) := by decide +kernel
theorem dX8_ways_197 : decode cX8_ways 197 = .ok (.istore 5, 2) := by decide +kernel
theorem dX8_ways_199 : decode cX8_ways 199 = .ok (.iconst 0, 1) := by decide +kernel
theorem dX8_ways_200 : decode cX8_ways 200 = .ok (.istore 6, 2) := by decide +kernel
theorem dX8_ways_202 : decode cX8_ways 202 = .ok (.iload 6, 2) := by decide +kernel
theorem dX8_ways_204 : decode cX8_ways 204 = .ok (.aload_n 0, 1) := by decide +kernel
theorem dX8_ways_205 : decode cX8_ways 205 = .ok (.getfield 154, 3) := by decide +kernel
theorem dX8_ways_208 : decode cX8_ways 208 = .ok (.if_icmp .ge 36, 3) := by decide +kernel
theorem dX8_ways_211 : decode cX8_ways 211 = .ok (.iload_n 3, 1) := by decide +kernel
theorem dX8_ways_212 : decode cX8_ways 212 = .ok (.iload 6, 2) := by decide +kernel
theorem dX8_ways_214 : decode cX8_ways 214 = .ok (.ishr, 1) := by decide +kernel
theorem dX8_ways_215 : decode cX8_ways 215 = .ok (.iconst 1, 1) := by decide +kernel
theorem dX8_ways_216 : decode cX8_ways 216 = .ok (.iand, 1) := by decide +kernel
theorem dX8_ways_217 : decode cX8_ways 217 = .ok (.iconst 1, 1) := by decide +kernel
theorem dX8_ways_218 : decode cX8_ways 218 = .ok (.if_icmp .ne 8, 3) := by decide +kernel
theorem dX8_ways_221 : decode cX8_ways 221 = .ok (.iload 5, 2) := by decide +kernel
theorem dX8_ways_223 : decode cX8_ways 223 = .ok (.goto 13, 3) := by decide +kernel
theorem dX8_ways_226 : decode cX8_ways 226 = .ok (.iload 5, 2) := by decide +kernel
theorem dX8_ways_228 : decode cX8_ways 228 = .ok (.ifCond .ne 7, 3) := by decide +kernel
theorem dX8_ways_231 : decode cX8_ways 231 = .ok (.iconst 1, 1) := by decide +kernel
theorem dX8_ways_232 : decode cX8_ways 232 = .ok (.goto 4, 3) := by decide +kernel
theorem dX8_ways_235 : decode cX8_ways 235 = .ok (.iconst 0, 1) := by decide +kernel
theorem dX8_ways_236 : decode cX8_ways 236 = .ok (.istore 5, 2) := by decide +kernel
theorem dX8_ways_238 : decode cX8_ways 238 = .ok (.iinc 6 1, 3) := by decide +kernel
theorem dX8_ways_241 : decode cX8_ways 241 = .ok (.goto (-39), 3) := by decide +kernel
theorem dX8_ways_244 : decode cX8_ways 244 = .ok (.iload 5, 2) := by decide +kernel
theorem dX8_ways_246 : decode cX8_ways 246 = .ok (.ifCond .eq 10, 3) := by decide +kernel
theorem dX8_ways_249 : decode cX8_ways 249 = .ok (.aload_n 0, 1) := by decide +kernel
theorem dX8_ways_250 : decode cX8_ways 250 = .ok (.getfield 125, 3) := by decide +kernel
theorem dX8_ways_253 : decode cX8_ways 253 = .ok (.goto 7, 3) := by decide +kernel
theorem dX8_ways_256 : decode cX8_ways 256 = .ok (.aload_n 0, 1) := by decide +kernel
theorem dX8_ways_257 : decode cX8_ways 257 = .ok (.getfield 122, 3) := by decide +kernel
theorem dX8_ways_260 : decode cX8_ways 260 = .ok (.aload_n 0, 1) := by decide +kernel
theorem dX8_ways_261 : decode cX8_ways 261 = .ok (.getfield 128, 3) := by decide +kernel
theorem dX8_ways_264 : decode cX8_ways 264 = .ok (.invokestatic 242, 3) := by decide +kernel
theorem dX8_ways_267 : decode cX8_ways 267 = .ok (.iinc 3 1, 3) := by decide +kernel
theorem dX8_ways_270 : decode cX8_ways 270 = .ok (.goto (-187), 3) := by decide +kernel
theorem dX8_ways_273 : decode cX8_ways 273 = .ok (.iconst 0, 1) := by decide +kernel
theorem dX8_ways_274 : decode cX8_ways 274 = .ok (.istore_n 3, 1) := by decide +kernel
theorem dX8_ways_275 : decode cX8_ways 275 = .ok (.aload_n 0, 1) := by decide +kernel
theorem dX8_ways_276 : decode cX8_ways 276 = .ok (.iconst 1, 1) := by decide +kernel
theorem dX8_ways_277 : decode cX8_ways 277 = .ok (.putfield 246, 3) := by decide +kernel
theorem dX8_ways_280 : decode cX8_ways 280 = .ok (.iconst 0, 1) := by decide +kernel
theorem dX8_ways_281 : decode cX8_ways 281 = .ok (.istore 4, 2) := by decide +kernel
theorem dX8_ways_283 : decode cX8_ways 283 = .ok (.iload 4, 2) := by decide +kernel
theorem dX8_ways_285 : decode cX8_ways 285 = .ok (.bipush 40, 2) := by decide +kernel
theorem dX8_ways_287 : decode cX8_ways 287 = .ok (.if_icmp .ge 111, 3) := by decide +kernel
theorem dX8_ways_290 : decode cX8_ways 290 = .ok (.aload_n 0, 1) := by decide +kernel
theorem dX8_ways_291 : decode cX8_ways 291 = .ok (.getfield 122, 3) := by decide +kernel
theorem dX8_ways_294 : decode cX8_ways 294 = .ok (.iload 4, 2) := by decide +kernel
theorem dX8_ways_296 : decode cX8_ways 296 = .ok (.iaload, 1) := by decide +kernel
theorem dX8_ways_297 : decode cX8_ways 297 = .ok (.aload_n 0, 1) := by decide +kernel
theorem dX8_ways_298 : decode cX8_ways 298 = .ok (.getfield 125, 3) := by decide +kernel
theorem dX8_ways_301 : decode cX8_ways 301 = .ok (.iload 4, 2) := by decide +kernel
theorem dX8_ways_303 : decode cX8_ways 303 = .ok (.iaload, 1) := by decide +kernel
theorem dX8_ways_304 : decode cX8_ways 304 = .ok (.isub, 1) := by decide +kernel
theorem dX8_ways_305 : decode cX8_ways 305 = .ok (.iload_n 3, 1) := by decide +kernel
theorem dX8_ways_306 : decode cX8_ways 306 = .ok (.isub, 1) := by decide +kernel
theorem dX8_ways_307 : decode cX8_ways 307 = .ok (.istore 5, 2) := by decide +kernel
theorem dX8_ways_309 : decode cX8_ways 309 = .ok (.iload 5, 2) := by decide +kernel
theorem dX8_ways_311 : decode cX8_ways 311 = .ok (.ifCond .ge 7, 3) := by decide +kernel
theorem dX8_ways_314 : decode cX8_ways 314 = .ok (.iconst 1, 1) := by decide +kernel
theorem dX8_ways_315 : decode cX8_ways 315 = .ok (.goto 4, 3) := by decide +kernel
theorem dX8_ways_318 : decode cX8_ways 318 = .ok (.iconst 0, 1) := by decide +kernel
theorem dX8_ways_319 : decode cX8_ways 319 = .ok (.istore_n 3, 1) := by decide +kernel
theorem dX8_ways_320 : decode cX8_ways 320 = .ok (.iload 5, 2) := by decide +kernel
theorem dX8_ways_322 : decode cX8_ways 322 = .ok (.iload_n 3, 1) := by decide +kernel
theorem dX8_ways_323 : decode cX8_ways 323 = .ok (.ldc 249, 2) := by decide +kernel
theorem dX8_ways_325 : decode cX8_ways 325 = .ok (.imul, 1) := by decide +kernel
theorem dX8_ways_326 : decode cX8_ways 326 = .ok (.iadd, 1) := by decide +kernel
theorem dX8_ways_327 : decode cX8_ways 327 = .ok (.istore 5, 2) := by decide +kernel
theorem dX8_ways_329 : decode cX8_ways 329 = .ok (.iconst 0, 1) := by decide +kernel
theorem dX8_ways_330 : decode cX8_ways 330 = .ok (.istore 6, 2) := by decide +kernel
theorem dX8_ways_332 : decode cX8_ways 332 = .ok (.iload 6, 2) := by decide +kernel
theorem dX8_ways_334 : decode cX8_ways 334 = .ok (.bipush 9, 2) := by decide +kernel
theorem dX8_ways_336 : decode cX8_ways 336 = .ok (.if_icmp .ge 56, 3) := by decide +kernel
theorem dX8_ways_339 : decode cX8_ways 339 = .ok (.aload_n 0, 1) := by decide +kernel
theorem dX8_ways_340 : decode cX8_ways 340 = .ok (.getfield 131, 3) := by decide +kernel
theorem dX8_ways_343 : decode cX8_ways 343 = .ok (.bipush 9, 2) := by decide +kernel
theorem dX8_ways_345 : decode cX8_ways 345 = .ok (.iload 4, 2) := by decide +kernel
theorem dX8_ways_347 : decode cX8_ways 347 = .ok (.imul, 1) := by decide +kernel
theorem dX8_ways_348 : decode cX8_ways 348 = .ok (.iload 6, 2) := by decide +kernel
theorem dX8_ways_350 : decode cX8_ways 350 = .ok (.iadd, 1) := by decide +kernel
theorem dX8_ways_351 : decode cX8_ways 351 = .ok (.iload 5, 2) := by decide +kernel
theorem dX8_ways_353 : decode cX8_ways 353 = .ok (.bipush 10, 2) := by decide +kernel
theorem dX8_ways_355 : decode cX8_ways 355 = .ok (.irem, 1) := by decide +kernel
theorem dX8_ways_356 : decode cX8_ways 356 = .ok (.iastore, 1) := by decide +kernel
theorem dX8_ways_357 : decode cX8_ways 357 = .ok (.iload 5, 2) := by decide +kernel
theorem dX8_ways_359 : decode cX8_ways 359 = .ok (.bipush 10, 2) := by decide +kernel
theorem dX8_ways_361 : decode cX8_ways 361 = .ok (.irem, 1) := by decide +kernel
theorem dX8_ways_362 : decode cX8_ways 362 = .ok (.ifCond .le 17, 3) := by decide +kernel
theorem dX8_ways_365 : decode cX8_ways 365 = .ok (.aload_n 0, 1) := by decide +kernel
theorem dX8_ways_366 : decode cX8_ways 366 = .ok (.bipush 9, 2) := by decide +kernel
theorem dX8_ways_368 : decode cX8_ways 368 = .ok (.iload 4, 2) := by decide +kernel
theorem dX8_ways_370 : decode cX8_ways 370 = .ok (.imul, 1) := by decide +kernel
theorem dX8_ways_371 : decode cX8_ways 371 = .ok (.iload 6, 2) := by decide +kernel
theorem dX8_ways_373 : decode cX8_ways 373 = .ok (.iadd, 1) := by decide +kernel
theorem dX8_ways_374 : decode cX8_ways 374 = .ok (.iconst 1, 1) := by decide +kernel
theorem dX8_ways_375 : decode cX8_ways 375 = .ok (.iadd, 1) := by decide +kernel
theorem dX8_ways_376 : decode cX8_ways 376 = .ok (.putfield 246, 3) := by decide +kernel
theorem dX8_ways_379 : decode cX8_ways 379 = .ok (.iload 5, 2) := by decide +kernel
theorem dX8_ways_381 : decode cX8_ways 381 = .ok (.bipush 10, 2) := by decide +kernel
theorem dX8_ways_383 : decode cX8_ways 383 = .ok (.idiv, 1) := by decide +kernel
theorem dX8_ways_384 : decode cX8_ways 384 = .ok (.istore 5, 2) := by decide +kernel
theorem dX8_ways_386 : decode cX8_ways 386 = .ok (.iinc 6 1, 3) := by decide +kernel
theorem dX8_ways_389 : decode cX8_ways 389 = .ok (.goto (-57), 3) := by decide +kernel
theorem dX8_ways_392 : decode cX8_ways 392 = .ok (.iinc 4 1, 3) := by decide +kernel
theorem dX8_ways_395 : decode cX8_ways 395 = .ok (.goto (-112), 3) := by decide +kernel
theorem dX8_ways_398 : decode cX8_ways 398 = .ok (.aload_n 0, 1) := by decide +kernel
theorem dX8_ways_399 : decode cX8_ways 399 = .ok (.getfield 246, 3) := by decide +kernel
theorem dX8_ways_402 : decode cX8_ways 402 = .ok (.ireturn, 1) := by decide +kernel
theorem dX8_digit_0 : decode cX8_digit 0 = .ok (.aload_n 0, 1) := by decide +kernel
theorem dX8_digit_1 : decode cX8_digit 1 = .ok (.iconst 0, 1) := by decide +kernel
theorem dX8_digit_2 : decode cX8_digit 2 = .ok (.putfield 137, 3) := by decide +kernel
theorem dX8_digit_5 : decode cX8_digit 5 = .ok (.iload_n 1, 1) := by decide +kernel
theorem dX8_digit_6 : decode cX8_digit 6 = .ok (.ifCond .ge 8, 3) := by decide +kernel
theorem dX8_digit_9 : decode cX8_digit 9 = .ok (.bipush (-2), 2) := by decide +kernel
theorem dX8_digit_11 : decode cX8_digit 11 = .ok (.goto 21, 3) := by decide +kernel
theorem dX8_digit_14 : decode cX8_digit 14 = .ok (.iload_n 1, 1) := by decide +kernel
theorem dX8_digit_15 : decode cX8_digit 15 = .ok (.aload_n 0, 1) := by decide +kernel
theorem dX8_digit_16 : decode cX8_digit 16 = .ok (.getfield 246, 3) := by decide +kernel
theorem dX8_digit_19 : decode cX8_digit 19 = .ok (.if_icmp .ge 12, 3) := by decide +kernel
theorem dX8_digit_22 : decode cX8_digit 22 = .ok (.aload_n 0, 1) := by decide +kernel
theorem dX8_digit_23 : decode cX8_digit 23 = .ok (.getfield 131, 3) := by decide +kernel
theorem dX8_digit_26 : decode cX8_digit 26 = .ok (.iload_n 1, 1) := by decide +kernel
theorem dX8_digit_27 : decode cX8_digit 27 = .ok (.iaload, 1) := by decide +kernel
theorem dX8_digit_28 : decode cX8_digit 28 = .ok (.goto 4, 3) := by decide +kernel
theorem dX8_digit_31 : decode cX8_digit 31 = .ok (.iconst 0, 1) := by decide +kernel
theorem dX8_digit_32 : decode cX8_digit 32 = .ok (.ireturn, 1) := by decide +kernel
theorem dX8_rule_0 : decode cX8_rule 0 = .ok (.aload_n 0, 1) := by decide +kernel
theorem dX8_rule_1 : decode cX8_rule 1 = .ok (.iconst 0, 1) := by decide +kernel
theorem dX8_rule_2 : decode cX8_rule 2 = .ok (.putfield 137, 3) := by decide +kernel
theorem dX8_rule_5 : decode cX8_rule 5 = .ok (.iload_n 1, 1) := by decide +kernel
theorem dX8_rule_6 : decode cX8_rule 6 = .ok (.i2l, 1) := by decide +kernel
theorem dX8_rule_7 : decode cX8_rule 7 = .ok (.lconst 0, 1) := by decide +kernel
theorem dX8_rule_8 : decode cX8_rule 8 = .ok (.lconst 1, 1) := by decide +kernel
theorem dX8_rule_9 : decode cX8_rule 9 = .ok (.invokestatic 142, 3) := by decide +kernel
theorem dX8_rule_12 : decode cX8_rule 12 = .ok (.ifCond .ne 6, 3) := by decide +kernel
theorem dX8_rule_15 : decode cX8_rule 15 = .ok (.bipush (-2), 2) := by decide +kernel
theorem dX8_rule_17 : decode cX8_rule 17 = .ok (.ireturn, 1) := by decide +kernel
theorem dX8_rule_18 : decode cX8_rule 18 = .ok (.aload_n 0, 1) := by decide +kernel
theorem dX8_rule_19 : decode cX8_rule 19 = .ok (.getfield 250, 3) := by decide +kernel
theorem dX8_rule_22 : decode cX8_rule 22 = .ok (.istore_n 2, 1) := by decide +kernel
theorem dX8_rule_23 : decode cX8_rule 23 = .ok (.aload_n 0, 1) := by decide +kernel
theorem dX8_rule_24 : decode cX8_rule 24 = .ok (.iload_n 1, 1) := by decide +kernel
theorem dX8_rule_25 : decode cX8_rule 25 = .ok (.putfield 250, 3) := by decide +kernel
theorem dX8_rule_28 : decode cX8_rule 28 = .ok (.iload_n 2, 1) := by decide +kernel
theorem dX8_rule_29 : decode cX8_rule 29 = .ok (.ireturn, 1) := by decide +kernel
theorem dX8_waiting_0 : decode cX8_waiting 0 = .ok (.iconst 0, 1) := by decide +kernel
theorem dX8_waiting_1 : decode cX8_waiting 1 = .ok (.istore_n 2, 1) := by decide +kernel
theorem dX8_waiting_2 : decode cX8_waiting 2 = .ok (.iconst 0, 1) := by decide +kernel
theorem dX8_waiting_3 : decode cX8_waiting 3 = .ok (.istore_n 3, 1) := by decide +kernel
theorem dX8_waiting_4 : decode cX8_waiting 4 = .ok (.iload_n 3, 1) := by decide +kernel
theorem dX8_waiting_5 : decode cX8_waiting 5 = .ok (.bipush 21, 2) := by decide +kernel
theorem dX8_waiting_7 : decode cX8_waiting 7 = .ok (.if_icmp .ge 23, 3) := by decide +kernel
theorem dX8_waiting_10 : decode cX8_waiting 10 = .ok (.iload_n 2, 1) := by decide +kernel
theorem dX8_waiting_11 : decode cX8_waiting 11 = .ok (.aload_n 0, 1) := by decide +kernel
theorem dX8_waiting_12 : decode cX8_waiting 12 = .ok (.getfield 85, 3) := by decide +kernel
theorem dX8_waiting_15 : decode cX8_waiting 15 = .ok (.bipush 21, 2) := by decide +kernel
theorem dX8_waiting_17 : decode cX8_waiting 17 = .ok (.iload_n 1, 1) := by decide +kernel
theorem dX8_waiting_18 : decode cX8_waiting 18 = .ok (.imul, 1) := by decide +kernel
theorem dX8_waiting_19 : decode cX8_waiting 19 = .ok (.iload_n 3, 1) := by decide +kernel
theorem dX8_waiting_20 : decode cX8_waiting 20 = .ok (.iadd, 1) := by decide +kernel
theorem dX8_waiting_21 : decode cX8_waiting 21 = .ok (.iaload, 1) := by decide +kernel
theorem dX8_waiting_22 : decode cX8_waiting 22 = .ok (.iadd, 1) := by decide +kernel
theorem dX8_waiting_23 : decode cX8_waiting 23 = .ok (.istore_n 2, 1) := by decide +kernel
theorem dX8_waiting_24 : decode cX8_waiting 24 = .ok (.iinc 3 1, 3) := by decide +kernel
theorem dX8_waiting_27 : decode cX8_waiting 27 = .ok (.goto (-23), 3) := by decide +kernel
theorem dX8_waiting_30 : decode cX8_waiting 30 = .ok (.iload_n 2, 1) := by decide +kernel
theorem dX8_waiting_31 : decode cX8_waiting 31 = .ok (.ireturn, 1) := by decide +kernel
theorem dX8_byFrame_0 : decode cX8_byFrame 0 = .ok (.aload_n 0, 1) := by decide +kernel
theorem dX8_byFrame_1 : decode cX8_byFrame 1 = .ok (.getfield 199, 3) := by decide +kernel
theorem dX8_byFrame_4 : decode cX8_byFrame 4 = .ok (.ifCond .ne 7, 3) := by decide +kernel
theorem dX8_byFrame_7 : decode cX8_byFrame 7 = .ok (.iconst 0, 1) := by decide +kernel
theorem dX8_byFrame_8 : decode cX8_byFrame 8 = .ok (.goto 17, 3) := by decide +kernel
theorem dX8_byFrame_11 : decode cX8_byFrame 11 = .ok (.aload_n 0, 1) := by decide +kernel
theorem dX8_byFrame_12 : decode cX8_byFrame 12 = .ok (.getfield 82, 3) := by decide +kernel
theorem dX8_byFrame_15 : decode cX8_byFrame 15 = .ok (.aload_n 0, 1) := by decide +kernel
theorem dX8_byFrame_16 : decode cX8_byFrame 16 = .ok (.getfield 253, 3) := by decide +kernel
theorem dX8_byFrame_19 : decode cX8_byFrame 19 = .ok (.aload_n 0, 1) := by decide +kernel
theorem dX8_byFrame_20 : decode cX8_byFrame 20 = .ok (.getfield 199, 3) := by decide +kernel
theorem dX8_byFrame_23 : decode cX8_byFrame 23 = .ok (.irem, 1) := by decide +kernel
theorem dX8_byFrame_24 : decode cX8_byFrame 24 = .ok (.iaload, 1) := by decide +kernel
theorem dX8_byFrame_25 : decode cX8_byFrame 25 = .ok (.istore_n 1, 1) := by decide +kernel
theorem dX8_byFrame_26 : decode cX8_byFrame 26 = .ok (.bipush 9, 2) := by decide +kernel
theorem dX8_byFrame_28 : decode cX8_byFrame 28 = .ok (.istore_n 2, 1) := by decide +kernel
theorem dX8_byFrame_29 : decode cX8_byFrame 29 = .ok (.iload_n 2, 1) := by decide +kernel
theorem dX8_byFrame_30 : decode cX8_byFrame 30 = .ok (.ifCond .lt 25, 3) := by decide +kernel
theorem dX8_byFrame_33 : decode cX8_byFrame 33 = .ok (.aload_n 0, 1) := by decide +kernel
theorem dX8_byFrame_34 : decode cX8_byFrame 34 = .ok (.iload_n 1, 1) := by decide +kernel
theorem dX8_byFrame_35 : decode cX8_byFrame 35 = .ok (.invokevirtual 193, 3) := by decide +kernel
theorem dX8_byFrame_38 : decode cX8_byFrame 38 = .ok (.ifCond .ne 17, 3) := by decide +kernel
theorem dX8_byFrame_41 : decode cX8_byFrame 41 = .ok (.iload_n 1, 1) := by decide +kernel
theorem dX8_byFrame_42 : decode cX8_byFrame 42 = .ok (.iconst 1, 1) := by decide +kernel
theorem dX8_byFrame_43 : decode cX8_byFrame 43 = .ok (.iload_n 2, 1) := by decide +kernel
theorem dX8_byFrame_44 : decode cX8_byFrame 44 = .ok (.ishl, 1) := by decide +kernel
theorem dX8_byFrame_45 : decode cX8_byFrame 45 = .ok (.iconst (-1), 1) := by decide +kernel
theorem dX8_byFrame_46 : decode cX8_byFrame 46 = .ok (.ixor, 1) := by decide +kernel
theorem dX8_byFrame_47 : decode cX8_byFrame 47 = .ok (.iand, 1) := by decide +kernel
theorem dX8_byFrame_48 : decode cX8_byFrame 48 = .ok (.istore_n 1, 1) := by decide +kernel
theorem dX8_byFrame_49 : decode cX8_byFrame 49 = .ok (.iinc 2 (-1), 3) := by decide +kernel
theorem dX8_byFrame_52 : decode cX8_byFrame 52 = .ok (.goto (-23), 3) := by decide +kernel
theorem dX8_byFrame_55 : decode cX8_byFrame 55 = .ok (.iload_n 1, 1) := by decide +kernel
theorem dX8_byFrame_56 : decode cX8_byFrame 56 = .ok (.ireturn, 1) := by decide +kernel
theorem dX8_byWeight_0 : decode cX8_byWeight 0 = .ok (.iconst 0, 1) := by decide +kernel
theorem dX8_byWeight_1 : decode cX8_byWeight 1 = .ok (.istore_n 1, 1) := by decide +kernel
theorem dX8_byWeight_2 : decode cX8_byWeight 2 = .ok (.lconst 0, 1) := by decide +kernel
theorem dX8_byWeight_3 : decode cX8_byWeight 3 = .ok (.lstore_n 2, 1) := by decide +kernel
theorem dX8_byWeight_4 : decode cX8_byWeight 4 = .ok (.iconst 1, 1) := by decide +kernel
theorem dX8_byWeight_5 : decode cX8_byWeight 5 = .ok (.istore 4, 2) := by decide +kernel
theorem dX8_byWeight_7 : decode cX8_byWeight 7 = .ok (.iload 4, 2) := by decide +kernel
theorem dX8_byWeight_9 : decode cX8_byWeight 9 = .ok (.iconst 1, 1) := by decide +kernel
theorem dX8_byWeight_10 : decode cX8_byWeight 10 = .ok (.aload_n 0, 1) := by decide +kernel
theorem dX8_byWeight_11 : decode cX8_byWeight 11 = .ok (.getfield 154, 3) := by decide +kernel
theorem dX8_byWeight_14 : decode cX8_byWeight 14 = .ok (.ishl, 1) := by decide +kernel
theorem dX8_byWeight_15 : decode cX8_byWeight 15 = .ok (.if_icmp .ge 92, 3) := by decide +kernel
theorem dX8_byWeight_18 : decode cX8_byWeight 18 = .ok (.lconst 0, 1) := by decide +kernel
theorem dX8_byWeight_19 : decode cX8_byWeight 19 = .ok (.lstore 5, 2) := by decide +kernel
theorem dX8_byWeight_21 : decode cX8_byWeight 21 = .ok (.iconst 0, 1) := by decide +kernel
theorem dX8_byWeight_22 : decode cX8_byWeight 22 = .ok (.istore 7, 2) := by decide +kernel
theorem dX8_byWeight_24 : decode cX8_byWeight 24 = .ok (.iload 7, 2) := by decide +kernel
theorem dX8_byWeight_26 : decode cX8_byWeight 26 = .ok (.aload_n 0, 1) := by decide +kernel
theorem dX8_byWeight_27 : decode cX8_byWeight 27 = .ok (.getfield 154, 3) := by decide +kernel
theorem dX8_byWeight_30 : decode cX8_byWeight 30 = .ok (.if_icmp .ge 46, 3) := by decide +kernel
theorem dX8_byWeight_33 : decode cX8_byWeight 33 = .ok (.lload 5, 2) := by decide +kernel
theorem dX8_byWeight_35 : decode cX8_byWeight 35 = .ok (.iload 4, 2) := by decide +kernel
theorem dX8_byWeight_37 : decode cX8_byWeight 37 = .ok (.iload 7, 2) := by decide +kernel
theorem dX8_byWeight_39 : decode cX8_byWeight 39 = .ok (.ishr, 1) := by decide +kernel
theorem dX8_byWeight_40 : decode cX8_byWeight 40 = .ok (.iconst 1, 1) := by decide +kernel
theorem dX8_byWeight_41 : decode cX8_byWeight 41 = .ok (.iand, 1) := by decide +kernel
theorem dX8_byWeight_42 : decode cX8_byWeight 42 = .ok (.iconst 1, 1) := by decide +kernel
theorem dX8_byWeight_43 : decode cX8_byWeight 43 = .ok (.if_icmp .ne 23, 3) := by decide +kernel
theorem dX8_byWeight_46 : decode cX8_byWeight 46 = .ok (.aload_n 0, 1) := by decide +kernel
theorem dX8_byWeight_47 : decode cX8_byWeight 47 = .ok (.getfield 45, 3) := by decide +kernel
theorem dX8_byWeight_50 : decode cX8_byWeight 50 = .ok (.iload 7, 2) := by decide +kernel
theorem dX8_byWeight_52 : decode cX8_byWeight 52 = .ok (.iaload, 1) := by decide +kernel
theorem dX8_byWeight_53 : decode cX8_byWeight 53 = .ok (.i2l, 1) := by decide +kernel
theorem dX8_byWeight_54 : decode cX8_byWeight 54 = .ok (.aload_n 0, 1) := by decide +kernel
theorem dX8_byWeight_55 : decode cX8_byWeight 55 = .ok (.getfield 134, 3) := by decide +kernel
theorem dX8_byWeight_58 : decode cX8_byWeight 58 = .ok (.iload 7, 2) := by decide +kernel
theorem dX8_byWeight_60 : decode cX8_byWeight 60 = .ok (.iaload, 1) := by decide +kernel
theorem dX8_byWeight_61 : decode cX8_byWeight 61 = .ok (.i2l, 1) := by decide +kernel
theorem dX8_byWeight_62 : decode cX8_byWeight 62 = .ok (.lmul, 1) := by decide +kernel
theorem dX8_byWeight_63 : decode cX8_byWeight 63 = .ok (.goto 4, 3) := by decide +kernel
theorem dX8_byWeight_66 : decode cX8_byWeight 66 = .ok (.lconst 0, 1) := by decide +kernel
theorem dX8_byWeight_67 : decode cX8_byWeight 67 = .ok (.ladd, 1) := by decide +kernel
theorem dX8_byWeight_68 : decode cX8_byWeight 68 = .ok (.lstore 5, 2) := by decide +kernel
theorem dX8_byWeight_70 : decode cX8_byWeight 70 = .ok (.iinc 7 1, 3) := by decide +kernel
theorem dX8_byWeight_73 : decode cX8_byWeight 73 = .ok (.goto (-49), 3) := by decide +kernel
theorem dX8_byWeight_76 : decode cX8_byWeight 76 = .ok (.lload 5, 2) := by decide +kernel
theorem dX8_byWeight_78 : decode cX8_byWeight 78 = .ok (.lload_n 2, 1) := by decide +kernel
theorem dX8_byWeight_79 : decode cX8_byWeight 79 = .ok (.lcmp, 1) := by decide +kernel
theorem dX8_byWeight_80 : decode cX8_byWeight 80 = .ok (.ifCond .le 21, 3) := by decide +kernel
theorem dX8_byWeight_83 : decode cX8_byWeight 83 = .ok (.aload_n 0, 1) := by decide +kernel
theorem dX8_byWeight_84 : decode cX8_byWeight 84 = .ok (.iload 4, 2) := by decide +kernel
theorem dX8_byWeight_86 : decode cX8_byWeight 86 = .ok (.invokevirtual 193, 3) := by decide +kernel
theorem dX8_byWeight_89 : decode cX8_byWeight 89 = .ok (.ifCond .ne 6, 3) := by decide +kernel
theorem dX8_byWeight_92 : decode cX8_byWeight 92 = .ok (.goto 9, 3) := by decide +kernel
theorem dX8_byWeight_95 : decode cX8_byWeight 95 = .ok (.lload 5, 2) := by decide +kernel
theorem dX8_byWeight_97 : decode cX8_byWeight 97 = .ok (.lstore_n 2, 1) := by decide +kernel
theorem dX8_byWeight_98 : decode cX8_byWeight 98 = .ok (.iload 4, 2) := by decide +kernel
theorem dX8_byWeight_100 : decode cX8_byWeight 100 = .ok (.istore_n 1, 1) := by decide +kernel
theorem dX8_byWeight_101 : decode cX8_byWeight 101 = .ok (.iinc 4 1, 3) := by decide +kernel
theorem dX8_byWeight_104 : decode cX8_byWeight 104 = .ok (.goto (-97), 3) := by decide +kernel
theorem dX8_byWeight_107 : decode cX8_byWeight 107 = .ok (.iload_n 1, 1) := by decide +kernel
theorem dX8_byWeight_108 : decode cX8_byWeight 108 = .ok (.ireturn, 1) := by decide +kernel
theorem dX8_sends_0 : decode cX8_sends 0 = .ok (.aload_n 0, 1) := by decide +kernel
theorem dX8_sends_1 : decode cX8_sends 1 = .ok (.getfield 134, 3) := by decide +kernel
theorem dX8_sends_4 : decode cX8_sends 4 = .ok (.iload_n 1, 1) := by decide +kernel
theorem dX8_sends_5 : decode cX8_sends 5 = .ok (.iaload, 1) := by decide +kernel
theorem dX8_sends_6 : decode cX8_sends 6 = .ok (.istore_n 2, 1) := by decide +kernel
theorem dX8_sends_7 : decode cX8_sends 7 = .ok (.bipush 20, 2) := by decide +kernel
theorem dX8_sends_9 : decode cX8_sends 9 = .ok (.istore_n 3, 1) := by decide +kernel
theorem dX8_sends_10 : decode cX8_sends 10 = .ok (.iload_n 3, 1) := by decide +kernel
theorem dX8_sends_11 : decode cX8_sends 11 = .ok (.ifCond .lt 59, 3) := by decide +kernel
theorem dX8_sends_14 : decode cX8_sends 14 = .ok (.iload_n 2, 1) := by decide +kernel
theorem dX8_sends_15 : decode cX8_sends 15 = .ok (.aload_n 0, 1) := by decide +kernel
theorem dX8_sends_16 : decode cX8_sends 16 = .ok (.getfield 85, 3) := by decide +kernel
theorem dX8_sends_19 : decode cX8_sends 19 = .ok (.bipush 21, 2) := by decide +kernel
theorem dX8_sends_21 : decode cX8_sends 21 = .ok (.iload_n 1, 1) := by decide +kernel
theorem dX8_sends_22 : decode cX8_sends 22 = .ok (.imul, 1) := by decide +kernel
theorem dX8_sends_23 : decode cX8_sends 23 = .ok (.iload_n 3, 1) := by decide +kernel
theorem dX8_sends_24 : decode cX8_sends 24 = .ok (.iadd, 1) := by decide +kernel
theorem dX8_sends_25 : decode cX8_sends 25 = .ok (.iaload, 1) := by decide +kernel
theorem dX8_sends_26 : decode cX8_sends 26 = .ok (.invokestatic 221, 3) := by decide +kernel
theorem dX8_sends_29 : decode cX8_sends 29 = .ok (.istore 4, 2) := by decide +kernel
theorem dX8_sends_31 : decode cX8_sends 31 = .ok (.aload_n 0, 1) := by decide +kernel
theorem dX8_sends_32 : decode cX8_sends 32 = .ok (.getfield 85, 3) := by decide +kernel
theorem dX8_sends_35 : decode cX8_sends 35 = .ok (.bipush 21, 2) := by decide +kernel
theorem dX8_sends_37 : decode cX8_sends 37 = .ok (.iload_n 1, 1) := by decide +kernel
theorem dX8_sends_38 : decode cX8_sends 38 = .ok (.imul, 1) := by decide +kernel
theorem dX8_sends_39 : decode cX8_sends 39 = .ok (.iload_n 3, 1) := by decide +kernel
theorem dX8_sends_40 : decode cX8_sends 40 = .ok (.iadd, 1) := by decide +kernel
theorem dX8_sends_41 : decode cX8_sends 41 = .ok (.dup2, 1) := by decide +kernel
theorem dX8_sends_42 : decode cX8_sends 42 = .ok (.iaload, 1) := by decide +kernel
theorem dX8_sends_43 : decode cX8_sends 43 = .ok (.iload 4, 2) := by decide +kernel
theorem dX8_sends_45 : decode cX8_sends 45 = .ok (.isub, 1) := by decide +kernel
theorem dX8_sends_46 : decode cX8_sends 46 = .ok (.iastore, 1) := by decide +kernel
theorem dX8_sends_47 : decode cX8_sends 47 = .ok (.aload_n 0, 1) := by decide +kernel
theorem dX8_sends_48 : decode cX8_sends 48 = .ok (.getfield 91, 3) := by decide +kernel
theorem dX8_sends_51 : decode cX8_sends 51 = .ok (.iload_n 1, 1) := by decide +kernel
theorem dX8_sends_52 : decode cX8_sends 52 = .ok (.dup2, 1) := by decide +kernel
theorem dX8_sends_53 : decode cX8_sends 53 = .ok (.laload, 1) := by decide +kernel
theorem dX8_sends_54 : decode cX8_sends 54 = .ok (.iload 4, 2) := by decide +kernel
theorem dX8_sends_56 : decode cX8_sends 56 = .ok (.i2l, 1) := by decide +kernel
theorem dX8_sends_57 : decode cX8_sends 57 = .ok (.ladd, 1) := by decide +kernel
theorem dX8_sends_58 : decode cX8_sends 58 = .ok (.lastore, 1) := by decide +kernel
theorem dX8_sends_59 : decode cX8_sends 59 = .ok (.iload_n 2, 1) := by decide +kernel
theorem dX8_sends_60 : decode cX8_sends 60 = .ok (.iload 4, 2) := by decide +kernel
theorem dX8_sends_62 : decode cX8_sends 62 = .ok (.isub, 1) := by decide +kernel
theorem dX8_sends_63 : decode cX8_sends 63 = .ok (.istore_n 2, 1) := by decide +kernel
theorem dX8_sends_64 : decode cX8_sends 64 = .ok (.iinc 3 (-1), 3) := by decide +kernel
theorem dX8_sends_67 : decode cX8_sends 67 = .ok (.goto (-57), 3) := by decide +kernel
theorem dX8_sends_70 : decode cX8_sends 70 = .ok (.return_, 1) := by decide +kernel
theorem dX8_goesBy_0 : decode cX8_goesBy 0 = .ok (.iconst 0, 1) := by decide +kernel
theorem dX8_goesBy_1 : decode cX8_goesBy 1 = .ok (.istore_n 1, 1) := by decide +kernel
theorem dX8_goesBy_2 : decode cX8_goesBy 2 = .ok (.iload_n 1, 1) := by decide +kernel
theorem dX8_goesBy_3 : decode cX8_goesBy 3 = .ok (.aload_n 0, 1) := by decide +kernel
theorem dX8_goesBy_4 : decode cX8_goesBy 4 = .ok (.getfield 154, 3) := by decide +kernel
theorem dX8_goesBy_7 : decode cX8_goesBy 7 = .ok (.if_icmp .ge 62, 3) := by decide +kernel
theorem dX8_goesBy_10 : decode cX8_goesBy 10 = .ok (.aload_n 0, 1) := by decide +kernel
theorem dX8_goesBy_11 : decode cX8_goesBy 11 = .ok (.getfield 85, 3) := by decide +kernel
theorem dX8_goesBy_14 : decode cX8_goesBy 14 = .ok (.bipush 21, 2) := by decide +kernel
theorem dX8_goesBy_16 : decode cX8_goesBy 16 = .ok (.iload_n 1, 1) := by decide +kernel
theorem dX8_goesBy_17 : decode cX8_goesBy 17 = .ok (.imul, 1) := by decide +kernel
theorem dX8_goesBy_18 : decode cX8_goesBy 18 = .ok (.dup2, 1) := by decide +kernel
theorem dX8_goesBy_19 : decode cX8_goesBy 19 = .ok (.iaload, 1) := by decide +kernel
theorem dX8_goesBy_20 : decode cX8_goesBy 20 = .ok (.aload_n 0, 1) := by decide +kernel
theorem dX8_goesBy_21 : decode cX8_goesBy 21 = .ok (.getfield 57, 3) := by decide +kernel
theorem dX8_goesBy_24 : decode cX8_goesBy 24 = .ok (.iload_n 1, 1) := by decide +kernel
theorem dX8_goesBy_25 : decode cX8_goesBy 25 = .ok (.iaload, 1) := by decide +kernel
theorem dX8_goesBy_26 : decode cX8_goesBy 26 = .ok (.iadd, 1) := by decide +kernel
theorem dX8_goesBy_27 : decode cX8_goesBy 27 = .ok (.iastore, 1) := by decide +kernel
theorem dX8_goesBy_28 : decode cX8_goesBy 28 = .ok (.aload_n 0, 1) := by decide +kernel
theorem dX8_goesBy_29 : decode cX8_goesBy 29 = .ok (.getfield 88, 3) := by decide +kernel
theorem dX8_goesBy_32 : decode cX8_goesBy 32 = .ok (.iload_n 1, 1) := by decide +kernel
theorem dX8_goesBy_33 : decode cX8_goesBy 33 = .ok (.dup2, 1) := by decide +kernel
theorem dX8_goesBy_34 : decode cX8_goesBy 34 = .ok (.laload, 1) := by decide +kernel
theorem dX8_goesBy_35 : decode cX8_goesBy 35 = .ok (.aload_n 0, 1) := by decide +kernel
theorem dX8_goesBy_36 : decode cX8_goesBy 36 = .ok (.getfield 57, 3) := by decide +kernel
theorem dX8_goesBy_39 : decode cX8_goesBy 39 = .ok (.iload_n 1, 1) := by decide +kernel
theorem dX8_goesBy_40 : decode cX8_goesBy 40 = .ok (.iaload, 1) := by decide +kernel
theorem dX8_goesBy_41 : decode cX8_goesBy 41 = .ok (.i2l, 1) := by decide +kernel
theorem dX8_goesBy_42 : decode cX8_goesBy 42 = .ok (.ladd, 1) := by decide +kernel
theorem dX8_goesBy_43 : decode cX8_goesBy 43 = .ok (.lastore, 1) := by decide +kernel
theorem dX8_goesBy_44 : decode cX8_goesBy 44 = .ok (.aload_n 0, 1) := by decide +kernel
theorem dX8_goesBy_45 : decode cX8_goesBy 45 = .ok (.getfield 134, 3) := by decide +kernel
theorem dX8_goesBy_48 : decode cX8_goesBy 48 = .ok (.iload_n 1, 1) := by decide +kernel
theorem dX8_goesBy_49 : decode cX8_goesBy 49 = .ok (.aload_n 0, 1) := by decide +kernel
theorem dX8_goesBy_50 : decode cX8_goesBy 50 = .ok (.iload_n 1, 1) := by decide +kernel
theorem dX8_goesBy_51 : decode cX8_goesBy 51 = .ok (.invokevirtual 256, 3) := by decide +kernel
theorem dX8_goesBy_54 : decode cX8_goesBy 54 = .ok (.aload_n 0, 1) := by decide +kernel
theorem dX8_goesBy_55 : decode cX8_goesBy 55 = .ok (.iload_n 1, 1) := by decide +kernel
theorem dX8_goesBy_56 : decode cX8_goesBy 56 = .ok (.invokevirtual 259, 3) := by decide +kernel
theorem dX8_goesBy_59 : decode cX8_goesBy 59 = .ok (.invokestatic 221, 3) := by decide +kernel
theorem dX8_goesBy_62 : decode cX8_goesBy 62 = .ok (.iastore, 1) := by decide +kernel
theorem dX8_goesBy_63 : decode cX8_goesBy 63 = .ok (.iinc 1 1, 3) := by decide +kernel
theorem dX8_goesBy_66 : decode cX8_goesBy 66 = .ok (.goto (-64), 3) := by decide +kernel
theorem dX8_goesBy_69 : decode cX8_goesBy 69 = .ok (.aload_n 0, 1) := by decide +kernel
theorem dX8_goesBy_70 : decode cX8_goesBy 70 = .ok (.aload_n 0, 1) := by decide +kernel
theorem dX8_goesBy_71 : decode cX8_goesBy 71 = .ok (.getfield 250, 3) := by decide +kernel
theorem dX8_goesBy_74 : decode cX8_goesBy 74 = .ok (.ifCond .ne 10, 3) := by decide +kernel
theorem dX8_goesBy_77 : decode cX8_goesBy 77 = .ok (.aload_n 0, 1) := by decide +kernel
theorem dX8_goesBy_78 : decode cX8_goesBy 78 = .ok (.invokevirtual 262, 3) := by decide +kernel
theorem dX8_goesBy_81 : decode cX8_goesBy 81 = .ok (.goto 7, 3) := by decide +kernel
theorem dX8_goesBy_84 : decode cX8_goesBy 84 = .ok (.aload_n 0, 1) := by decide +kernel
theorem dX8_goesBy_85 : decode cX8_goesBy 85 = .ok (.invokevirtual 265, 3) := by decide +kernel
theorem dX8_goesBy_88 : decode cX8_goesBy 88 = .ok (.putfield 36, 3) := by decide +kernel
theorem dX8_goesBy_91 : decode cX8_goesBy 91 = .ok (.iconst 0, 1) := by decide +kernel
theorem dX8_goesBy_92 : decode cX8_goesBy 92 = .ok (.istore_n 1, 1) := by decide +kernel
theorem dX8_goesBy_93 : decode cX8_goesBy 93 = .ok (.iload_n 1, 1) := by decide +kernel
theorem dX8_goesBy_94 : decode cX8_goesBy 94 = .ok (.aload_n 0, 1) := by decide +kernel
theorem dX8_goesBy_95 : decode cX8_goesBy 95 = .ok (.getfield 154, 3) := by decide +kernel
theorem dX8_goesBy_98 : decode cX8_goesBy 98 = .ok (.if_icmp .ge 175, 3) := by decide +kernel
theorem dX8_goesBy_101 : decode cX8_goesBy 101 = .ok (.aload_n 0, 1) := by decide +kernel
theorem dX8_goesBy_102 : decode cX8_goesBy 102 = .ok (.getfield 36, 3) := by decide +kernel
theorem dX8_goesBy_105 : decode cX8_goesBy 105 = .ok (.iload_n 1, 1) := by decide +kernel
theorem dX8_goesBy_106 : decode cX8_goesBy 106 = .ok (.ishr, 1) := by decide +kernel
theorem dX8_goesBy_107 : decode cX8_goesBy 107 = .ok (.iconst 1, 1) := by decide +kernel
theorem dX8_goesBy_108 : decode cX8_goesBy 108 = .ok (.iand, 1) := by decide +kernel
theorem dX8_goesBy_109 : decode cX8_goesBy 109 = .ok (.iconst 1, 1) := by decide +kernel
theorem dX8_goesBy_110 : decode cX8_goesBy 110 = .ok (.if_icmp .ne 28, 3) := by decide +kernel
theorem dX8_goesBy_113 : decode cX8_goesBy 113 = .ok (.aload_n 0, 1) := by decide +kernel
theorem dX8_goesBy_114 : decode cX8_goesBy 114 = .ok (.iload_n 1, 1) := by decide +kernel
theorem dX8_goesBy_115 : decode cX8_goesBy 115 = .ok (.invokevirtual 268, 3) := by decide +kernel
theorem dX8_goesBy_118 : decode cX8_goesBy 118 = .ok (.aload_n 0, 1) := by decide +kernel
theorem dX8_goesBy_119 : decode cX8_goesBy 119 = .ok (.getfield 72, 3) := by decide +kernel
theorem dX8_goesBy_122 : decode cX8_goesBy 122 = .ok (.iload_n 1, 1) := by decide +kernel
theorem dX8_goesBy_123 : decode cX8_goesBy 123 = .ok (.dup2, 1) := by decide +kernel
theorem dX8_goesBy_124 : decode cX8_goesBy 124 = .ok (.iaload, 1) := by decide +kernel
theorem dX8_goesBy_125 : decode cX8_goesBy 125 = .ok (.iconst 1, 1) := by decide +kernel
theorem dX8_goesBy_126 : decode cX8_goesBy 126 = .ok (.iadd, 1) := by decide +kernel
theorem dX8_goesBy_127 : decode cX8_goesBy 127 = .ok (.iastore, 1) := by decide +kernel
theorem dX8_goesBy_128 : decode cX8_goesBy 128 = .ok (.aload_n 0, 1) := by decide +kernel
theorem dX8_goesBy_129 : decode cX8_goesBy 129 = .ok (.getfield 66, 3) := by decide +kernel
theorem dX8_goesBy_132 : decode cX8_goesBy 132 = .ok (.iload_n 1, 1) := by decide +kernel
theorem dX8_goesBy_133 : decode cX8_goesBy 133 = .ok (.iconst 0, 1) := by decide +kernel
theorem dX8_goesBy_134 : decode cX8_goesBy 134 = .ok (.iastore, 1) := by decide +kernel
theorem dX8_goesBy_135 : decode cX8_goesBy 135 = .ok (.goto 34, 3) := by decide +kernel
theorem dX8_goesBy_138 : decode cX8_goesBy 138 = .ok (.aload_n 0, 1) := by decide +kernel
theorem dX8_goesBy_139 : decode cX8_goesBy 139 = .ok (.getfield 66, 3) := by decide +kernel
theorem dX8_goesBy_142 : decode cX8_goesBy 142 = .ok (.iload_n 1, 1) := by decide +kernel
theorem dX8_goesBy_143 : decode cX8_goesBy 143 = .ok (.dup2, 1) := by decide +kernel
theorem dX8_goesBy_144 : decode cX8_goesBy 144 = .ok (.iaload, 1) := by decide +kernel
theorem dX8_goesBy_145 : decode cX8_goesBy 145 = .ok (.iconst 1, 1) := by decide +kernel
theorem dX8_goesBy_146 : decode cX8_goesBy 146 = .ok (.iadd, 1) := by decide +kernel
theorem dX8_goesBy_147 : decode cX8_goesBy 147 = .ok (.iastore, 1) := by decide +kernel
theorem dX8_goesBy_148 : decode cX8_goesBy 148 = .ok (.aload_n 0, 1) := by decide +kernel
theorem dX8_goesBy_149 : decode cX8_goesBy 149 = .ok (.getfield 69, 3) := by decide +kernel
theorem dX8_goesBy_152 : decode cX8_goesBy 152 = .ok (.iload_n 1, 1) := by decide +kernel
theorem dX8_goesBy_153 : decode cX8_goesBy 153 = .ok (.aload_n 0, 1) := by decide +kernel
theorem dX8_goesBy_154 : decode cX8_goesBy 154 = .ok (.getfield 69, 3) := by decide +kernel
theorem dX8_goesBy_157 : decode cX8_goesBy 157 = .ok (.iload_n 1, 1) := by decide +kernel
theorem dX8_goesBy_158 : decode cX8_goesBy 158 = .ok (.iaload, 1) := by decide +kernel
theorem dX8_goesBy_159 : decode cX8_goesBy 159 = .ok (.aload_n 0, 1) := by decide +kernel
theorem dX8_goesBy_160 : decode cX8_goesBy 160 = .ok (.getfield 66, 3) := by decide +kernel
theorem dX8_goesBy_163 : decode cX8_goesBy 163 = .ok (.iload_n 1, 1) := by decide +kernel
theorem dX8_goesBy_164 : decode cX8_goesBy 164 = .ok (.iaload, 1) := by decide +kernel
theorem dX8_goesBy_165 : decode cX8_goesBy 165 = .ok (.invokestatic 272, 3) := by decide +kernel
theorem dX8_goesBy_168 : decode cX8_goesBy 168 = .ok (.iastore, 1) := by decide +kernel
theorem dX8_goesBy_169 : decode cX8_goesBy 169 = .ok (.bipush 20, 2) := by decide +kernel
theorem dX8_goesBy_171 : decode cX8_goesBy 171 = .ok (.istore_n 2, 1) := by decide +kernel
theorem dX8_goesBy_172 : decode cX8_goesBy 172 = .ok (.iload_n 2, 1) := by decide +kernel
theorem dX8_goesBy_173 : decode cX8_goesBy 173 = .ok (.ifCond .lt 71, 3) := by decide +kernel
theorem dX8_goesBy_176 : decode cX8_goesBy 176 = .ok (.aload_n 0, 1) := by decide +kernel
theorem dX8_goesBy_177 : decode cX8_goesBy 177 = .ok (.getfield 85, 3) := by decide +kernel
theorem dX8_goesBy_180 : decode cX8_goesBy 180 = .ok (.bipush 21, 2) := by decide +kernel
theorem dX8_goesBy_182 : decode cX8_goesBy 182 = .ok (.iload_n 1, 1) := by decide +kernel
theorem dX8_goesBy_183 : decode cX8_goesBy 183 = .ok (.imul, 1) := by decide +kernel
theorem dX8_goesBy_184 : decode cX8_goesBy 184 = .ok (.iload_n 2, 1) := by decide +kernel
theorem dX8_goesBy_185 : decode cX8_goesBy 185 = .ok (.iadd, 1) := by decide +kernel
theorem dX8_goesBy_186 : decode cX8_goesBy 186 = .ok (.iaload, 1) := by decide +kernel
theorem dX8_goesBy_187 : decode cX8_goesBy 187 = .ok (.istore_n 3, 1) := by decide +kernel
theorem dX8_goesBy_188 : decode cX8_goesBy 188 = .ok (.aload_n 0, 1) := by decide +kernel
theorem dX8_goesBy_189 : decode cX8_goesBy 189 = .ok (.getfield 85, 3) := by decide +kernel
theorem dX8_goesBy_192 : decode cX8_goesBy 192 = .ok (.bipush 21, 2) := by decide +kernel
theorem dX8_goesBy_194 : decode cX8_goesBy 194 = .ok (.iload_n 1, 1) := by decide +kernel
theorem dX8_goesBy_195 : decode cX8_goesBy 195 = .ok (.imul, 1) := by decide +kernel
theorem dX8_goesBy_196 : decode cX8_goesBy 196 = .ok (.iload_n 2, 1) := by decide +kernel
theorem dX8_goesBy_197 : decode cX8_goesBy 197 = .ok (.iadd, 1) := by decide +kernel
theorem dX8_goesBy_198 : decode cX8_goesBy 198 = .ok (.iconst 0, 1) := by decide +kernel
theorem dX8_goesBy_199 : decode cX8_goesBy 199 = .ok (.iastore, 1) := by decide +kernel
theorem dX8_goesBy_200 : decode cX8_goesBy 200 = .ok (.iload_n 2, 1) := by decide +kernel
theorem dX8_goesBy_201 : decode cX8_goesBy 201 = .ok (.iconst 1, 1) := by decide +kernel
theorem dX8_goesBy_202 : decode cX8_goesBy 202 = .ok (.iadd, 1) := by decide +kernel
theorem dX8_goesBy_203 : decode cX8_goesBy 203 = .ok (.aload_n 0, 1) := by decide +kernel
theorem dX8_goesBy_204 : decode cX8_goesBy 204 = .ok (.getfield 30, 3) := by decide +kernel
theorem dX8_goesBy_207 : decode cX8_goesBy 207 = .ok (.if_icmp .lt 17, 3) := by decide +kernel
theorem dX8_goesBy_210 : decode cX8_goesBy 210 = .ok (.aload_n 0, 1) := by decide +kernel
theorem dX8_goesBy_211 : decode cX8_goesBy 211 = .ok (.getfield 94, 3) := by decide +kernel
theorem dX8_goesBy_214 : decode cX8_goesBy 214 = .ok (.iload_n 1, 1) := by decide +kernel
theorem dX8_goesBy_215 : decode cX8_goesBy 215 = .ok (.dup2, 1) := by decide +kernel
theorem dX8_goesBy_216 : decode cX8_goesBy 216 = .ok (.laload, 1) := by decide +kernel
theorem dX8_goesBy_217 : decode cX8_goesBy 217 = .ok (.iload_n 3, 1) := by decide +kernel
theorem dX8_goesBy_218 : decode cX8_goesBy 218 = .ok (.i2l, 1) := by decide +kernel
theorem dX8_goesBy_219 : decode cX8_goesBy 219 = .ok (.ladd, 1) := by decide +kernel
theorem dX8_goesBy_220 : decode cX8_goesBy 220 = .ok (.lastore, 1) := by decide +kernel
theorem dX8_goesBy_221 : decode cX8_goesBy 221 = .ok (.goto 17, 3) := by decide +kernel
theorem dX8_goesBy_224 : decode cX8_goesBy 224 = .ok (.aload_n 0, 1) := by decide +kernel
theorem dX8_goesBy_225 : decode cX8_goesBy 225 = .ok (.getfield 85, 3) := by decide +kernel
theorem dX8_goesBy_228 : decode cX8_goesBy 228 = .ok (.bipush 21, 2) := by decide +kernel
theorem dX8_goesBy_230 : decode cX8_goesBy 230 = .ok (.iload_n 1, 1) := by decide +kernel
theorem dX8_goesBy_231 : decode cX8_goesBy 231 = .ok (.imul, 1) := by decide +kernel
theorem dX8_goesBy_232 : decode cX8_goesBy 232 = .ok (.iload_n 2, 1) := by decide +kernel
theorem dX8_goesBy_233 : decode cX8_goesBy 233 = .ok (.iadd, 1) := by decide +kernel
theorem dX8_goesBy_234 : decode cX8_goesBy 234 = .ok (.iconst 1, 1) := by decide +kernel
theorem dX8_goesBy_235 : decode cX8_goesBy 235 = .ok (.iadd, 1) := by decide +kernel
theorem dX8_goesBy_236 : decode cX8_goesBy 236 = .ok (.iload_n 3, 1) := by decide +kernel
theorem dX8_goesBy_237 : decode cX8_goesBy 237 = .ok (.iastore, 1) := by decide +kernel
theorem dX8_goesBy_238 : decode cX8_goesBy 238 = .ok (.iinc 2 (-1), 3) := by decide +kernel
theorem dX8_goesBy_241 : decode cX8_goesBy 241 = .ok (.goto (-69), 3) := by decide +kernel
theorem dX8_goesBy_244 : decode cX8_goesBy 244 = .ok (.aload_n 0, 1) := by decide +kernel
theorem dX8_goesBy_245 : decode cX8_goesBy 245 = .ok (.getfield 51, 3) := by decide +kernel
theorem dX8_goesBy_248 : decode cX8_goesBy 248 = .ok (.iload_n 1, 1) := by decide +kernel
theorem dX8_goesBy_249 : decode cX8_goesBy 249 = .ok (.dup2, 1) := by decide +kernel
theorem dX8_goesBy_250 : decode cX8_goesBy 250 = .ok (.iaload, 1) := by decide +kernel
theorem dX8_goesBy_251 : decode cX8_goesBy 251 = .ok (.aload_n 0, 1) := by decide +kernel
theorem dX8_goesBy_252 : decode cX8_goesBy 252 = .ok (.getfield 51, 3) := by decide +kernel
theorem dX8_goesBy_255 : decode cX8_goesBy 255 = .ok (.iload_n 1, 1) := by decide +kernel
theorem dX8_goesBy_256 : decode cX8_goesBy 256 = .ok (.iaload, 1) := by decide +kernel
theorem dX8_goesBy_257 : decode cX8_goesBy 257 = .ok (.ifCond .le 7, 3) := by decide +kernel
theorem dX8_goesBy_260 : decode cX8_goesBy 260 = .ok (.iconst 1, 1) := by decide +kernel
theorem dX8_goesBy_261 : decode cX8_goesBy 261 = .ok (.goto 4, 3) := by decide +kernel
theorem dX8_goesBy_264 : decode cX8_goesBy 264 = .ok (.iconst 0, 1) := by decide +kernel
theorem dX8_goesBy_265 : decode cX8_goesBy 265 = .ok (.isub, 1) := by decide +kernel
theorem dX8_goesBy_266 : decode cX8_goesBy 266 = .ok (.iastore, 1) := by decide +kernel
theorem dX8_goesBy_267 : decode cX8_goesBy 267 = .ok (.iinc 1 1, 3) := by decide +kernel
theorem dX8_goesBy_270 : decode cX8_goesBy 270 = .ok (.goto (-177), 3) := by decide +kernel
theorem dX8_goesBy_273 : decode cX8_goesBy 273 = .ok (.aload_n 0, 1) := by decide +kernel
theorem dX8_goesBy_274 : decode cX8_goesBy 274 = .ok (.dup, 1) := by decide +kernel
theorem dX8_goesBy_275 : decode cX8_goesBy 275 = .ok (.getfield 253, 3) := by decide +kernel
theorem dX8_goesBy_278 : decode cX8_goesBy 278 = .ok (.iconst 1, 1) := by decide +kernel
theorem dX8_goesBy_279 : decode cX8_goesBy 279 = .ok (.iadd, 1) := by decide +kernel
theorem dX8_goesBy_280 : decode cX8_goesBy 280 = .ok (.putfield 253, 3) := by decide +kernel
theorem dX8_goesBy_283 : decode cX8_goesBy 283 = .ok (.return_, 1) := by decide +kernel
theorem dX8_go_0 : decode cX8_go 0 = .ok (.aload_n 0, 1) := by decide +kernel
theorem dX8_go_1 : decode cX8_go 1 = .ok (.iconst 0, 1) := by decide +kernel
theorem dX8_go_2 : decode cX8_go 2 = .ok (.putfield 137, 3) := by decide +kernel
theorem dX8_go_5 : decode cX8_go 5 = .ok (.iload_n 1, 1) := by decide +kernel
theorem dX8_go_6 : decode cX8_go 6 = .ok (.i2l, 1) := by decide +kernel
theorem dX8_go_7 : decode cX8_go 7 = .ok (.lconst 1, 1) := by decide +kernel
theorem dX8_go_8 : decode cX8_go 8 = .ok (.ldc2_w 274, 3) := by decide +kernel
theorem dX8_go_11 : decode cX8_go 11 = .ok (.invokestatic 142, 3) := by decide +kernel
theorem dX8_go_14 : decode cX8_go 14 = .ok (.ifCond .ne 6, 3) := by decide +kernel
theorem dX8_go_17 : decode cX8_go 17 = .ok (.bipush (-2), 2) := by decide +kernel
theorem dX8_go_19 : decode cX8_go 19 = .ok (.ireturn, 1) := by decide +kernel
theorem dX8_go_20 : decode cX8_go 20 = .ok (.aload_n 0, 1) := by decide +kernel
theorem dX8_go_21 : decode cX8_go 21 = .ok (.getfield 253, 3) := by decide +kernel
theorem dX8_go_24 : decode cX8_go 24 = .ok (.iload_n 1, 1) := by decide +kernel
theorem dX8_go_25 : decode cX8_go 25 = .ok (.iadd, 1) := by decide +kernel
theorem dX8_go_26 : decode cX8_go 26 = .ok (.sipush 20000, 3) := by decide +kernel
theorem dX8_go_29 : decode cX8_go 29 = .ok (.if_icmp .le 6, 3) := by decide +kernel
theorem dX8_go_32 : decode cX8_go 32 = .ok (.bipush (-3), 2) := by decide +kernel
theorem dX8_go_34 : decode cX8_go 34 = .ok (.ireturn, 1) := by decide +kernel
theorem dX8_go_35 : decode cX8_go 35 = .ok (.iconst 0, 1) := by decide +kernel
theorem dX8_go_36 : decode cX8_go 36 = .ok (.istore_n 2, 1) := by decide +kernel
theorem dX8_go_37 : decode cX8_go 37 = .ok (.iload_n 2, 1) := by decide +kernel
theorem dX8_go_38 : decode cX8_go 38 = .ok (.iload_n 1, 1) := by decide +kernel
theorem dX8_go_39 : decode cX8_go 39 = .ok (.if_icmp .ge 13, 3) := by decide +kernel
theorem dX8_go_42 : decode cX8_go 42 = .ok (.aload_n 0, 1) := by decide +kernel
theorem dX8_go_43 : decode cX8_go 43 = .ok (.invokevirtual 276, 3) := by decide +kernel
theorem dX8_go_46 : decode cX8_go 46 = .ok (.iinc 2 1, 3) := by decide +kernel
theorem dX8_go_49 : decode cX8_go 49 = .ok (.goto (-12), 3) := by decide +kernel
theorem dX8_go_52 : decode cX8_go 52 = .ok (.aload_n 0, 1) := by decide +kernel
theorem dX8_go_53 : decode cX8_go 53 = .ok (.getfield 253, 3) := by decide +kernel
theorem dX8_go_56 : decode cX8_go 56 = .ok (.ireturn, 1) := by decide +kernel
theorem dX8_lit_0 : decode cX8_lit 0 = .ok (.aload_n 0, 1) := by decide +kernel
theorem dX8_lit_1 : decode cX8_lit 1 = .ok (.iconst 0, 1) := by decide +kernel
theorem dX8_lit_2 : decode cX8_lit 2 = .ok (.putfield 137, 3) := by decide +kernel
theorem dX8_lit_5 : decode cX8_lit 5 = .ok (.aload_n 0, 1) := by decide +kernel
theorem dX8_lit_6 : decode cX8_lit 6 = .ok (.getfield 36, 3) := by decide +kernel
theorem dX8_lit_9 : decode cX8_lit 9 = .ok (.ireturn, 1) := by decide +kernel
theorem dX8_cellOf_0 : decode cX8_cellOf 0 = .ok (.aload_n 0, 1) := by decide +kernel
theorem dX8_cellOf_1 : decode cX8_cellOf 1 = .ok (.iconst 0, 1) := by decide +kernel
theorem dX8_cellOf_2 : decode cX8_cellOf 2 = .ok (.putfield 137, 3) := by decide +kernel
theorem dX8_cellOf_5 : decode cX8_cellOf 5 = .ok (.aload_n 0, 1) := by decide +kernel
theorem dX8_cellOf_6 : decode cX8_cellOf 6 = .ok (.iload_n 1, 1) := by decide +kernel
theorem dX8_cellOf_7 : decode cX8_cellOf 7 = .ok (.invokevirtual 169, 3) := by decide +kernel
theorem dX8_cellOf_10 : decode cX8_cellOf 10 = .ok (.ifCond .ne 6, 3) := by decide +kernel
theorem dX8_cellOf_13 : decode cX8_cellOf 13 = .ok (.bipush (-2), 2) := by decide +kernel
theorem dX8_cellOf_15 : decode cX8_cellOf 15 = .ok (.ireturn, 1) := by decide +kernel
theorem dX8_cellOf_16 : decode cX8_cellOf 16 = .ok (.iload_n 2, 1) := by decide +kernel
theorem dX8_cellOf_17 : decode cX8_cellOf 17 = .ok (.tableswitch 186 0 12 #[67, 73, 79, 86, 93, 100, 107, 113, 151, 158, 165, 172, 179], 67) := by decide +kernel
theorem dX8_cellOf_84 : decode cX8_cellOf 84 = .ok (.aload_n 0, 1) := by decide +kernel
theorem dX8_cellOf_85 : decode cX8_cellOf 85 = .ok (.iload_n 1, 1) := by decide +kernel
theorem dX8_cellOf_86 : decode cX8_cellOf 86 = .ok (.invokevirtual 185, 3) := by decide +kernel
theorem dX8_cellOf_89 : decode cX8_cellOf 89 = .ok (.ireturn, 1) := by decide +kernel
theorem dX8_cellOf_90 : decode cX8_cellOf 90 = .ok (.aload_n 0, 1) := by decide +kernel
theorem dX8_cellOf_91 : decode cX8_cellOf 91 = .ok (.iload_n 1, 1) := by decide +kernel
theorem dX8_cellOf_92 : decode cX8_cellOf 92 = .ok (.invokevirtual 259, 3) := by decide +kernel
theorem dX8_cellOf_95 : decode cX8_cellOf 95 = .ok (.ireturn, 1) := by decide +kernel
theorem dX8_cellOf_96 : decode cX8_cellOf 96 = .ok (.aload_n 0, 1) := by decide +kernel
theorem dX8_cellOf_97 : decode cX8_cellOf 97 = .ok (.getfield 48, 3) := by decide +kernel
theorem dX8_cellOf_100 : decode cX8_cellOf 100 = .ok (.iload_n 1, 1) := by decide +kernel
theorem dX8_cellOf_101 : decode cX8_cellOf 101 = .ok (.iaload, 1) := by decide +kernel
theorem dX8_cellOf_102 : decode cX8_cellOf 102 = .ok (.ireturn, 1) := by decide +kernel
theorem dX8_cellOf_103 : decode cX8_cellOf 103 = .ok (.aload_n 0, 1) := by decide +kernel
theorem dX8_cellOf_104 : decode cX8_cellOf 104 = .ok (.getfield 51, 3) := by decide +kernel
theorem dX8_cellOf_107 : decode cX8_cellOf 107 = .ok (.iload_n 1, 1) := by decide +kernel
theorem dX8_cellOf_108 : decode cX8_cellOf 108 = .ok (.iaload, 1) := by decide +kernel
theorem dX8_cellOf_109 : decode cX8_cellOf 109 = .ok (.ireturn, 1) := by decide +kernel
theorem dX8_cellOf_110 : decode cX8_cellOf 110 = .ok (.aload_n 0, 1) := by decide +kernel
theorem dX8_cellOf_111 : decode cX8_cellOf 111 = .ok (.getfield 54, 3) := by decide +kernel
theorem dX8_cellOf_114 : decode cX8_cellOf 114 = .ok (.iload_n 1, 1) := by decide +kernel
theorem dX8_cellOf_115 : decode cX8_cellOf 115 = .ok (.iaload, 1) := by decide +kernel
theorem dX8_cellOf_116 : decode cX8_cellOf 116 = .ok (.ireturn, 1) := by decide +kernel
theorem dX8_cellOf_117 : decode cX8_cellOf 117 = .ok (.aload_n 0, 1) := by decide +kernel
theorem dX8_cellOf_118 : decode cX8_cellOf 118 = .ok (.getfield 57, 3) := by decide +kernel
theorem dX8_cellOf_121 : decode cX8_cellOf 121 = .ok (.iload_n 1, 1) := by decide +kernel
theorem dX8_cellOf_122 : decode cX8_cellOf 122 = .ok (.iaload, 1) := by decide +kernel
theorem dX8_cellOf_123 : decode cX8_cellOf 123 = .ok (.ireturn, 1) := by decide +kernel
theorem dX8_cellOf_124 : decode cX8_cellOf 124 = .ok (.aload_n 0, 1) := by decide +kernel
theorem dX8_cellOf_125 : decode cX8_cellOf 125 = .ok (.iload_n 1, 1) := by decide +kernel
theorem dX8_cellOf_126 : decode cX8_cellOf 126 = .ok (.invokevirtual 256, 3) := by decide +kernel
theorem dX8_cellOf_129 : decode cX8_cellOf 129 = .ok (.ireturn, 1) := by decide +kernel
theorem dX8_cellOf_130 : decode cX8_cellOf 130 = .ok (.iconst (-1), 1) := by decide +kernel
theorem dX8_cellOf_131 : decode cX8_cellOf 131 = .ok (.istore_n 3, 1) := by decide +kernel
theorem dX8_cellOf_132 : decode cX8_cellOf 132 = .ok (.iconst 0, 1) := by decide +kernel
theorem dX8_cellOf_133 : decode cX8_cellOf 133 = .ok (.istore 4, 2) := by decide +kernel
theorem dX8_cellOf_135 : decode cX8_cellOf 135 = .ok (.iload 4, 2) := by decide +kernel
theorem dX8_cellOf_137 : decode cX8_cellOf 137 = .ok (.bipush 21, 2) := by decide +kernel
theorem dX8_cellOf_139 : decode cX8_cellOf 139 = .ok (.if_icmp .ge 27, 3) := by decide +kernel
theorem dX8_cellOf_142 : decode cX8_cellOf 142 = .ok (.aload_n 0, 1) := by decide +kernel
theorem dX8_cellOf_143 : decode cX8_cellOf 143 = .ok (.getfield 85, 3) := by decide +kernel
theorem dX8_cellOf_146 : decode cX8_cellOf 146 = .ok (.bipush 21, 2) := by decide +kernel
theorem dX8_cellOf_148 : decode cX8_cellOf 148 = .ok (.iload_n 1, 1) := by decide +kernel
theorem dX8_cellOf_149 : decode cX8_cellOf 149 = .ok (.imul, 1) := by decide +kernel
theorem dX8_cellOf_150 : decode cX8_cellOf 150 = .ok (.iload 4, 2) := by decide +kernel
theorem dX8_cellOf_152 : decode cX8_cellOf 152 = .ok (.iadd, 1) := by decide +kernel
theorem dX8_cellOf_153 : decode cX8_cellOf 153 = .ok (.iaload, 1) := by decide +kernel
theorem dX8_cellOf_154 : decode cX8_cellOf 154 = .ok (.ifCond .le 6, 3) := by decide +kernel
theorem dX8_cellOf_157 : decode cX8_cellOf 157 = .ok (.iload 4, 2) := by decide +kernel
theorem dX8_cellOf_159 : decode cX8_cellOf 159 = .ok (.istore_n 3, 1) := by decide +kernel
theorem dX8_cellOf_160 : decode cX8_cellOf 160 = .ok (.iinc 4 1, 3) := by decide +kernel
theorem dX8_cellOf_163 : decode cX8_cellOf 163 = .ok (.goto (-28), 3) := by decide +kernel
theorem dX8_cellOf_166 : decode cX8_cellOf 166 = .ok (.iload_n 3, 1) := by decide +kernel
theorem dX8_cellOf_167 : decode cX8_cellOf 167 = .ok (.ireturn, 1) := by decide +kernel
theorem dX8_cellOf_168 : decode cX8_cellOf 168 = .ok (.aload_n 0, 1) := by decide +kernel
theorem dX8_cellOf_169 : decode cX8_cellOf 169 = .ok (.getfield 69, 3) := by decide +kernel
theorem dX8_cellOf_172 : decode cX8_cellOf 172 = .ok (.iload_n 1, 1) := by decide +kernel
theorem dX8_cellOf_173 : decode cX8_cellOf 173 = .ok (.iaload, 1) := by decide +kernel
theorem dX8_cellOf_174 : decode cX8_cellOf 174 = .ok (.ireturn, 1) := by decide +kernel
theorem dX8_cellOf_175 : decode cX8_cellOf 175 = .ok (.aload_n 0, 1) := by decide +kernel
theorem dX8_cellOf_176 : decode cX8_cellOf 176 = .ok (.getfield 72, 3) := by decide +kernel
theorem dX8_cellOf_179 : decode cX8_cellOf 179 = .ok (.iload_n 1, 1) := by decide +kernel
theorem dX8_cellOf_180 : decode cX8_cellOf 180 = .ok (.iaload, 1) := by decide +kernel
theorem dX8_cellOf_181 : decode cX8_cellOf 181 = .ok (.ireturn, 1) := by decide +kernel
theorem dX8_cellOf_182 : decode cX8_cellOf 182 = .ok (.aload_n 0, 1) := by decide +kernel
theorem dX8_cellOf_183 : decode cX8_cellOf 183 = .ok (.getfield 63, 3) := by decide +kernel
theorem dX8_cellOf_186 : decode cX8_cellOf 186 = .ok (.iload_n 1, 1) := by decide +kernel
theorem dX8_cellOf_187 : decode cX8_cellOf 187 = .ok (.iaload, 1) := by decide +kernel
theorem dX8_cellOf_188 : decode cX8_cellOf 188 = .ok (.ireturn, 1) := by decide +kernel
theorem dX8_cellOf_189 : decode cX8_cellOf 189 = .ok (.aload_n 0, 1) := by decide +kernel
theorem dX8_cellOf_190 : decode cX8_cellOf 190 = .ok (.getfield 60, 3) := by decide +kernel
theorem dX8_cellOf_193 : decode cX8_cellOf 193 = .ok (.iload_n 1, 1) := by decide +kernel
theorem dX8_cellOf_194 : decode cX8_cellOf 194 = .ok (.iaload, 1) := by decide +kernel
theorem dX8_cellOf_195 : decode cX8_cellOf 195 = .ok (.ireturn, 1) := by decide +kernel
theorem dX8_cellOf_196 : decode cX8_cellOf 196 = .ok (.aload_n 0, 1) := by decide +kernel
theorem dX8_cellOf_197 : decode cX8_cellOf 197 = .ok (.getfield 45, 3) := by decide +kernel
theorem dX8_cellOf_200 : decode cX8_cellOf 200 = .ok (.iload_n 1, 1) := by decide +kernel
theorem dX8_cellOf_201 : decode cX8_cellOf 201 = .ok (.iaload, 1) := by decide +kernel
theorem dX8_cellOf_202 : decode cX8_cellOf 202 = .ok (.ireturn, 1) := by decide +kernel
theorem dX8_cellOf_203 : decode cX8_cellOf 203 = .ok (.bipush (-2), 2) := by decide +kernel
theorem dX8_cellOf_205 : decode cX8_cellOf 205 = .ok (.ireturn, 1) := by decide +kernel
theorem dX8_units_0 : decode cX8_units 0 = .ok (.aload_n 0, 1) := by decide +kernel
theorem dX8_units_1 : decode cX8_units 1 = .ok (.iconst 0, 1) := by decide +kernel
theorem dX8_units_2 : decode cX8_units 2 = .ok (.putfield 137, 3) := by decide +kernel
theorem dX8_units_5 : decode cX8_units 5 = .ok (.aload_n 0, 1) := by decide +kernel
theorem dX8_units_6 : decode cX8_units 6 = .ok (.iload_n 1, 1) := by decide +kernel
theorem dX8_units_7 : decode cX8_units 7 = .ok (.invokevirtual 169, 3) := by decide +kernel
theorem dX8_units_10 : decode cX8_units 10 = .ok (.ifCond .ne 9, 3) := by decide +kernel
theorem dX8_units_13 : decode cX8_units 13 = .ok (.ldc2_w 279, 3) := by decide +kernel
theorem dX8_units_16 : decode cX8_units 16 = .ok (.goto 47, 3) := by decide +kernel
theorem dX8_units_19 : decode cX8_units 19 = .ok (.iload_n 2, 1) := by decide +kernel
theorem dX8_units_20 : decode cX8_units 20 = .ok (.ifCond .ne 12, 3) := by decide +kernel
theorem dX8_units_23 : decode cX8_units 23 = .ok (.aload_n 0, 1) := by decide +kernel
theorem dX8_units_24 : decode cX8_units 24 = .ok (.getfield 88, 3) := by decide +kernel
theorem dX8_units_27 : decode cX8_units 27 = .ok (.iload_n 1, 1) := by decide +kernel
theorem dX8_units_28 : decode cX8_units 28 = .ok (.laload, 1) := by decide +kernel
theorem dX8_units_29 : decode cX8_units 29 = .ok (.goto 34, 3) := by decide +kernel
theorem dX8_units_32 : decode cX8_units 32 = .ok (.iload_n 2, 1) := by decide +kernel
theorem dX8_units_33 : decode cX8_units 33 = .ok (.iconst 1, 1) := by decide +kernel
theorem dX8_units_34 : decode cX8_units 34 = .ok (.if_icmp .ne 12, 3) := by decide +kernel
theorem dX8_units_37 : decode cX8_units 37 = .ok (.aload_n 0, 1) := by decide +kernel
theorem dX8_units_38 : decode cX8_units 38 = .ok (.getfield 91, 3) := by decide +kernel
theorem dX8_units_41 : decode cX8_units 41 = .ok (.iload_n 1, 1) := by decide +kernel
theorem dX8_units_42 : decode cX8_units 42 = .ok (.laload, 1) := by decide +kernel
theorem dX8_units_43 : decode cX8_units 43 = .ok (.goto 20, 3) := by decide +kernel
theorem dX8_units_46 : decode cX8_units 46 = .ok (.iload_n 2, 1) := by decide +kernel
theorem dX8_units_47 : decode cX8_units 47 = .ok (.iconst 2, 1) := by decide +kernel
theorem dX8_units_48 : decode cX8_units 48 = .ok (.if_icmp .ne 12, 3) := by decide +kernel
theorem dX8_units_51 : decode cX8_units 51 = .ok (.aload_n 0, 1) := by decide +kernel
theorem dX8_units_52 : decode cX8_units 52 = .ok (.getfield 94, 3) := by decide +kernel
theorem dX8_units_55 : decode cX8_units 55 = .ok (.iload_n 1, 1) := by decide +kernel
theorem dX8_units_56 : decode cX8_units 56 = .ok (.laload, 1) := by decide +kernel
theorem dX8_units_57 : decode cX8_units 57 = .ok (.goto 6, 3) := by decide +kernel
theorem dX8_units_60 : decode cX8_units 60 = .ok (.ldc2_w 279, 3) := by decide +kernel
theorem dX8_units_63 : decode cX8_units 63 = .ok (.lreturn, 1) := by decide +kernel
theorem dX8_count_0 : decode cX8_count 0 = .ok (.aload_n 0, 1) := by decide +kernel
theorem dX8_count_1 : decode cX8_count 1 = .ok (.iconst 0, 1) := by decide +kernel
theorem dX8_count_2 : decode cX8_count 2 = .ok (.putfield 137, 3) := by decide +kernel
theorem dX8_count_5 : decode cX8_count 5 = .ok (.iload_n 1, 1) := by decide +kernel
theorem dX8_count_6 : decode cX8_count 6 = .ok (.tableswitch 133 0 9 #[54, 59, 64, 69, 74, 79, 84, 89, 94, 99], 54) := by decide +kernel
theorem dX8_count_60 : decode cX8_count 60 = .ok (.aload_n 0, 1) := by decide +kernel
theorem dX8_count_61 : decode cX8_count 61 = .ok (.getfield 154, 3) := by decide +kernel
theorem dX8_count_64 : decode cX8_count 64 = .ok (.ireturn, 1) := by decide +kernel
theorem dX8_count_65 : decode cX8_count 65 = .ok (.aload_n 0, 1) := by decide +kernel
theorem dX8_count_66 : decode cX8_count 66 = .ok (.getfield 23, 3) := by decide +kernel
theorem dX8_count_69 : decode cX8_count 69 = .ok (.ireturn, 1) := by decide +kernel
theorem dX8_count_70 : decode cX8_count 70 = .ok (.aload_n 0, 1) := by decide +kernel
theorem dX8_count_71 : decode cX8_count 71 = .ok (.getfield 27, 3) := by decide +kernel
theorem dX8_count_74 : decode cX8_count 74 = .ok (.ireturn, 1) := by decide +kernel
theorem dX8_count_75 : decode cX8_count 75 = .ok (.aload_n 0, 1) := by decide +kernel
theorem dX8_count_76 : decode cX8_count 76 = .ok (.getfield 30, 3) := by decide +kernel
theorem dX8_count_79 : decode cX8_count 79 = .ok (.ireturn, 1) := by decide +kernel
theorem dX8_count_80 : decode cX8_count 80 = .ok (.aload_n 0, 1) := by decide +kernel
theorem dX8_count_81 : decode cX8_count 81 = .ok (.getfield 33, 3) := by decide +kernel
theorem dX8_count_84 : decode cX8_count 84 = .ok (.ireturn, 1) := by decide +kernel
theorem dX8_count_85 : decode cX8_count 85 = .ok (.aload_n 0, 1) := by decide +kernel
theorem dX8_count_86 : decode cX8_count 86 = .ok (.getfield 253, 3) := by decide +kernel
theorem dX8_count_89 : decode cX8_count 89 = .ok (.ireturn, 1) := by decide +kernel
theorem dX8_count_90 : decode cX8_count 90 = .ok (.aload_n 0, 1) := by decide +kernel
theorem dX8_count_91 : decode cX8_count 91 = .ok (.getfield 250, 3) := by decide +kernel
theorem dX8_count_94 : decode cX8_count 94 = .ok (.ireturn, 1) := by decide +kernel
theorem dX8_count_95 : decode cX8_count 95 = .ok (.aload_n 0, 1) := by decide +kernel
theorem dX8_count_96 : decode cX8_count 96 = .ok (.getfield 199, 3) := by decide +kernel
theorem dX8_count_99 : decode cX8_count 99 = .ok (.ireturn, 1) := by decide +kernel
theorem dX8_count_100 : decode cX8_count 100 = .ok (.aload_n 0, 1) := by decide +kernel
theorem dX8_count_101 : decode cX8_count 101 = .ok (.getfield 196, 3) := by decide +kernel
theorem dX8_count_104 : decode cX8_count 104 = .ok (.ireturn, 1) := by decide +kernel
theorem dX8_count_105 : decode cX8_count 105 = .ok (.iconst 0, 1) := by decide +kernel
theorem dX8_count_106 : decode cX8_count 106 = .ok (.istore_n 2, 1) := by decide +kernel
theorem dX8_count_107 : decode cX8_count 107 = .ok (.iconst 0, 1) := by decide +kernel
theorem dX8_count_108 : decode cX8_count 108 = .ok (.istore_n 3, 1) := by decide +kernel
theorem dX8_count_109 : decode cX8_count 109 = .ok (.iload_n 3, 1) := by decide +kernel
theorem dX8_count_110 : decode cX8_count 110 = .ok (.iconst 4, 1) := by decide +kernel
theorem dX8_count_111 : decode cX8_count 111 = .ok (.if_icmp .ge 26, 3) := by decide +kernel
theorem dX8_count_114 : decode cX8_count 114 = .ok (.iload_n 2, 1) := by decide +kernel
theorem dX8_count_115 : decode cX8_count 115 = .ok (.aload_n 0, 1) := by decide +kernel
theorem dX8_count_116 : decode cX8_count 116 = .ok (.getfield 9, 3) := by decide +kernel
theorem dX8_count_119 : decode cX8_count 119 = .ok (.iload_n 3, 1) := by decide +kernel
theorem dX8_count_120 : decode cX8_count 120 = .ok (.iaload, 1) := by decide +kernel
theorem dX8_count_121 : decode cX8_count 121 = .ok (.ifCond .lt 7, 3) := by decide +kernel
theorem dX8_count_124 : decode cX8_count 124 = .ok (.iconst 1, 1) := by decide +kernel
theorem dX8_count_125 : decode cX8_count 125 = .ok (.goto 4, 3) := by decide +kernel
theorem dX8_count_128 : decode cX8_count 128 = .ok (.iconst 0, 1) := by decide +kernel
theorem dX8_count_129 : decode cX8_count 129 = .ok (.iadd, 1) := by decide +kernel
theorem dX8_count_130 : decode cX8_count 130 = .ok (.istore_n 2, 1) := by decide +kernel
theorem dX8_count_131 : decode cX8_count 131 = .ok (.iinc 3 1, 3) := by decide +kernel
theorem dX8_count_134 : decode cX8_count 134 = .ok (.goto (-25), 3) := by decide +kernel
theorem dX8_count_137 : decode cX8_count 137 = .ok (.iload_n 2, 1) := by decide +kernel
theorem dX8_count_138 : decode cX8_count 138 = .ok (.ireturn, 1) := by decide +kernel
theorem dX8_count_139 : decode cX8_count 139 = .ok (.iconst (-1), 1) := by decide +kernel
theorem dX8_count_140 : decode cX8_count 140 = .ok (.ireturn, 1) := by decide +kernel
theorem dX8_gatewayOf_0 : decode cX8_gatewayOf 0 = .ok (.aload_n 0, 1) := by decide +kernel
theorem dX8_gatewayOf_1 : decode cX8_gatewayOf 1 = .ok (.iconst 0, 1) := by decide +kernel
theorem dX8_gatewayOf_2 : decode cX8_gatewayOf 2 = .ok (.putfield 137, 3) := by decide +kernel
theorem dX8_gatewayOf_5 : decode cX8_gatewayOf 5 = .ok (.iload_n 1, 1) := by decide +kernel
theorem dX8_gatewayOf_6 : decode cX8_gatewayOf 6 = .ok (.invokestatic 172, 3) := by decide +kernel
theorem dX8_gatewayOf_9 : decode cX8_gatewayOf 9 = .ok (.ifCond .ne 6, 3) := by decide +kernel
theorem dX8_gatewayOf_12 : decode cX8_gatewayOf 12 = .ok (.bipush (-2), 2) := by decide +kernel
theorem dX8_gatewayOf_14 : decode cX8_gatewayOf 14 = .ok (.ireturn, 1) := by decide +kernel
theorem dX8_gatewayOf_15 : decode cX8_gatewayOf 15 = .ok (.iconst 0, 1) := by decide +kernel
theorem dX8_gatewayOf_16 : decode cX8_gatewayOf 16 = .ok (.istore_n 3, 1) := by decide +kernel
theorem dX8_gatewayOf_17 : decode cX8_gatewayOf 17 = .ok (.iconst 0, 1) := by decide +kernel
theorem dX8_gatewayOf_18 : decode cX8_gatewayOf 18 = .ok (.istore 4, 2) := by decide +kernel
theorem dX8_gatewayOf_20 : decode cX8_gatewayOf 20 = .ok (.iload 4, 2) := by decide +kernel
theorem dX8_gatewayOf_22 : decode cX8_gatewayOf 22 = .ok (.aload_n 0, 1) := by decide +kernel
theorem dX8_gatewayOf_23 : decode cX8_gatewayOf 23 = .ok (.getfield 154, 3) := by decide +kernel
theorem dX8_gatewayOf_26 : decode cX8_gatewayOf 26 = .ok (.if_icmp .ge 28, 3) := by decide +kernel
theorem dX8_gatewayOf_29 : decode cX8_gatewayOf 29 = .ok (.iload_n 3, 1) := by decide +kernel
theorem dX8_gatewayOf_30 : decode cX8_gatewayOf 30 = .ok (.aload_n 0, 1) := by decide +kernel
theorem dX8_gatewayOf_31 : decode cX8_gatewayOf 31 = .ok (.getfield 48, 3) := by decide +kernel
theorem dX8_gatewayOf_34 : decode cX8_gatewayOf 34 = .ok (.iload 4, 2) := by decide +kernel
theorem dX8_gatewayOf_36 : decode cX8_gatewayOf 36 = .ok (.iaload, 1) := by decide +kernel
theorem dX8_gatewayOf_37 : decode cX8_gatewayOf 37 = .ok (.iload_n 1, 1) := by decide +kernel
theorem dX8_gatewayOf_38 : decode cX8_gatewayOf 38 = .ok (.if_icmp .ne 7, 3) := by decide +kernel
theorem dX8_gatewayOf_41 : decode cX8_gatewayOf 41 = .ok (.iconst 1, 1) := by decide +kernel
theorem dX8_gatewayOf_42 : decode cX8_gatewayOf 42 = .ok (.goto 4, 3) := by decide +kernel
theorem dX8_gatewayOf_45 : decode cX8_gatewayOf 45 = .ok (.iconst 0, 1) := by decide +kernel
theorem dX8_gatewayOf_46 : decode cX8_gatewayOf 46 = .ok (.iadd, 1) := by decide +kernel
theorem dX8_gatewayOf_47 : decode cX8_gatewayOf 47 = .ok (.istore_n 3, 1) := by decide +kernel
theorem dX8_gatewayOf_48 : decode cX8_gatewayOf 48 = .ok (.iinc 4 1, 3) := by decide +kernel
theorem dX8_gatewayOf_51 : decode cX8_gatewayOf 51 = .ok (.goto (-31), 3) := by decide +kernel
theorem dX8_gatewayOf_54 : decode cX8_gatewayOf 54 = .ok (.iload_n 2, 1) := by decide +kernel
theorem dX8_gatewayOf_55 : decode cX8_gatewayOf 55 = .ok (.ifCond .ne 12, 3) := by decide +kernel
theorem dX8_gatewayOf_58 : decode cX8_gatewayOf 58 = .ok (.aload_n 0, 1) := by decide +kernel
theorem dX8_gatewayOf_59 : decode cX8_gatewayOf 59 = .ok (.getfield 75, 3) := by decide +kernel
theorem dX8_gatewayOf_62 : decode cX8_gatewayOf 62 = .ok (.iload_n 1, 1) := by decide +kernel
theorem dX8_gatewayOf_63 : decode cX8_gatewayOf 63 = .ok (.iaload, 1) := by decide +kernel
theorem dX8_gatewayOf_64 : decode cX8_gatewayOf 64 = .ok (.goto 36, 3) := by decide +kernel
theorem dX8_gatewayOf_67 : decode cX8_gatewayOf 67 = .ok (.iload_n 2, 1) := by decide +kernel
theorem dX8_gatewayOf_68 : decode cX8_gatewayOf 68 = .ok (.iconst 1, 1) := by decide +kernel
theorem dX8_gatewayOf_69 : decode cX8_gatewayOf 69 = .ok (.if_icmp .ne 20, 3) := by decide +kernel
theorem dX8_gatewayOf_72 : decode cX8_gatewayOf 72 = .ok (.aload_n 0, 1) := by decide +kernel
theorem dX8_gatewayOf_73 : decode cX8_gatewayOf 73 = .ok (.getfield 78, 3) := by decide +kernel
theorem dX8_gatewayOf_76 : decode cX8_gatewayOf 76 = .ok (.iload_n 1, 1) := by decide +kernel
theorem dX8_gatewayOf_77 : decode cX8_gatewayOf 77 = .ok (.baload, 1) := by decide +kernel
theorem dX8_gatewayOf_78 : decode cX8_gatewayOf 78 = .ok (.ifCond .eq 7, 3) := by decide +kernel
theorem dX8_gatewayOf_81 : decode cX8_gatewayOf 81 = .ok (.iconst 1, 1) := by decide +kernel
theorem dX8_gatewayOf_82 : decode cX8_gatewayOf 82 = .ok (.goto 18, 3) := by decide +kernel
theorem dX8_gatewayOf_85 : decode cX8_gatewayOf 85 = .ok (.iconst 0, 1) := by decide +kernel
theorem dX8_gatewayOf_86 : decode cX8_gatewayOf 86 = .ok (.goto 14, 3) := by decide +kernel
theorem dX8_gatewayOf_89 : decode cX8_gatewayOf 89 = .ok (.iload_n 2, 1) := by decide +kernel
theorem dX8_gatewayOf_90 : decode cX8_gatewayOf 90 = .ok (.iconst 2, 1) := by decide +kernel
theorem dX8_gatewayOf_91 : decode cX8_gatewayOf 91 = .ok (.if_icmp .ne 7, 3) := by decide +kernel
theorem dX8_gatewayOf_94 : decode cX8_gatewayOf 94 = .ok (.iload_n 3, 1) := by decide +kernel
theorem dX8_gatewayOf_95 : decode cX8_gatewayOf 95 = .ok (.goto 5, 3) := by decide +kernel
theorem dX8_gatewayOf_98 : decode cX8_gatewayOf 98 = .ok (.bipush (-2), 2) := by decide +kernel
theorem dX8_gatewayOf_100 : decode cX8_gatewayOf 100 = .ok (.ireturn, 1) := by decide +kernel
theorem dJ6_bitCount_0f7a4_0 : decode cJ6_bitCount_0f7a4 0 = .ok (.iload_n 0, 1) := by decide +kernel
theorem dJ6_bitCount_0f7a4_1 : decode cJ6_bitCount_0f7a4 1 = .ok (.iload_n 0, 1) := by decide +kernel
theorem dJ6_bitCount_0f7a4_2 : decode cJ6_bitCount_0f7a4 2 = .ok (.iconst 1, 1) := by decide +kernel
theorem dJ6_bitCount_0f7a4_3 : decode cJ6_bitCount_0f7a4 3 = .ok (.iushr, 1) := by decide +kernel
theorem dJ6_bitCount_0f7a4_4 : decode cJ6_bitCount_0f7a4 4 = .ok (.ldc_w 265, 3) := by decide +kernel
theorem dJ6_bitCount_0f7a4_7 : decode cJ6_bitCount_0f7a4 7 = .ok (.iand, 1) := by decide +kernel
theorem dJ6_bitCount_0f7a4_8 : decode cJ6_bitCount_0f7a4 8 = .ok (.isub, 1) := by decide +kernel
theorem dJ6_bitCount_0f7a4_9 : decode cJ6_bitCount_0f7a4 9 = .ok (.istore_n 0, 1) := by decide +kernel
theorem dJ6_bitCount_0f7a4_10 : decode cJ6_bitCount_0f7a4 10 = .ok (.iload_n 0, 1) := by decide +kernel
theorem dJ6_bitCount_0f7a4_11 : decode cJ6_bitCount_0f7a4 11 = .ok (.ldc_w 266, 3) := by decide +kernel
theorem dJ6_bitCount_0f7a4_14 : decode cJ6_bitCount_0f7a4 14 = .ok (.iand, 1) := by decide +kernel
theorem dJ6_bitCount_0f7a4_15 : decode cJ6_bitCount_0f7a4 15 = .ok (.iload_n 0, 1) := by decide +kernel
theorem dJ6_bitCount_0f7a4_16 : decode cJ6_bitCount_0f7a4 16 = .ok (.iconst 2, 1) := by decide +kernel
theorem dJ6_bitCount_0f7a4_17 : decode cJ6_bitCount_0f7a4 17 = .ok (.iushr, 1) := by decide +kernel
theorem dJ6_bitCount_0f7a4_18 : decode cJ6_bitCount_0f7a4 18 = .ok (.ldc_w 266, 3) := by decide +kernel
theorem dJ6_bitCount_0f7a4_21 : decode cJ6_bitCount_0f7a4 21 = .ok (.iand, 1) := by decide +kernel
theorem dJ6_bitCount_0f7a4_22 : decode cJ6_bitCount_0f7a4 22 = .ok (.iadd, 1) := by decide +kernel
theorem dJ6_bitCount_0f7a4_23 : decode cJ6_bitCount_0f7a4 23 = .ok (.istore_n 0, 1) := by decide +kernel
theorem dJ6_bitCount_0f7a4_24 : decode cJ6_bitCount_0f7a4 24 = .ok (.iload_n 0, 1) := by decide +kernel
theorem dJ6_bitCount_0f7a4_25 : decode cJ6_bitCount_0f7a4 25 = .ok (.iload_n 0, 1) := by decide +kernel
theorem dJ6_bitCount_0f7a4_26 : decode cJ6_bitCount_0f7a4 26 = .ok (.iconst 4, 1) := by decide +kernel
theorem dJ6_bitCount_0f7a4_27 : decode cJ6_bitCount_0f7a4 27 = .ok (.iushr, 1) := by decide +kernel
theorem dJ6_bitCount_0f7a4_28 : decode cJ6_bitCount_0f7a4 28 = .ok (.iadd, 1) := by decide +kernel
theorem dJ6_bitCount_0f7a4_29 : decode cJ6_bitCount_0f7a4 29 = .ok (.ldc_w 267, 3) := by decide +kernel
theorem dJ6_bitCount_0f7a4_32 : decode cJ6_bitCount_0f7a4 32 = .ok (.iand, 1) := by decide +kernel
theorem dJ6_bitCount_0f7a4_33 : decode cJ6_bitCount_0f7a4 33 = .ok (.istore_n 0, 1) := by decide +kernel
theorem dJ6_bitCount_0f7a4_34 : decode cJ6_bitCount_0f7a4 34 = .ok (.iload_n 0, 1) := by decide +kernel
theorem dJ6_bitCount_0f7a4_35 : decode cJ6_bitCount_0f7a4 35 = .ok (.iload_n 0, 1) := by decide +kernel
theorem dJ6_bitCount_0f7a4_36 : decode cJ6_bitCount_0f7a4 36 = .ok (.bipush 8, 2) := by decide +kernel
theorem dJ6_bitCount_0f7a4_38 : decode cJ6_bitCount_0f7a4 38 = .ok (.iushr, 1) := by decide +kernel
theorem dJ6_bitCount_0f7a4_39 : decode cJ6_bitCount_0f7a4 39 = .ok (.iadd, 1) := by decide +kernel
theorem dJ6_bitCount_0f7a4_40 : decode cJ6_bitCount_0f7a4 40 = .ok (.istore_n 0, 1) := by decide +kernel
theorem dJ6_bitCount_0f7a4_41 : decode cJ6_bitCount_0f7a4 41 = .ok (.iload_n 0, 1) := by decide +kernel
theorem dJ6_bitCount_0f7a4_42 : decode cJ6_bitCount_0f7a4 42 = .ok (.iload_n 0, 1) := by decide +kernel
theorem dJ6_bitCount_0f7a4_43 : decode cJ6_bitCount_0f7a4 43 = .ok (.bipush 16, 2) := by decide +kernel
theorem dJ6_bitCount_0f7a4_45 : decode cJ6_bitCount_0f7a4 45 = .ok (.iushr, 1) := by decide +kernel
theorem dJ6_bitCount_0f7a4_46 : decode cJ6_bitCount_0f7a4 46 = .ok (.iadd, 1) := by decide +kernel
theorem dJ6_bitCount_0f7a4_47 : decode cJ6_bitCount_0f7a4 47 = .ok (.istore_n 0, 1) := by decide +kernel
theorem dJ6_bitCount_0f7a4_48 : decode cJ6_bitCount_0f7a4 48 = .ok (.iload_n 0, 1) := by decide +kernel
theorem dJ6_bitCount_0f7a4_49 : decode cJ6_bitCount_0f7a4 49 = .ok (.bipush 63, 2) := by decide +kernel
theorem dJ6_bitCount_0f7a4_51 : decode cJ6_bitCount_0f7a4 51 = .ok (.iand, 1) := by decide +kernel
theorem dJ6_bitCount_0f7a4_52 : decode cJ6_bitCount_0f7a4 52 = .ok (.ireturn, 1) := by decide +kernel
theorem dJ9_floorDiv_f86c9_0 : decode cJ9_floorDiv_f86c9 0 = .ok (.lload_n 0, 1) := by decide +kernel
theorem dJ9_floorDiv_f86c9_1 : decode cJ9_floorDiv_f86c9 1 = .ok (.lload_n 2, 1) := by decide +kernel
theorem dJ9_floorDiv_f86c9_2 : decode cJ9_floorDiv_f86c9 2 = .ok (.ldiv, 1) := by decide +kernel
theorem dJ9_floorDiv_f86c9_3 : decode cJ9_floorDiv_f86c9 3 = .ok (.lstore 4, 2) := by decide +kernel
theorem dJ9_floorDiv_f86c9_5 : decode cJ9_floorDiv_f86c9 5 = .ok (.lload_n 0, 1) := by decide +kernel
theorem dJ9_floorDiv_f86c9_6 : decode cJ9_floorDiv_f86c9 6 = .ok (.lload_n 2, 1) := by decide +kernel
theorem dJ9_floorDiv_f86c9_7 : decode cJ9_floorDiv_f86c9 7 = .ok (.lxor, 1) := by decide +kernel
theorem dJ9_floorDiv_f86c9_8 : decode cJ9_floorDiv_f86c9 8 = .ok (.lconst 0, 1) := by decide +kernel
theorem dJ9_floorDiv_f86c9_9 : decode cJ9_floorDiv_f86c9 9 = .ok (.lcmp, 1) := by decide +kernel
theorem dJ9_floorDiv_f86c9_10 : decode cJ9_floorDiv_f86c9 10 = .ok (.ifCond .ge 17, 3) := by decide +kernel
theorem dJ9_floorDiv_f86c9_13 : decode cJ9_floorDiv_f86c9 13 = .ok (.lload 4, 2) := by decide +kernel
theorem dJ9_floorDiv_f86c9_15 : decode cJ9_floorDiv_f86c9 15 = .ok (.lload_n 2, 1) := by decide +kernel
theorem dJ9_floorDiv_f86c9_16 : decode cJ9_floorDiv_f86c9 16 = .ok (.lmul, 1) := by decide +kernel
theorem dJ9_floorDiv_f86c9_17 : decode cJ9_floorDiv_f86c9 17 = .ok (.lload_n 0, 1) := by decide +kernel
end
section
theorem dJ9_floorDiv_f86c9_18 : decode cJ9_floorDiv_f86c9 18 = .ok (.lcmp, 1) := by decide +kernel
theorem dJ9_floorDiv_f86c9_19 : decode cJ9_floorDiv_f86c9 19 = .ok (.ifCond .eq 8, 3) := by decide +kernel
theorem dJ9_floorDiv_f86c9_22 : decode cJ9_floorDiv_f86c9 22 = .ok (.lload 4, 2) := by decide +kernel
theorem dJ9_floorDiv_f86c9_24 : decode cJ9_floorDiv_f86c9 24 = .ok (.lconst 1, 1) := by decide +kernel
theorem dJ9_floorDiv_f86c9_25 : decode cJ9_floorDiv_f86c9 25 = .ok (.lsub, 1) := by decide +kernel
theorem dJ9_floorDiv_f86c9_26 : decode cJ9_floorDiv_f86c9 26 = .ok (.lreturn, 1) := by decide +kernel
theorem dJ9_floorDiv_f86c9_27 : decode cJ9_floorDiv_f86c9 27 = .ok (.lload 4, 2) := by decide +kernel
theorem dJ9_floorDiv_f86c9_29 : decode cJ9_floorDiv_f86c9 29 = .ok (.lreturn, 1) := by decide +kernel
theorem dJ9_floorMod_f86c9_0 : decode cJ9_floorMod_f86c9 0 = .ok (.lload_n 0, 1) := by decide +kernel
theorem dJ9_floorMod_f86c9_1 : decode cJ9_floorMod_f86c9 1 = .ok (.lload_n 2, 1) := by decide +kernel
theorem dJ9_floorMod_f86c9_2 : decode cJ9_floorMod_f86c9 2 = .ok (.lrem, 1) := by decide +kernel
theorem dJ9_floorMod_f86c9_3 : decode cJ9_floorMod_f86c9 3 = .ok (.lstore 4, 2) := by decide +kernel
theorem dJ9_floorMod_f86c9_5 : decode cJ9_floorMod_f86c9 5 = .ok (.lload_n 0, 1) := by decide +kernel
theorem dJ9_floorMod_f86c9_6 : decode cJ9_floorMod_f86c9 6 = .ok (.lload_n 2, 1) := by decide +kernel
theorem dJ9_floorMod_f86c9_7 : decode cJ9_floorMod_f86c9 7 = .ok (.lxor, 1) := by decide +kernel
theorem dJ9_floorMod_f86c9_8 : decode cJ9_floorMod_f86c9 8 = .ok (.lconst 0, 1) := by decide +kernel
theorem dJ9_floorMod_f86c9_9 : decode cJ9_floorMod_f86c9 9 = .ok (.lcmp, 1) := by decide +kernel
theorem dJ9_floorMod_f86c9_10 : decode cJ9_floorMod_f86c9 10 = .ok (.ifCond .ge 15, 3) := by decide +kernel
theorem dJ9_floorMod_f86c9_13 : decode cJ9_floorMod_f86c9 13 = .ok (.lload 4, 2) := by decide +kernel
theorem dJ9_floorMod_f86c9_15 : decode cJ9_floorMod_f86c9 15 = .ok (.lconst 0, 1) := by decide +kernel
theorem dJ9_floorMod_f86c9_16 : decode cJ9_floorMod_f86c9 16 = .ok (.lcmp, 1) := by decide +kernel
theorem dJ9_floorMod_f86c9_17 : decode cJ9_floorMod_f86c9 17 = .ok (.ifCond .eq 8, 3) := by decide +kernel
theorem dJ9_floorMod_f86c9_20 : decode cJ9_floorMod_f86c9 20 = .ok (.lload 4, 2) := by decide +kernel
theorem dJ9_floorMod_f86c9_22 : decode cJ9_floorMod_f86c9 22 = .ok (.lload_n 2, 1) := by decide +kernel
theorem dJ9_floorMod_f86c9_23 : decode cJ9_floorMod_f86c9 23 = .ok (.ladd, 1) := by decide +kernel
theorem dJ9_floorMod_f86c9_24 : decode cJ9_floorMod_f86c9 24 = .ok (.lreturn, 1) := by decide +kernel
theorem dJ9_floorMod_f86c9_25 : decode cJ9_floorMod_f86c9 25 = .ok (.lload 4, 2) := by decide +kernel
theorem dJ9_floorMod_f86c9_27 : decode cJ9_floorMod_f86c9 27 = .ok (.lreturn, 1) := by decide +kernel
theorem dJ9_max_7cf53_0 : decode cJ9_max_7cf53 0 = .ok (.iload_n 0, 1) := by decide +kernel
theorem dJ9_max_7cf53_1 : decode cJ9_max_7cf53 1 = .ok (.iload_n 1, 1) := by decide +kernel
theorem dJ9_max_7cf53_2 : decode cJ9_max_7cf53 2 = .ok (.if_icmp .lt 7, 3) := by decide +kernel
theorem dJ9_max_7cf53_5 : decode cJ9_max_7cf53 5 = .ok (.iload_n 0, 1) := by decide +kernel
theorem dJ9_max_7cf53_6 : decode cJ9_max_7cf53 6 = .ok (.goto 4, 3) := by decide +kernel
theorem dJ9_max_7cf53_9 : decode cJ9_max_7cf53 9 = .ok (.iload_n 1, 1) := by decide +kernel
theorem dJ9_max_7cf53_10 : decode cJ9_max_7cf53 10 = .ok (.ireturn, 1) := by decide +kernel
theorem dJ9_max_f86c9_0 : decode cJ9_max_f86c9 0 = .ok (.lload_n 0, 1) := by decide +kernel
theorem dJ9_max_f86c9_1 : decode cJ9_max_f86c9 1 = .ok (.lload_n 2, 1) := by decide +kernel
theorem dJ9_max_f86c9_2 : decode cJ9_max_f86c9 2 = .ok (.lcmp, 1) := by decide +kernel
theorem dJ9_max_f86c9_3 : decode cJ9_max_f86c9 3 = .ok (.ifCond .lt 7, 3) := by decide +kernel
theorem dJ9_max_f86c9_6 : decode cJ9_max_f86c9 6 = .ok (.lload_n 0, 1) := by decide +kernel
theorem dJ9_max_f86c9_7 : decode cJ9_max_f86c9 7 = .ok (.goto 4, 3) := by decide +kernel
theorem dJ9_max_f86c9_10 : decode cJ9_max_f86c9 10 = .ok (.lload_n 2, 1) := by decide +kernel
theorem dJ9_max_f86c9_11 : decode cJ9_max_f86c9 11 = .ok (.lreturn, 1) := by decide +kernel
theorem dJ9_min_7cf53_0 : decode cJ9_min_7cf53 0 = .ok (.iload_n 0, 1) := by decide +kernel
theorem dJ9_min_7cf53_1 : decode cJ9_min_7cf53 1 = .ok (.iload_n 1, 1) := by decide +kernel
theorem dJ9_min_7cf53_2 : decode cJ9_min_7cf53 2 = .ok (.if_icmp .gt 7, 3) := by decide +kernel
theorem dJ9_min_7cf53_5 : decode cJ9_min_7cf53 5 = .ok (.iload_n 0, 1) := by decide +kernel
theorem dJ9_min_7cf53_6 : decode cJ9_min_7cf53 6 = .ok (.goto 4, 3) := by decide +kernel
theorem dJ9_min_7cf53_9 : decode cJ9_min_7cf53 9 = .ok (.iload_n 1, 1) := by decide +kernel
theorem dJ9_min_7cf53_10 : decode cJ9_min_7cf53 10 = .ok (.ireturn, 1) := by decide +kernel
theorem dJ7_fill_d0a16_0 : decode cJ7_fill_d0a16 0 = .ok (.iconst 0, 1) := by decide +kernel
theorem dJ7_fill_d0a16_1 : decode cJ7_fill_d0a16 1 = .ok (.istore_n 3, 1) := by decide +kernel
theorem dJ7_fill_d0a16_2 : decode cJ7_fill_d0a16 2 = .ok (.aload_n 0, 1) := by decide +kernel
theorem dJ7_fill_d0a16_3 : decode cJ7_fill_d0a16 3 = .ok (.arraylength, 1) := by decide +kernel
theorem dJ7_fill_d0a16_4 : decode cJ7_fill_d0a16 4 = .ok (.istore 4, 2) := by decide +kernel
theorem dJ7_fill_d0a16_6 : decode cJ7_fill_d0a16 6 = .ok (.iload_n 3, 1) := by decide +kernel
theorem dJ7_fill_d0a16_7 : decode cJ7_fill_d0a16 7 = .ok (.iload 4, 2) := by decide +kernel
theorem dJ7_fill_d0a16_9 : decode cJ7_fill_d0a16 9 = .ok (.if_icmp .ge 13, 3) := by decide +kernel
theorem dJ7_fill_d0a16_12 : decode cJ7_fill_d0a16 12 = .ok (.aload_n 0, 1) := by decide +kernel
theorem dJ7_fill_d0a16_13 : decode cJ7_fill_d0a16 13 = .ok (.iload_n 3, 1) := by decide +kernel
theorem dJ7_fill_d0a16_14 : decode cJ7_fill_d0a16 14 = .ok (.lload_n 1, 1) := by decide +kernel
theorem dJ7_fill_d0a16_15 : decode cJ7_fill_d0a16 15 = .ok (.lastore, 1) := by decide +kernel
theorem dJ7_fill_d0a16_16 : decode cJ7_fill_d0a16 16 = .ok (.iinc 3 1, 3) := by decide +kernel
theorem dJ7_fill_d0a16_19 : decode cJ7_fill_d0a16 19 = .ok (.goto (-13), 3) := by decide +kernel
theorem dJ7_fill_d0a16_22 : decode cJ7_fill_d0a16 22 = .ok (.return_, 1) := by decide +kernel
theorem dJ7_fill_53178_0 : decode cJ7_fill_53178 0 = .ok (.iconst 0, 1) := by decide +kernel
theorem dJ7_fill_53178_1 : decode cJ7_fill_53178 1 = .ok (.istore_n 2, 1) := by decide +kernel
theorem dJ7_fill_53178_2 : decode cJ7_fill_53178 2 = .ok (.aload_n 0, 1) := by decide +kernel
theorem dJ7_fill_53178_3 : decode cJ7_fill_53178 3 = .ok (.arraylength, 1) := by decide +kernel
theorem dJ7_fill_53178_4 : decode cJ7_fill_53178 4 = .ok (.istore_n 3, 1) := by decide +kernel
theorem dJ7_fill_53178_5 : decode cJ7_fill_53178 5 = .ok (.iload_n 2, 1) := by decide +kernel
theorem dJ7_fill_53178_6 : decode cJ7_fill_53178 6 = .ok (.iload_n 3, 1) := by decide +kernel
theorem dJ7_fill_53178_7 : decode cJ7_fill_53178 7 = .ok (.if_icmp .ge 13, 3) := by decide +kernel
theorem dJ7_fill_53178_10 : decode cJ7_fill_53178 10 = .ok (.aload_n 0, 1) := by decide +kernel
theorem dJ7_fill_53178_11 : decode cJ7_fill_53178 11 = .ok (.iload_n 2, 1) := by decide +kernel
theorem dJ7_fill_53178_12 : decode cJ7_fill_53178 12 = .ok (.iload_n 1, 1) := by decide +kernel
theorem dJ7_fill_53178_13 : decode cJ7_fill_53178 13 = .ok (.iastore, 1) := by decide +kernel
theorem dJ7_fill_53178_14 : decode cJ7_fill_53178 14 = .ok (.iinc 2 1, 3) := by decide +kernel
theorem dJ7_fill_53178_17 : decode cJ7_fill_53178 17 = .ok (.goto (-12), 3) := by decide +kernel
theorem dJ7_fill_53178_20 : decode cJ7_fill_53178 20 = .ok (.return_, 1) := by decide +kernel
theorem dL_law_0 : decode cL_law 0 = .ok (.new 7, 3) := by decide +kernel
theorem dL_law_3 : decode cL_law 3 = .ok (.dup, 1) := by decide +kernel
theorem dL_law_4 : decode cL_law 4 = .ok (.invokespecial 9, 3) := by decide +kernel
theorem dL_law_7 : decode cL_law 7 = .ok (.astore_n 1, 1) := by decide +kernel
theorem dL_law_8 : decode cL_law 8 = .ok (.new 10, 3) := by decide +kernel
theorem dL_law_11 : decode cL_law 11 = .ok (.dup, 1) := by decide +kernel
theorem dL_law_12 : decode cL_law 12 = .ok (.invokespecial 12, 3) := by decide +kernel
theorem dL_law_15 : decode cL_law 15 = .ok (.astore_n 2, 1) := by decide +kernel
theorem dL_law_16 : decode cL_law 16 = .ok (.iconst 0, 1) := by decide +kernel
theorem dL_law_17 : decode cL_law 17 = .ok (.istore_n 3, 1) := by decide +kernel
theorem dL_law_18 : decode cL_law 18 = .ok (.iload_n 3, 1) := by decide +kernel
theorem dL_law_19 : decode cL_law 19 = .ok (.aload_n 0, 1) := by decide +kernel
theorem dL_law_20 : decode cL_law 20 = .ok (.arraylength, 1) := by decide +kernel
theorem dL_law_21 : decode cL_law 21 = .ok (.bipush 6, 2) := by decide +kernel
theorem dL_law_23 : decode cL_law 23 = .ok (.isub, 1) := by decide +kernel
theorem dL_law_24 : decode cL_law 24 = .ok (.if_icmp .gt 1023, 3) := by decide +kernel
theorem dL_law_27 : decode cL_law 27 = .ok (.aload_n 0, 1) := by decide +kernel
theorem dL_law_28 : decode cL_law 28 = .ok (.iload_n 3, 1) := by decide +kernel
theorem dL_law_29 : decode cL_law 29 = .ok (.iaload, 1) := by decide +kernel
theorem dL_law_30 : decode cL_law 30 = .ok (.bipush 31, 2) := by decide +kernel
theorem dL_law_32 : decode cL_law 32 = .ok (.iand, 1) := by decide +kernel
theorem dL_law_33 : decode cL_law 33 = .ok (.tableswitch 1008 0 26 #[123, 176, 229, 288, 321, 380, 413, 436, 459, 482, 495, 508, 531, 554, 578, 601, 624, 647, 670, 683, 716, 750, 773, 806, 849, 872, 945], 123) := by decide +kernel
theorem dL_law_156 : decode cL_law 156 = .ok (.aload_n 1, 1) := by decide +kernel
theorem dL_law_157 : decode cL_law 157 = .ok (.aload_n 0, 1) := by decide +kernel
theorem dL_law_158 : decode cL_law 158 = .ok (.iload_n 3, 1) := by decide +kernel
theorem dL_law_159 : decode cL_law 159 = .ok (.iconst 1, 1) := by decide +kernel
theorem dL_law_160 : decode cL_law 160 = .ok (.iadd, 1) := by decide +kernel
theorem dL_law_161 : decode cL_law 161 = .ok (.iaload, 1) := by decide +kernel
theorem dL_law_162 : decode cL_law 162 = .ok (.aload_n 0, 1) := by decide +kernel
theorem dL_law_163 : decode cL_law 163 = .ok (.iload_n 3, 1) := by decide +kernel
theorem dL_law_164 : decode cL_law 164 = .ok (.iconst 2, 1) := by decide +kernel
theorem dL_law_165 : decode cL_law 165 = .ok (.iadd, 1) := by decide +kernel
theorem dL_law_166 : decode cL_law 166 = .ok (.iaload, 1) := by decide +kernel
theorem dL_law_167 : decode cL_law 167 = .ok (.aload_n 0, 1) := by decide +kernel
theorem dL_law_168 : decode cL_law 168 = .ok (.iload_n 3, 1) := by decide +kernel
theorem dL_law_169 : decode cL_law 169 = .ok (.iconst 3, 1) := by decide +kernel
theorem dL_law_170 : decode cL_law 170 = .ok (.iadd, 1) := by decide +kernel
theorem dL_law_171 : decode cL_law 171 = .ok (.iaload, 1) := by decide +kernel
theorem dL_law_172 : decode cL_law 172 = .ok (.aload_n 0, 1) := by decide +kernel
theorem dL_law_173 : decode cL_law 173 = .ok (.iload_n 3, 1) := by decide +kernel
theorem dL_law_174 : decode cL_law 174 = .ok (.iconst 4, 1) := by decide +kernel
theorem dL_law_175 : decode cL_law 175 = .ok (.iadd, 1) := by decide +kernel
theorem dL_law_176 : decode cL_law 176 = .ok (.iaload, 1) := by decide +kernel
theorem dL_law_177 : decode cL_law 177 = .ok (.invokevirtual 13, 3) := by decide +kernel
theorem dL_law_180 : decode cL_law 180 = .ok (.aload_n 2, 1) := by decide +kernel
theorem dL_law_181 : decode cL_law 181 = .ok (.aload_n 0, 1) := by decide +kernel
theorem dL_law_182 : decode cL_law 182 = .ok (.iload_n 3, 1) := by decide +kernel
theorem dL_law_183 : decode cL_law 183 = .ok (.iconst 1, 1) := by decide +kernel
theorem dL_law_184 : decode cL_law 184 = .ok (.iadd, 1) := by decide +kernel
theorem dL_law_185 : decode cL_law 185 = .ok (.iaload, 1) := by decide +kernel
theorem dL_law_186 : decode cL_law 186 = .ok (.aload_n 0, 1) := by decide +kernel
theorem dL_law_187 : decode cL_law 187 = .ok (.iload_n 3, 1) := by decide +kernel
theorem dL_law_188 : decode cL_law 188 = .ok (.iconst 2, 1) := by decide +kernel
theorem dL_law_189 : decode cL_law 189 = .ok (.iadd, 1) := by decide +kernel
theorem dL_law_190 : decode cL_law 190 = .ok (.iaload, 1) := by decide +kernel
theorem dL_law_191 : decode cL_law 191 = .ok (.aload_n 0, 1) := by decide +kernel
theorem dL_law_192 : decode cL_law 192 = .ok (.iload_n 3, 1) := by decide +kernel
theorem dL_law_193 : decode cL_law 193 = .ok (.iconst 3, 1) := by decide +kernel
theorem dL_law_194 : decode cL_law 194 = .ok (.iadd, 1) := by decide +kernel
theorem dL_law_195 : decode cL_law 195 = .ok (.iaload, 1) := by decide +kernel
theorem dL_law_196 : decode cL_law 196 = .ok (.aload_n 0, 1) := by decide +kernel
theorem dL_law_197 : decode cL_law 197 = .ok (.iload_n 3, 1) := by decide +kernel
theorem dL_law_198 : decode cL_law 198 = .ok (.iconst 4, 1) := by decide +kernel
theorem dL_law_199 : decode cL_law 199 = .ok (.iadd, 1) := by decide +kernel
theorem dL_law_200 : decode cL_law 200 = .ok (.iaload, 1) := by decide +kernel
theorem dL_law_201 : decode cL_law 201 = .ok (.invokevirtual 17, 3) := by decide +kernel
theorem dL_law_204 : decode cL_law 204 = .ok (.if_icmp .eq 837, 3) := by decide +kernel
theorem dL_law_207 : decode cL_law 207 = .ok (.iconst 0, 1) := by decide +kernel
theorem dL_law_208 : decode cL_law 208 = .ok (.ireturn, 1) := by decide +kernel
theorem dL_law_209 : decode cL_law 209 = .ok (.aload_n 1, 1) := by decide +kernel
theorem dL_law_210 : decode cL_law 210 = .ok (.aload_n 0, 1) := by decide +kernel
theorem dL_law_211 : decode cL_law 211 = .ok (.iload_n 3, 1) := by decide +kernel
theorem dL_law_212 : decode cL_law 212 = .ok (.iconst 1, 1) := by decide +kernel
theorem dL_law_213 : decode cL_law 213 = .ok (.iadd, 1) := by decide +kernel
theorem dL_law_214 : decode cL_law 214 = .ok (.iaload, 1) := by decide +kernel
theorem dL_law_215 : decode cL_law 215 = .ok (.aload_n 0, 1) := by decide +kernel
theorem dL_law_216 : decode cL_law 216 = .ok (.iload_n 3, 1) := by decide +kernel
theorem dL_law_217 : decode cL_law 217 = .ok (.iconst 2, 1) := by decide +kernel
theorem dL_law_218 : decode cL_law 218 = .ok (.iadd, 1) := by decide +kernel
theorem dL_law_219 : decode cL_law 219 = .ok (.iaload, 1) := by decide +kernel
theorem dL_law_220 : decode cL_law 220 = .ok (.aload_n 0, 1) := by decide +kernel
theorem dL_law_221 : decode cL_law 221 = .ok (.iload_n 3, 1) := by decide +kernel
theorem dL_law_222 : decode cL_law 222 = .ok (.iconst 3, 1) := by decide +kernel
theorem dL_law_223 : decode cL_law 223 = .ok (.iadd, 1) := by decide +kernel
theorem dL_law_224 : decode cL_law 224 = .ok (.iaload, 1) := by decide +kernel
theorem dL_law_225 : decode cL_law 225 = .ok (.aload_n 0, 1) := by decide +kernel
theorem dL_law_226 : decode cL_law 226 = .ok (.iload_n 3, 1) := by decide +kernel
theorem dL_law_227 : decode cL_law 227 = .ok (.iconst 4, 1) := by decide +kernel
theorem dL_law_228 : decode cL_law 228 = .ok (.iadd, 1) := by decide +kernel
theorem dL_law_229 : decode cL_law 229 = .ok (.iaload, 1) := by decide +kernel
theorem dL_law_230 : decode cL_law 230 = .ok (.invokevirtual 18, 3) := by decide +kernel
theorem dL_law_233 : decode cL_law 233 = .ok (.aload_n 2, 1) := by decide +kernel
theorem dL_law_234 : decode cL_law 234 = .ok (.aload_n 0, 1) := by decide +kernel
theorem dL_law_235 : decode cL_law 235 = .ok (.iload_n 3, 1) := by decide +kernel
theorem dL_law_236 : decode cL_law 236 = .ok (.iconst 1, 1) := by decide +kernel
theorem dL_law_237 : decode cL_law 237 = .ok (.iadd, 1) := by decide +kernel
theorem dL_law_238 : decode cL_law 238 = .ok (.iaload, 1) := by decide +kernel
theorem dL_law_239 : decode cL_law 239 = .ok (.aload_n 0, 1) := by decide +kernel
theorem dL_law_240 : decode cL_law 240 = .ok (.iload_n 3, 1) := by decide +kernel
theorem dL_law_241 : decode cL_law 241 = .ok (.iconst 2, 1) := by decide +kernel
theorem dL_law_242 : decode cL_law 242 = .ok (.iadd, 1) := by decide +kernel
theorem dL_law_243 : decode cL_law 243 = .ok (.iaload, 1) := by decide +kernel
theorem dL_law_244 : decode cL_law 244 = .ok (.aload_n 0, 1) := by decide +kernel
theorem dL_law_245 : decode cL_law 245 = .ok (.iload_n 3, 1) := by decide +kernel
theorem dL_law_246 : decode cL_law 246 = .ok (.iconst 3, 1) := by decide +kernel
theorem dL_law_247 : decode cL_law 247 = .ok (.iadd, 1) := by decide +kernel
theorem dL_law_248 : decode cL_law 248 = .ok (.iaload, 1) := by decide +kernel
theorem dL_law_249 : decode cL_law 249 = .ok (.aload_n 0, 1) := by decide +kernel
theorem dL_law_250 : decode cL_law 250 = .ok (.iload_n 3, 1) := by decide +kernel
theorem dL_law_251 : decode cL_law 251 = .ok (.iconst 4, 1) := by decide +kernel
theorem dL_law_252 : decode cL_law 252 = .ok (.iadd, 1) := by decide +kernel
theorem dL_law_253 : decode cL_law 253 = .ok (.iaload, 1) := by decide +kernel
theorem dL_law_254 : decode cL_law 254 = .ok (.invokevirtual 21, 3) := by decide +kernel
theorem dL_law_257 : decode cL_law 257 = .ok (.if_icmp .eq 784, 3) := by decide +kernel
theorem dL_law_260 : decode cL_law 260 = .ok (.iconst 0, 1) := by decide +kernel
theorem dL_law_261 : decode cL_law 261 = .ok (.ireturn, 1) := by decide +kernel
theorem dL_law_262 : decode cL_law 262 = .ok (.aload_n 1, 1) := by decide +kernel
theorem dL_law_263 : decode cL_law 263 = .ok (.aload_n 0, 1) := by decide +kernel
theorem dL_law_264 : decode cL_law 264 = .ok (.iload_n 3, 1) := by decide +kernel
theorem dL_law_265 : decode cL_law 265 = .ok (.iconst 1, 1) := by decide +kernel
theorem dL_law_266 : decode cL_law 266 = .ok (.iadd, 1) := by decide +kernel
theorem dL_law_267 : decode cL_law 267 = .ok (.iaload, 1) := by decide +kernel
theorem dL_law_268 : decode cL_law 268 = .ok (.aload_n 0, 1) := by decide +kernel
theorem dL_law_269 : decode cL_law 269 = .ok (.iload_n 3, 1) := by decide +kernel
theorem dL_law_270 : decode cL_law 270 = .ok (.iconst 2, 1) := by decide +kernel
theorem dL_law_271 : decode cL_law 271 = .ok (.iadd, 1) := by decide +kernel
theorem dL_law_272 : decode cL_law 272 = .ok (.iaload, 1) := by decide +kernel
theorem dL_law_273 : decode cL_law 273 = .ok (.aload_n 0, 1) := by decide +kernel
theorem dL_law_274 : decode cL_law 274 = .ok (.iload_n 3, 1) := by decide +kernel
theorem dL_law_275 : decode cL_law 275 = .ok (.iconst 3, 1) := by decide +kernel
theorem dL_law_276 : decode cL_law 276 = .ok (.iadd, 1) := by decide +kernel
theorem dL_law_277 : decode cL_law 277 = .ok (.iaload, 1) := by decide +kernel
theorem dL_law_278 : decode cL_law 278 = .ok (.ifCond .eq 7, 3) := by decide +kernel
theorem dL_law_281 : decode cL_law 281 = .ok (.iconst 1, 1) := by decide +kernel
theorem dL_law_282 : decode cL_law 282 = .ok (.goto 4, 3) := by decide +kernel
theorem dL_law_285 : decode cL_law 285 = .ok (.iconst 0, 1) := by decide +kernel
theorem dL_law_286 : decode cL_law 286 = .ok (.invokevirtual 22, 3) := by decide +kernel
theorem dL_law_289 : decode cL_law 289 = .ok (.aload_n 2, 1) := by decide +kernel
theorem dL_law_290 : decode cL_law 290 = .ok (.aload_n 0, 1) := by decide +kernel
theorem dL_law_291 : decode cL_law 291 = .ok (.iload_n 3, 1) := by decide +kernel
theorem dL_law_292 : decode cL_law 292 = .ok (.iconst 1, 1) := by decide +kernel
theorem dL_law_293 : decode cL_law 293 = .ok (.iadd, 1) := by decide +kernel
theorem dL_law_294 : decode cL_law 294 = .ok (.iaload, 1) := by decide +kernel
theorem dL_law_295 : decode cL_law 295 = .ok (.aload_n 0, 1) := by decide +kernel
theorem dL_law_296 : decode cL_law 296 = .ok (.iload_n 3, 1) := by decide +kernel
theorem dL_law_297 : decode cL_law 297 = .ok (.iconst 2, 1) := by decide +kernel
theorem dL_law_298 : decode cL_law 298 = .ok (.iadd, 1) := by decide +kernel
theorem dL_law_299 : decode cL_law 299 = .ok (.iaload, 1) := by decide +kernel
theorem dL_law_300 : decode cL_law 300 = .ok (.aload_n 0, 1) := by decide +kernel
theorem dL_law_301 : decode cL_law 301 = .ok (.iload_n 3, 1) := by decide +kernel
theorem dL_law_302 : decode cL_law 302 = .ok (.iconst 3, 1) := by decide +kernel
theorem dL_law_303 : decode cL_law 303 = .ok (.iadd, 1) := by decide +kernel
theorem dL_law_304 : decode cL_law 304 = .ok (.iaload, 1) := by decide +kernel
theorem dL_law_305 : decode cL_law 305 = .ok (.ifCond .eq 7, 3) := by decide +kernel
theorem dL_law_308 : decode cL_law 308 = .ok (.iconst 1, 1) := by decide +kernel
theorem dL_law_309 : decode cL_law 309 = .ok (.goto 4, 3) := by decide +kernel
theorem dL_law_312 : decode cL_law 312 = .ok (.iconst 0, 1) := by decide +kernel
theorem dL_law_313 : decode cL_law 313 = .ok (.invokevirtual 26, 3) := by decide +kernel
theorem dL_law_316 : decode cL_law 316 = .ok (.if_icmp .eq 725, 3) := by decide +kernel
theorem dL_law_319 : decode cL_law 319 = .ok (.iconst 0, 1) := by decide +kernel
theorem dL_law_320 : decode cL_law 320 = .ok (.ireturn, 1) := by decide +kernel
theorem dL_law_321 : decode cL_law 321 = .ok (.aload_n 1, 1) := by decide +kernel
theorem dL_law_322 : decode cL_law 322 = .ok (.aload_n 0, 1) := by decide +kernel
theorem dL_law_323 : decode cL_law 323 = .ok (.iload_n 3, 1) := by decide +kernel
theorem dL_law_324 : decode cL_law 324 = .ok (.iconst 1, 1) := by decide +kernel
theorem dL_law_325 : decode cL_law 325 = .ok (.iadd, 1) := by decide +kernel
theorem dL_law_326 : decode cL_law 326 = .ok (.iaload, 1) := by decide +kernel
theorem dL_law_327 : decode cL_law 327 = .ok (.aload_n 0, 1) := by decide +kernel
theorem dL_law_328 : decode cL_law 328 = .ok (.iload_n 3, 1) := by decide +kernel
theorem dL_law_329 : decode cL_law 329 = .ok (.iconst 2, 1) := by decide +kernel
theorem dL_law_330 : decode cL_law 330 = .ok (.iadd, 1) := by decide +kernel
theorem dL_law_331 : decode cL_law 331 = .ok (.iaload, 1) := by decide +kernel
theorem dL_law_332 : decode cL_law 332 = .ok (.invokevirtual 27, 3) := by decide +kernel
theorem dL_law_335 : decode cL_law 335 = .ok (.aload_n 2, 1) := by decide +kernel
theorem dL_law_336 : decode cL_law 336 = .ok (.aload_n 0, 1) := by decide +kernel
theorem dL_law_337 : decode cL_law 337 = .ok (.iload_n 3, 1) := by decide +kernel
theorem dL_law_338 : decode cL_law 338 = .ok (.iconst 1, 1) := by decide +kernel
theorem dL_law_339 : decode cL_law 339 = .ok (.iadd, 1) := by decide +kernel
theorem dL_law_340 : decode cL_law 340 = .ok (.iaload, 1) := by decide +kernel
theorem dL_law_341 : decode cL_law 341 = .ok (.aload_n 0, 1) := by decide +kernel
theorem dL_law_342 : decode cL_law 342 = .ok (.iload_n 3, 1) := by decide +kernel
theorem dL_law_343 : decode cL_law 343 = .ok (.iconst 2, 1) := by decide +kernel
theorem dL_law_344 : decode cL_law 344 = .ok (.iadd, 1) := by decide +kernel
theorem dL_law_345 : decode cL_law 345 = .ok (.iaload, 1) := by decide +kernel
theorem dL_law_346 : decode cL_law 346 = .ok (.invokevirtual 31, 3) := by decide +kernel
theorem dL_law_349 : decode cL_law 349 = .ok (.if_icmp .eq 692, 3) := by decide +kernel
theorem dL_law_352 : decode cL_law 352 = .ok (.iconst 0, 1) := by decide +kernel
theorem dL_law_353 : decode cL_law 353 = .ok (.ireturn, 1) := by decide +kernel
theorem dL_law_354 : decode cL_law 354 = .ok (.aload_n 1, 1) := by decide +kernel
theorem dL_law_355 : decode cL_law 355 = .ok (.aload_n 0, 1) := by decide +kernel
theorem dL_law_356 : decode cL_law 356 = .ok (.iload_n 3, 1) := by decide +kernel
theorem dL_law_357 : decode cL_law 357 = .ok (.iconst 1, 1) := by decide +kernel
theorem dL_law_358 : decode cL_law 358 = .ok (.iadd, 1) := by decide +kernel
theorem dL_law_359 : decode cL_law 359 = .ok (.iaload, 1) := by decide +kernel
theorem dL_law_360 : decode cL_law 360 = .ok (.aload_n 0, 1) := by decide +kernel
theorem dL_law_361 : decode cL_law 361 = .ok (.iload_n 3, 1) := by decide +kernel
theorem dL_law_362 : decode cL_law 362 = .ok (.iconst 2, 1) := by decide +kernel
theorem dL_law_363 : decode cL_law 363 = .ok (.iadd, 1) := by decide +kernel
theorem dL_law_364 : decode cL_law 364 = .ok (.iaload, 1) := by decide +kernel
theorem dL_law_365 : decode cL_law 365 = .ok (.aload_n 0, 1) := by decide +kernel
theorem dL_law_366 : decode cL_law 366 = .ok (.iload_n 3, 1) := by decide +kernel
theorem dL_law_367 : decode cL_law 367 = .ok (.iconst 3, 1) := by decide +kernel
theorem dL_law_368 : decode cL_law 368 = .ok (.iadd, 1) := by decide +kernel
theorem dL_law_369 : decode cL_law 369 = .ok (.iaload, 1) := by decide +kernel
theorem dL_law_370 : decode cL_law 370 = .ok (.ifCond .eq 7, 3) := by decide +kernel
theorem dL_law_373 : decode cL_law 373 = .ok (.iconst 1, 1) := by decide +kernel
theorem dL_law_374 : decode cL_law 374 = .ok (.goto 4, 3) := by decide +kernel
theorem dL_law_377 : decode cL_law 377 = .ok (.iconst 0, 1) := by decide +kernel
theorem dL_law_378 : decode cL_law 378 = .ok (.invokevirtual 32, 3) := by decide +kernel
theorem dL_law_381 : decode cL_law 381 = .ok (.aload_n 2, 1) := by decide +kernel
theorem dL_law_382 : decode cL_law 382 = .ok (.aload_n 0, 1) := by decide +kernel
theorem dL_law_383 : decode cL_law 383 = .ok (.iload_n 3, 1) := by decide +kernel
theorem dL_law_384 : decode cL_law 384 = .ok (.iconst 1, 1) := by decide +kernel
theorem dL_law_385 : decode cL_law 385 = .ok (.iadd, 1) := by decide +kernel
theorem dL_law_386 : decode cL_law 386 = .ok (.iaload, 1) := by decide +kernel
theorem dL_law_387 : decode cL_law 387 = .ok (.aload_n 0, 1) := by decide +kernel
theorem dL_law_388 : decode cL_law 388 = .ok (.iload_n 3, 1) := by decide +kernel
theorem dL_law_389 : decode cL_law 389 = .ok (.iconst 2, 1) := by decide +kernel
theorem dL_law_390 : decode cL_law 390 = .ok (.iadd, 1) := by decide +kernel
theorem dL_law_391 : decode cL_law 391 = .ok (.iaload, 1) := by decide +kernel
theorem dL_law_392 : decode cL_law 392 = .ok (.aload_n 0, 1) := by decide +kernel
theorem dL_law_393 : decode cL_law 393 = .ok (.iload_n 3, 1) := by decide +kernel
theorem dL_law_394 : decode cL_law 394 = .ok (.iconst 3, 1) := by decide +kernel
theorem dL_law_395 : decode cL_law 395 = .ok (.iadd, 1) := by decide +kernel
theorem dL_law_396 : decode cL_law 396 = .ok (.iaload, 1) := by decide +kernel
theorem dL_law_397 : decode cL_law 397 = .ok (.ifCond .eq 7, 3) := by decide +kernel
theorem dL_law_400 : decode cL_law 400 = .ok (.iconst 1, 1) := by decide +kernel
theorem dL_law_401 : decode cL_law 401 = .ok (.goto 4, 3) := by decide +kernel
theorem dL_law_404 : decode cL_law 404 = .ok (.iconst 0, 1) := by decide +kernel
theorem dL_law_405 : decode cL_law 405 = .ok (.invokevirtual 36, 3) := by decide +kernel
theorem dL_law_408 : decode cL_law 408 = .ok (.if_icmp .eq 633, 3) := by decide +kernel
theorem dL_law_411 : decode cL_law 411 = .ok (.iconst 0, 1) := by decide +kernel
theorem dL_law_412 : decode cL_law 412 = .ok (.ireturn, 1) := by decide +kernel
theorem dL_law_413 : decode cL_law 413 = .ok (.aload_n 1, 1) := by decide +kernel
theorem dL_law_414 : decode cL_law 414 = .ok (.aload_n 0, 1) := by decide +kernel
theorem dL_law_415 : decode cL_law 415 = .ok (.iload_n 3, 1) := by decide +kernel
theorem dL_law_416 : decode cL_law 416 = .ok (.iconst 1, 1) := by decide +kernel
theorem dL_law_417 : decode cL_law 417 = .ok (.iadd, 1) := by decide +kernel
theorem dL_law_418 : decode cL_law 418 = .ok (.iaload, 1) := by decide +kernel
theorem dL_law_419 : decode cL_law 419 = .ok (.aload_n 0, 1) := by decide +kernel
theorem dL_law_420 : decode cL_law 420 = .ok (.iload_n 3, 1) := by decide +kernel
theorem dL_law_421 : decode cL_law 421 = .ok (.iconst 2, 1) := by decide +kernel
theorem dL_law_422 : decode cL_law 422 = .ok (.iadd, 1) := by decide +kernel
theorem dL_law_423 : decode cL_law 423 = .ok (.iaload, 1) := by decide +kernel
theorem dL_law_424 : decode cL_law 424 = .ok (.invokevirtual 37, 3) := by decide +kernel
theorem dL_law_427 : decode cL_law 427 = .ok (.aload_n 2, 1) := by decide +kernel
theorem dL_law_428 : decode cL_law 428 = .ok (.aload_n 0, 1) := by decide +kernel
theorem dL_law_429 : decode cL_law 429 = .ok (.iload_n 3, 1) := by decide +kernel
theorem dL_law_430 : decode cL_law 430 = .ok (.iconst 1, 1) := by decide +kernel
theorem dL_law_431 : decode cL_law 431 = .ok (.iadd, 1) := by decide +kernel
theorem dL_law_432 : decode cL_law 432 = .ok (.iaload, 1) := by decide +kernel
theorem dL_law_433 : decode cL_law 433 = .ok (.aload_n 0, 1) := by decide +kernel
theorem dL_law_434 : decode cL_law 434 = .ok (.iload_n 3, 1) := by decide +kernel
theorem dL_law_435 : decode cL_law 435 = .ok (.iconst 2, 1) := by decide +kernel
theorem dL_law_436 : decode cL_law 436 = .ok (.iadd, 1) := by decide +kernel
theorem dL_law_437 : decode cL_law 437 = .ok (.iaload, 1) := by decide +kernel
theorem dL_law_438 : decode cL_law 438 = .ok (.invokevirtual 40, 3) := by decide +kernel
theorem dL_law_441 : decode cL_law 441 = .ok (.if_icmp .eq 600, 3) := by decide +kernel
theorem dL_law_444 : decode cL_law 444 = .ok (.iconst 0, 1) := by decide +kernel
theorem dL_law_445 : decode cL_law 445 = .ok (.ireturn, 1) := by decide +kernel
theorem dL_law_446 : decode cL_law 446 = .ok (.aload_n 1, 1) := by decide +kernel
theorem dL_law_447 : decode cL_law 447 = .ok (.aload_n 0, 1) := by decide +kernel
theorem dL_law_448 : decode cL_law 448 = .ok (.iload_n 3, 1) := by decide +kernel
theorem dL_law_449 : decode cL_law 449 = .ok (.iconst 1, 1) := by decide +kernel
theorem dL_law_450 : decode cL_law 450 = .ok (.iadd, 1) := by decide +kernel
theorem dL_law_451 : decode cL_law 451 = .ok (.iaload, 1) := by decide +kernel
theorem dL_law_452 : decode cL_law 452 = .ok (.invokevirtual 41, 3) := by decide +kernel
theorem dL_law_455 : decode cL_law 455 = .ok (.aload_n 2, 1) := by decide +kernel
theorem dL_law_456 : decode cL_law 456 = .ok (.aload_n 0, 1) := by decide +kernel
theorem dL_law_457 : decode cL_law 457 = .ok (.iload_n 3, 1) := by decide +kernel
theorem dL_law_458 : decode cL_law 458 = .ok (.iconst 1, 1) := by decide +kernel
theorem dL_law_459 : decode cL_law 459 = .ok (.iadd, 1) := by decide +kernel
theorem dL_law_460 : decode cL_law 460 = .ok (.iaload, 1) := by decide +kernel
theorem dL_law_461 : decode cL_law 461 = .ok (.invokevirtual 45, 3) := by decide +kernel
theorem dL_law_464 : decode cL_law 464 = .ok (.if_icmp .eq 577, 3) := by decide +kernel
theorem dL_law_467 : decode cL_law 467 = .ok (.iconst 0, 1) := by decide +kernel
theorem dL_law_468 : decode cL_law 468 = .ok (.ireturn, 1) := by decide +kernel
theorem dL_law_469 : decode cL_law 469 = .ok (.aload_n 1, 1) := by decide +kernel
theorem dL_law_470 : decode cL_law 470 = .ok (.aload_n 0, 1) := by decide +kernel
theorem dL_law_471 : decode cL_law 471 = .ok (.iload_n 3, 1) := by decide +kernel
theorem dL_law_472 : decode cL_law 472 = .ok (.iconst 1, 1) := by decide +kernel
theorem dL_law_473 : decode cL_law 473 = .ok (.iadd, 1) := by decide +kernel
theorem dL_law_474 : decode cL_law 474 = .ok (.iaload, 1) := by decide +kernel
theorem dL_law_475 : decode cL_law 475 = .ok (.invokevirtual 46, 3) := by decide +kernel
theorem dL_law_478 : decode cL_law 478 = .ok (.aload_n 2, 1) := by decide +kernel
theorem dL_law_479 : decode cL_law 479 = .ok (.aload_n 0, 1) := by decide +kernel
theorem dL_law_480 : decode cL_law 480 = .ok (.iload_n 3, 1) := by decide +kernel
theorem dL_law_481 : decode cL_law 481 = .ok (.iconst 1, 1) := by decide +kernel
theorem dL_law_482 : decode cL_law 482 = .ok (.iadd, 1) := by decide +kernel
theorem dL_law_483 : decode cL_law 483 = .ok (.iaload, 1) := by decide +kernel
theorem dL_law_484 : decode cL_law 484 = .ok (.invokevirtual 49, 3) := by decide +kernel
theorem dL_law_487 : decode cL_law 487 = .ok (.if_icmp .eq 554, 3) := by decide +kernel
theorem dL_law_490 : decode cL_law 490 = .ok (.iconst 0, 1) := by decide +kernel
theorem dL_law_491 : decode cL_law 491 = .ok (.ireturn, 1) := by decide +kernel
theorem dL_law_492 : decode cL_law 492 = .ok (.aload_n 1, 1) := by decide +kernel
theorem dL_law_493 : decode cL_law 493 = .ok (.aload_n 0, 1) := by decide +kernel
theorem dL_law_494 : decode cL_law 494 = .ok (.iload_n 3, 1) := by decide +kernel
theorem dL_law_495 : decode cL_law 495 = .ok (.iconst 1, 1) := by decide +kernel
theorem dL_law_496 : decode cL_law 496 = .ok (.iadd, 1) := by decide +kernel
theorem dL_law_497 : decode cL_law 497 = .ok (.iaload, 1) := by decide +kernel
theorem dL_law_498 : decode cL_law 498 = .ok (.invokevirtual 50, 3) := by decide +kernel
theorem dL_law_501 : decode cL_law 501 = .ok (.aload_n 2, 1) := by decide +kernel
theorem dL_law_502 : decode cL_law 502 = .ok (.aload_n 0, 1) := by decide +kernel
theorem dL_law_503 : decode cL_law 503 = .ok (.iload_n 3, 1) := by decide +kernel
theorem dL_law_504 : decode cL_law 504 = .ok (.iconst 1, 1) := by decide +kernel
theorem dL_law_505 : decode cL_law 505 = .ok (.iadd, 1) := by decide +kernel
theorem dL_law_506 : decode cL_law 506 = .ok (.iaload, 1) := by decide +kernel
theorem dL_law_507 : decode cL_law 507 = .ok (.invokevirtual 53, 3) := by decide +kernel
theorem dL_law_510 : decode cL_law 510 = .ok (.if_icmp .eq 531, 3) := by decide +kernel
theorem dL_law_513 : decode cL_law 513 = .ok (.iconst 0, 1) := by decide +kernel
theorem dL_law_514 : decode cL_law 514 = .ok (.ireturn, 1) := by decide +kernel
theorem dL_law_515 : decode cL_law 515 = .ok (.aload_n 1, 1) := by decide +kernel
theorem dL_law_516 : decode cL_law 516 = .ok (.invokevirtual 54, 3) := by decide +kernel
theorem dL_law_519 : decode cL_law 519 = .ok (.aload_n 2, 1) := by decide +kernel
theorem dL_law_520 : decode cL_law 520 = .ok (.invokevirtual 58, 3) := by decide +kernel
theorem dL_law_523 : decode cL_law 523 = .ok (.if_icmp .eq 518, 3) := by decide +kernel
theorem dL_law_526 : decode cL_law 526 = .ok (.iconst 0, 1) := by decide +kernel
theorem dL_law_527 : decode cL_law 527 = .ok (.ireturn, 1) := by decide +kernel
theorem dL_law_528 : decode cL_law 528 = .ok (.aload_n 1, 1) := by decide +kernel
theorem dL_law_529 : decode cL_law 529 = .ok (.invokevirtual 59, 3) := by decide +kernel
theorem dL_law_532 : decode cL_law 532 = .ok (.aload_n 2, 1) := by decide +kernel
theorem dL_law_533 : decode cL_law 533 = .ok (.invokevirtual 62, 3) := by decide +kernel
theorem dL_law_536 : decode cL_law 536 = .ok (.if_icmp .eq 505, 3) := by decide +kernel
theorem dL_law_539 : decode cL_law 539 = .ok (.iconst 0, 1) := by decide +kernel
theorem dL_law_540 : decode cL_law 540 = .ok (.ireturn, 1) := by decide +kernel
theorem dL_law_541 : decode cL_law 541 = .ok (.aload_n 1, 1) := by decide +kernel
theorem dL_law_542 : decode cL_law 542 = .ok (.aload_n 0, 1) := by decide +kernel
theorem dL_law_543 : decode cL_law 543 = .ok (.iload_n 3, 1) := by decide +kernel
theorem dL_law_544 : decode cL_law 544 = .ok (.iconst 1, 1) := by decide +kernel
theorem dL_law_545 : decode cL_law 545 = .ok (.iadd, 1) := by decide +kernel
theorem dL_law_546 : decode cL_law 546 = .ok (.iaload, 1) := by decide +kernel
theorem dL_law_547 : decode cL_law 547 = .ok (.invokevirtual 63, 3) := by decide +kernel
theorem dL_law_550 : decode cL_law 550 = .ok (.aload_n 2, 1) := by decide +kernel
theorem dL_law_551 : decode cL_law 551 = .ok (.aload_n 0, 1) := by decide +kernel
theorem dL_law_552 : decode cL_law 552 = .ok (.iload_n 3, 1) := by decide +kernel
theorem dL_law_553 : decode cL_law 553 = .ok (.iconst 1, 1) := by decide +kernel
theorem dL_law_554 : decode cL_law 554 = .ok (.iadd, 1) := by decide +kernel
theorem dL_law_555 : decode cL_law 555 = .ok (.iaload, 1) := by decide +kernel
theorem dL_law_556 : decode cL_law 556 = .ok (.invokevirtual 66, 3) := by decide +kernel
theorem dL_law_559 : decode cL_law 559 = .ok (.if_icmp .eq 482, 3) := by decide +kernel
theorem dL_law_562 : decode cL_law 562 = .ok (.iconst 0, 1) := by decide +kernel
theorem dL_law_563 : decode cL_law 563 = .ok (.ireturn, 1) := by decide +kernel
theorem dL_law_564 : decode cL_law 564 = .ok (.aload_n 1, 1) := by decide +kernel
theorem dL_law_565 : decode cL_law 565 = .ok (.aload_n 0, 1) := by decide +kernel
theorem dL_law_566 : decode cL_law 566 = .ok (.iload_n 3, 1) := by decide +kernel
theorem dL_law_567 : decode cL_law 567 = .ok (.iconst 1, 1) := by decide +kernel
theorem dL_law_568 : decode cL_law 568 = .ok (.iadd, 1) := by decide +kernel
theorem dL_law_569 : decode cL_law 569 = .ok (.iaload, 1) := by decide +kernel
theorem dL_law_570 : decode cL_law 570 = .ok (.invokevirtual 67, 3) := by decide +kernel
theorem dL_law_573 : decode cL_law 573 = .ok (.aload_n 2, 1) := by decide +kernel
theorem dL_law_574 : decode cL_law 574 = .ok (.aload_n 0, 1) := by decide +kernel
theorem dL_law_575 : decode cL_law 575 = .ok (.iload_n 3, 1) := by decide +kernel
theorem dL_law_576 : decode cL_law 576 = .ok (.iconst 1, 1) := by decide +kernel
theorem dL_law_577 : decode cL_law 577 = .ok (.iadd, 1) := by decide +kernel
theorem dL_law_578 : decode cL_law 578 = .ok (.iaload, 1) := by decide +kernel
theorem dL_law_579 : decode cL_law 579 = .ok (.invokevirtual 70, 3) := by decide +kernel
theorem dL_law_582 : decode cL_law 582 = .ok (.if_icmp .eq 459, 3) := by decide +kernel
theorem dL_law_585 : decode cL_law 585 = .ok (.iconst 0, 1) := by decide +kernel
theorem dL_law_586 : decode cL_law 586 = .ok (.ireturn, 1) := by decide +kernel
theorem dL_law_587 : decode cL_law 587 = .ok (.aload_n 1, 1) := by decide +kernel
theorem dL_law_588 : decode cL_law 588 = .ok (.aload_n 0, 1) := by decide +kernel
theorem dL_law_589 : decode cL_law 589 = .ok (.iload_n 3, 1) := by decide +kernel
theorem dL_law_590 : decode cL_law 590 = .ok (.iconst 1, 1) := by decide +kernel
theorem dL_law_591 : decode cL_law 591 = .ok (.iadd, 1) := by decide +kernel
theorem dL_law_592 : decode cL_law 592 = .ok (.iaload, 1) := by decide +kernel
theorem dL_law_593 : decode cL_law 593 = .ok (.invokevirtual 71, 3) := by decide +kernel
theorem dL_law_596 : decode cL_law 596 = .ok (.aload_n 2, 1) := by decide +kernel
theorem dL_law_597 : decode cL_law 597 = .ok (.aload_n 0, 1) := by decide +kernel
theorem dL_law_598 : decode cL_law 598 = .ok (.iload_n 3, 1) := by decide +kernel
theorem dL_law_599 : decode cL_law 599 = .ok (.iconst 1, 1) := by decide +kernel
theorem dL_law_600 : decode cL_law 600 = .ok (.iadd, 1) := by decide +kernel
theorem dL_law_601 : decode cL_law 601 = .ok (.iaload, 1) := by decide +kernel
theorem dL_law_602 : decode cL_law 602 = .ok (.invokevirtual 75, 3) := by decide +kernel
theorem dL_law_605 : decode cL_law 605 = .ok (.lcmp, 1) := by decide +kernel
theorem dL_law_606 : decode cL_law 606 = .ok (.ifCond .eq 435, 3) := by decide +kernel
theorem dL_law_609 : decode cL_law 609 = .ok (.iconst 0, 1) := by decide +kernel
theorem dL_law_610 : decode cL_law 610 = .ok (.ireturn, 1) := by decide +kernel
theorem dL_law_611 : decode cL_law 611 = .ok (.aload_n 1, 1) := by decide +kernel
theorem dL_law_612 : decode cL_law 612 = .ok (.aload_n 0, 1) := by decide +kernel
theorem dL_law_613 : decode cL_law 613 = .ok (.iload_n 3, 1) := by decide +kernel
theorem dL_law_614 : decode cL_law 614 = .ok (.iconst 1, 1) := by decide +kernel
theorem dL_law_615 : decode cL_law 615 = .ok (.iadd, 1) := by decide +kernel
theorem dL_law_616 : decode cL_law 616 = .ok (.iaload, 1) := by decide +kernel
theorem dL_law_617 : decode cL_law 617 = .ok (.invokevirtual 76, 3) := by decide +kernel
theorem dL_law_620 : decode cL_law 620 = .ok (.aload_n 2, 1) := by decide +kernel
theorem dL_law_621 : decode cL_law 621 = .ok (.aload_n 0, 1) := by decide +kernel
theorem dL_law_622 : decode cL_law 622 = .ok (.iload_n 3, 1) := by decide +kernel
theorem dL_law_623 : decode cL_law 623 = .ok (.iconst 1, 1) := by decide +kernel
theorem dL_law_624 : decode cL_law 624 = .ok (.iadd, 1) := by decide +kernel
theorem dL_law_625 : decode cL_law 625 = .ok (.iaload, 1) := by decide +kernel
theorem dL_law_626 : decode cL_law 626 = .ok (.invokevirtual 79, 3) := by decide +kernel
theorem dL_law_629 : decode cL_law 629 = .ok (.if_icmp .eq 412, 3) := by decide +kernel
theorem dL_law_632 : decode cL_law 632 = .ok (.iconst 0, 1) := by decide +kernel
theorem dL_law_633 : decode cL_law 633 = .ok (.ireturn, 1) := by decide +kernel
theorem dL_law_634 : decode cL_law 634 = .ok (.aload_n 1, 1) := by decide +kernel
theorem dL_law_635 : decode cL_law 635 = .ok (.aload_n 0, 1) := by decide +kernel
theorem dL_law_636 : decode cL_law 636 = .ok (.iload_n 3, 1) := by decide +kernel
theorem dL_law_637 : decode cL_law 637 = .ok (.iconst 1, 1) := by decide +kernel
theorem dL_law_638 : decode cL_law 638 = .ok (.iadd, 1) := by decide +kernel
theorem dL_law_639 : decode cL_law 639 = .ok (.iaload, 1) := by decide +kernel
theorem dL_law_640 : decode cL_law 640 = .ok (.invokevirtual 80, 3) := by decide +kernel
theorem dL_law_643 : decode cL_law 643 = .ok (.aload_n 2, 1) := by decide +kernel
theorem dL_law_644 : decode cL_law 644 = .ok (.aload_n 0, 1) := by decide +kernel
theorem dL_law_645 : decode cL_law 645 = .ok (.iload_n 3, 1) := by decide +kernel
theorem dL_law_646 : decode cL_law 646 = .ok (.iconst 1, 1) := by decide +kernel
theorem dL_law_647 : decode cL_law 647 = .ok (.iadd, 1) := by decide +kernel
theorem dL_law_648 : decode cL_law 648 = .ok (.iaload, 1) := by decide +kernel
theorem dL_law_649 : decode cL_law 649 = .ok (.invokevirtual 83, 3) := by decide +kernel
theorem dL_law_652 : decode cL_law 652 = .ok (.if_icmp .eq 389, 3) := by decide +kernel
theorem dL_law_655 : decode cL_law 655 = .ok (.iconst 0, 1) := by decide +kernel
theorem dL_law_656 : decode cL_law 656 = .ok (.ireturn, 1) := by decide +kernel
theorem dL_law_657 : decode cL_law 657 = .ok (.aload_n 1, 1) := by decide +kernel
theorem dL_law_658 : decode cL_law 658 = .ok (.aload_n 0, 1) := by decide +kernel
theorem dL_law_659 : decode cL_law 659 = .ok (.iload_n 3, 1) := by decide +kernel
theorem dL_law_660 : decode cL_law 660 = .ok (.iconst 1, 1) := by decide +kernel
theorem dL_law_661 : decode cL_law 661 = .ok (.iadd, 1) := by decide +kernel
theorem dL_law_662 : decode cL_law 662 = .ok (.iaload, 1) := by decide +kernel
theorem dL_law_663 : decode cL_law 663 = .ok (.invokevirtual 84, 3) := by decide +kernel
theorem dL_law_666 : decode cL_law 666 = .ok (.aload_n 2, 1) := by decide +kernel
theorem dL_law_667 : decode cL_law 667 = .ok (.aload_n 0, 1) := by decide +kernel
theorem dL_law_668 : decode cL_law 668 = .ok (.iload_n 3, 1) := by decide +kernel
theorem dL_law_669 : decode cL_law 669 = .ok (.iconst 1, 1) := by decide +kernel
theorem dL_law_670 : decode cL_law 670 = .ok (.iadd, 1) := by decide +kernel
theorem dL_law_671 : decode cL_law 671 = .ok (.iaload, 1) := by decide +kernel
theorem dL_law_672 : decode cL_law 672 = .ok (.invokevirtual 87, 3) := by decide +kernel
theorem dL_law_675 : decode cL_law 675 = .ok (.if_icmp .eq 366, 3) := by decide +kernel
theorem dL_law_678 : decode cL_law 678 = .ok (.iconst 0, 1) := by decide +kernel
theorem dL_law_679 : decode cL_law 679 = .ok (.ireturn, 1) := by decide +kernel
theorem dL_law_680 : decode cL_law 680 = .ok (.aload_n 1, 1) := by decide +kernel
theorem dL_law_681 : decode cL_law 681 = .ok (.aload_n 0, 1) := by decide +kernel
theorem dL_law_682 : decode cL_law 682 = .ok (.iload_n 3, 1) := by decide +kernel
theorem dL_law_683 : decode cL_law 683 = .ok (.iconst 1, 1) := by decide +kernel
theorem dL_law_684 : decode cL_law 684 = .ok (.iadd, 1) := by decide +kernel
theorem dL_law_685 : decode cL_law 685 = .ok (.iaload, 1) := by decide +kernel
theorem dL_law_686 : decode cL_law 686 = .ok (.invokevirtual 88, 3) := by decide +kernel
theorem dL_law_689 : decode cL_law 689 = .ok (.aload_n 2, 1) := by decide +kernel
theorem dL_law_690 : decode cL_law 690 = .ok (.aload_n 0, 1) := by decide +kernel
theorem dL_law_691 : decode cL_law 691 = .ok (.iload_n 3, 1) := by decide +kernel
theorem dL_law_692 : decode cL_law 692 = .ok (.iconst 1, 1) := by decide +kernel
theorem dL_law_693 : decode cL_law 693 = .ok (.iadd, 1) := by decide +kernel
theorem dL_law_694 : decode cL_law 694 = .ok (.iaload, 1) := by decide +kernel
theorem dL_law_695 : decode cL_law 695 = .ok (.invokevirtual 91, 3) := by decide +kernel
theorem dL_law_698 : decode cL_law 698 = .ok (.if_icmp .eq 343, 3) := by decide +kernel
theorem dL_law_701 : decode cL_law 701 = .ok (.iconst 0, 1) := by decide +kernel
theorem dL_law_702 : decode cL_law 702 = .ok (.ireturn, 1) := by decide +kernel
theorem dL_law_703 : decode cL_law 703 = .ok (.aload_n 1, 1) := by decide +kernel
theorem dL_law_704 : decode cL_law 704 = .ok (.invokevirtual 92, 3) := by decide +kernel
theorem dL_law_707 : decode cL_law 707 = .ok (.aload_n 2, 1) := by decide +kernel
theorem dL_law_708 : decode cL_law 708 = .ok (.invokevirtual 95, 3) := by decide +kernel
theorem dL_law_711 : decode cL_law 711 = .ok (.if_icmp .eq 330, 3) := by decide +kernel
theorem dL_law_714 : decode cL_law 714 = .ok (.iconst 0, 1) := by decide +kernel
theorem dL_law_715 : decode cL_law 715 = .ok (.ireturn, 1) := by decide +kernel
theorem dL_law_716 : decode cL_law 716 = .ok (.aload_n 1, 1) := by decide +kernel
theorem dL_law_717 : decode cL_law 717 = .ok (.aload_n 0, 1) := by decide +kernel
theorem dL_law_718 : decode cL_law 718 = .ok (.iload_n 3, 1) := by decide +kernel
theorem dL_law_719 : decode cL_law 719 = .ok (.iconst 1, 1) := by decide +kernel
theorem dL_law_720 : decode cL_law 720 = .ok (.iadd, 1) := by decide +kernel
theorem dL_law_721 : decode cL_law 721 = .ok (.iaload, 1) := by decide +kernel
theorem dL_law_722 : decode cL_law 722 = .ok (.aload_n 0, 1) := by decide +kernel
theorem dL_law_723 : decode cL_law 723 = .ok (.iload_n 3, 1) := by decide +kernel
theorem dL_law_724 : decode cL_law 724 = .ok (.iconst 2, 1) := by decide +kernel
theorem dL_law_725 : decode cL_law 725 = .ok (.iadd, 1) := by decide +kernel
theorem dL_law_726 : decode cL_law 726 = .ok (.iaload, 1) := by decide +kernel
theorem dL_law_727 : decode cL_law 727 = .ok (.invokevirtual 96, 3) := by decide +kernel
theorem dL_law_730 : decode cL_law 730 = .ok (.aload_n 2, 1) := by decide +kernel
theorem dL_law_731 : decode cL_law 731 = .ok (.aload_n 0, 1) := by decide +kernel
theorem dL_law_732 : decode cL_law 732 = .ok (.iload_n 3, 1) := by decide +kernel
theorem dL_law_733 : decode cL_law 733 = .ok (.iconst 1, 1) := by decide +kernel
theorem dL_law_734 : decode cL_law 734 = .ok (.iadd, 1) := by decide +kernel
theorem dL_law_735 : decode cL_law 735 = .ok (.iaload, 1) := by decide +kernel
theorem dL_law_736 : decode cL_law 736 = .ok (.aload_n 0, 1) := by decide +kernel
theorem dL_law_737 : decode cL_law 737 = .ok (.iload_n 3, 1) := by decide +kernel
theorem dL_law_738 : decode cL_law 738 = .ok (.iconst 2, 1) := by decide +kernel
theorem dL_law_739 : decode cL_law 739 = .ok (.iadd, 1) := by decide +kernel
theorem dL_law_740 : decode cL_law 740 = .ok (.iaload, 1) := by decide +kernel
theorem dL_law_741 : decode cL_law 741 = .ok (.invokevirtual 99, 3) := by decide +kernel
theorem dL_law_744 : decode cL_law 744 = .ok (.if_icmp .eq 297, 3) := by decide +kernel
theorem dL_law_747 : decode cL_law 747 = .ok (.iconst 0, 1) := by decide +kernel
theorem dL_law_748 : decode cL_law 748 = .ok (.ireturn, 1) := by decide +kernel
theorem dL_law_749 : decode cL_law 749 = .ok (.aload_n 1, 1) := by decide +kernel
theorem dL_law_750 : decode cL_law 750 = .ok (.aload_n 0, 1) := by decide +kernel
theorem dL_law_751 : decode cL_law 751 = .ok (.iload_n 3, 1) := by decide +kernel
theorem dL_law_752 : decode cL_law 752 = .ok (.iconst 1, 1) := by decide +kernel
theorem dL_law_753 : decode cL_law 753 = .ok (.iadd, 1) := by decide +kernel
theorem dL_law_754 : decode cL_law 754 = .ok (.iaload, 1) := by decide +kernel
theorem dL_law_755 : decode cL_law 755 = .ok (.aload_n 0, 1) := by decide +kernel
theorem dL_law_756 : decode cL_law 756 = .ok (.iload_n 3, 1) := by decide +kernel
theorem dL_law_757 : decode cL_law 757 = .ok (.iconst 2, 1) := by decide +kernel
theorem dL_law_758 : decode cL_law 758 = .ok (.iadd, 1) := by decide +kernel
theorem dL_law_759 : decode cL_law 759 = .ok (.iaload, 1) := by decide +kernel
theorem dL_law_760 : decode cL_law 760 = .ok (.invokevirtual 100, 3) := by decide +kernel
theorem dL_law_763 : decode cL_law 763 = .ok (.aload_n 2, 1) := by decide +kernel
theorem dL_law_764 : decode cL_law 764 = .ok (.aload_n 0, 1) := by decide +kernel
theorem dL_law_765 : decode cL_law 765 = .ok (.iload_n 3, 1) := by decide +kernel
theorem dL_law_766 : decode cL_law 766 = .ok (.iconst 1, 1) := by decide +kernel
theorem dL_law_767 : decode cL_law 767 = .ok (.iadd, 1) := by decide +kernel
theorem dL_law_768 : decode cL_law 768 = .ok (.iaload, 1) := by decide +kernel
theorem dL_law_769 : decode cL_law 769 = .ok (.aload_n 0, 1) := by decide +kernel
theorem dL_law_770 : decode cL_law 770 = .ok (.iload_n 3, 1) := by decide +kernel
theorem dL_law_771 : decode cL_law 771 = .ok (.iconst 2, 1) := by decide +kernel
theorem dL_law_772 : decode cL_law 772 = .ok (.iadd, 1) := by decide +kernel
theorem dL_law_773 : decode cL_law 773 = .ok (.iaload, 1) := by decide +kernel
theorem dL_law_774 : decode cL_law 774 = .ok (.invokevirtual 104, 3) := by decide +kernel
theorem dL_law_777 : decode cL_law 777 = .ok (.lcmp, 1) := by decide +kernel
theorem dL_law_778 : decode cL_law 778 = .ok (.ifCond .eq 263, 3) := by decide +kernel
theorem dL_law_781 : decode cL_law 781 = .ok (.iconst 0, 1) := by decide +kernel
theorem dL_law_782 : decode cL_law 782 = .ok (.ireturn, 1) := by decide +kernel
theorem dL_law_783 : decode cL_law 783 = .ok (.aload_n 1, 1) := by decide +kernel
theorem dL_law_784 : decode cL_law 784 = .ok (.aload_n 0, 1) := by decide +kernel
theorem dL_law_785 : decode cL_law 785 = .ok (.iload_n 3, 1) := by decide +kernel
theorem dL_law_786 : decode cL_law 786 = .ok (.iconst 1, 1) := by decide +kernel
theorem dL_law_787 : decode cL_law 787 = .ok (.iadd, 1) := by decide +kernel
theorem dL_law_788 : decode cL_law 788 = .ok (.iaload, 1) := by decide +kernel
theorem dL_law_789 : decode cL_law 789 = .ok (.invokevirtual 105, 3) := by decide +kernel
theorem dL_law_792 : decode cL_law 792 = .ok (.aload_n 2, 1) := by decide +kernel
theorem dL_law_793 : decode cL_law 793 = .ok (.aload_n 0, 1) := by decide +kernel
theorem dL_law_794 : decode cL_law 794 = .ok (.iload_n 3, 1) := by decide +kernel
theorem dL_law_795 : decode cL_law 795 = .ok (.iconst 1, 1) := by decide +kernel
theorem dL_law_796 : decode cL_law 796 = .ok (.iadd, 1) := by decide +kernel
theorem dL_law_797 : decode cL_law 797 = .ok (.iaload, 1) := by decide +kernel
theorem dL_law_798 : decode cL_law 798 = .ok (.invokevirtual 108, 3) := by decide +kernel
theorem dL_law_801 : decode cL_law 801 = .ok (.if_icmp .eq 240, 3) := by decide +kernel
theorem dL_law_804 : decode cL_law 804 = .ok (.iconst 0, 1) := by decide +kernel
theorem dL_law_805 : decode cL_law 805 = .ok (.ireturn, 1) := by decide +kernel
theorem dL_law_806 : decode cL_law 806 = .ok (.aload_n 1, 1) := by decide +kernel
theorem dL_law_807 : decode cL_law 807 = .ok (.aload_n 0, 1) := by decide +kernel
theorem dL_law_808 : decode cL_law 808 = .ok (.iload_n 3, 1) := by decide +kernel
theorem dL_law_809 : decode cL_law 809 = .ok (.iconst 1, 1) := by decide +kernel
theorem dL_law_810 : decode cL_law 810 = .ok (.iadd, 1) := by decide +kernel
theorem dL_law_811 : decode cL_law 811 = .ok (.iaload, 1) := by decide +kernel
theorem dL_law_812 : decode cL_law 812 = .ok (.aload_n 0, 1) := by decide +kernel
theorem dL_law_813 : decode cL_law 813 = .ok (.iload_n 3, 1) := by decide +kernel
theorem dL_law_814 : decode cL_law 814 = .ok (.iconst 2, 1) := by decide +kernel
theorem dL_law_815 : decode cL_law 815 = .ok (.iadd, 1) := by decide +kernel
theorem dL_law_816 : decode cL_law 816 = .ok (.iaload, 1) := by decide +kernel
theorem dL_law_817 : decode cL_law 817 = .ok (.invokevirtual 109, 3) := by decide +kernel
theorem dL_law_820 : decode cL_law 820 = .ok (.aload_n 2, 1) := by decide +kernel
theorem dL_law_821 : decode cL_law 821 = .ok (.aload_n 0, 1) := by decide +kernel
theorem dL_law_822 : decode cL_law 822 = .ok (.iload_n 3, 1) := by decide +kernel
theorem dL_law_823 : decode cL_law 823 = .ok (.iconst 1, 1) := by decide +kernel
theorem dL_law_824 : decode cL_law 824 = .ok (.iadd, 1) := by decide +kernel
theorem dL_law_825 : decode cL_law 825 = .ok (.iaload, 1) := by decide +kernel
theorem dL_law_826 : decode cL_law 826 = .ok (.aload_n 0, 1) := by decide +kernel
theorem dL_law_827 : decode cL_law 827 = .ok (.iload_n 3, 1) := by decide +kernel
theorem dL_law_828 : decode cL_law 828 = .ok (.iconst 2, 1) := by decide +kernel
theorem dL_law_829 : decode cL_law 829 = .ok (.iadd, 1) := by decide +kernel
theorem dL_law_830 : decode cL_law 830 = .ok (.iaload, 1) := by decide +kernel
theorem dL_law_831 : decode cL_law 831 = .ok (.invokevirtual 112, 3) := by decide +kernel
theorem dL_law_834 : decode cL_law 834 = .ok (.if_icmp .eq 207, 3) := by decide +kernel
theorem dL_law_837 : decode cL_law 837 = .ok (.iconst 0, 1) := by decide +kernel
theorem dL_law_838 : decode cL_law 838 = .ok (.ireturn, 1) := by decide +kernel
theorem dL_law_839 : decode cL_law 839 = .ok (.aload_n 1, 1) := by decide +kernel
theorem dL_law_840 : decode cL_law 840 = .ok (.aload_n 0, 1) := by decide +kernel
theorem dL_law_841 : decode cL_law 841 = .ok (.iload_n 3, 1) := by decide +kernel
theorem dL_law_842 : decode cL_law 842 = .ok (.iconst 1, 1) := by decide +kernel
theorem dL_law_843 : decode cL_law 843 = .ok (.iadd, 1) := by decide +kernel
theorem dL_law_844 : decode cL_law 844 = .ok (.iaload, 1) := by decide +kernel
theorem dL_law_845 : decode cL_law 845 = .ok (.aload_n 0, 1) := by decide +kernel
theorem dL_law_846 : decode cL_law 846 = .ok (.iload_n 3, 1) := by decide +kernel
theorem dL_law_847 : decode cL_law 847 = .ok (.iconst 2, 1) := by decide +kernel
theorem dL_law_848 : decode cL_law 848 = .ok (.iadd, 1) := by decide +kernel
theorem dL_law_849 : decode cL_law 849 = .ok (.iaload, 1) := by decide +kernel
theorem dL_law_850 : decode cL_law 850 = .ok (.aload_n 0, 1) := by decide +kernel
theorem dL_law_851 : decode cL_law 851 = .ok (.iload_n 3, 1) := by decide +kernel
theorem dL_law_852 : decode cL_law 852 = .ok (.iconst 3, 1) := by decide +kernel
theorem dL_law_853 : decode cL_law 853 = .ok (.iadd, 1) := by decide +kernel
theorem dL_law_854 : decode cL_law 854 = .ok (.iaload, 1) := by decide +kernel
theorem dL_law_855 : decode cL_law 855 = .ok (.invokevirtual 113, 3) := by decide +kernel
theorem dL_law_858 : decode cL_law 858 = .ok (.aload_n 2, 1) := by decide +kernel
theorem dL_law_859 : decode cL_law 859 = .ok (.aload_n 0, 1) := by decide +kernel
theorem dL_law_860 : decode cL_law 860 = .ok (.iload_n 3, 1) := by decide +kernel
theorem dL_law_861 : decode cL_law 861 = .ok (.iconst 1, 1) := by decide +kernel
theorem dL_law_862 : decode cL_law 862 = .ok (.iadd, 1) := by decide +kernel
theorem dL_law_863 : decode cL_law 863 = .ok (.iaload, 1) := by decide +kernel
theorem dL_law_864 : decode cL_law 864 = .ok (.aload_n 0, 1) := by decide +kernel
theorem dL_law_865 : decode cL_law 865 = .ok (.iload_n 3, 1) := by decide +kernel
theorem dL_law_866 : decode cL_law 866 = .ok (.iconst 2, 1) := by decide +kernel
theorem dL_law_867 : decode cL_law 867 = .ok (.iadd, 1) := by decide +kernel
theorem dL_law_868 : decode cL_law 868 = .ok (.iaload, 1) := by decide +kernel
theorem dL_law_869 : decode cL_law 869 = .ok (.aload_n 0, 1) := by decide +kernel
theorem dL_law_870 : decode cL_law 870 = .ok (.iload_n 3, 1) := by decide +kernel
theorem dL_law_871 : decode cL_law 871 = .ok (.iconst 3, 1) := by decide +kernel
theorem dL_law_872 : decode cL_law 872 = .ok (.iadd, 1) := by decide +kernel
theorem dL_law_873 : decode cL_law 873 = .ok (.iaload, 1) := by decide +kernel
theorem dL_law_874 : decode cL_law 874 = .ok (.invokevirtual 117, 3) := by decide +kernel
theorem dL_law_877 : decode cL_law 877 = .ok (.if_icmp .eq 164, 3) := by decide +kernel
theorem dL_law_880 : decode cL_law 880 = .ok (.iconst 0, 1) := by decide +kernel
theorem dL_law_881 : decode cL_law 881 = .ok (.ireturn, 1) := by decide +kernel
theorem dL_law_882 : decode cL_law 882 = .ok (.aload_n 1, 1) := by decide +kernel
theorem dL_law_883 : decode cL_law 883 = .ok (.aload_n 0, 1) := by decide +kernel
theorem dL_law_884 : decode cL_law 884 = .ok (.iload_n 3, 1) := by decide +kernel
theorem dL_law_885 : decode cL_law 885 = .ok (.iconst 1, 1) := by decide +kernel
theorem dL_law_886 : decode cL_law 886 = .ok (.iadd, 1) := by decide +kernel
theorem dL_law_887 : decode cL_law 887 = .ok (.iaload, 1) := by decide +kernel
theorem dL_law_888 : decode cL_law 888 = .ok (.invokevirtual 118, 3) := by decide +kernel
theorem dL_law_891 : decode cL_law 891 = .ok (.aload_n 2, 1) := by decide +kernel
theorem dL_law_892 : decode cL_law 892 = .ok (.aload_n 0, 1) := by decide +kernel
theorem dL_law_893 : decode cL_law 893 = .ok (.iload_n 3, 1) := by decide +kernel
theorem dL_law_894 : decode cL_law 894 = .ok (.iconst 1, 1) := by decide +kernel
theorem dL_law_895 : decode cL_law 895 = .ok (.iadd, 1) := by decide +kernel
theorem dL_law_896 : decode cL_law 896 = .ok (.iaload, 1) := by decide +kernel
theorem dL_law_897 : decode cL_law 897 = .ok (.invokevirtual 122, 3) := by decide +kernel
theorem dL_law_900 : decode cL_law 900 = .ok (.if_icmp .eq 141, 3) := by decide +kernel
theorem dL_law_903 : decode cL_law 903 = .ok (.iconst 0, 1) := by decide +kernel
theorem dL_law_904 : decode cL_law 904 = .ok (.ireturn, 1) := by decide +kernel
theorem dL_law_905 : decode cL_law 905 = .ok (.aload_n 1, 1) := by decide +kernel
theorem dL_law_906 : decode cL_law 906 = .ok (.aload_n 0, 1) := by decide +kernel
theorem dL_law_907 : decode cL_law 907 = .ok (.iload_n 3, 1) := by decide +kernel
theorem dL_law_908 : decode cL_law 908 = .ok (.iconst 1, 1) := by decide +kernel
theorem dL_law_909 : decode cL_law 909 = .ok (.iadd, 1) := by decide +kernel
theorem dL_law_910 : decode cL_law 910 = .ok (.iaload, 1) := by decide +kernel
theorem dL_law_911 : decode cL_law 911 = .ok (.aload_n 0, 1) := by decide +kernel
theorem dL_law_912 : decode cL_law 912 = .ok (.iload_n 3, 1) := by decide +kernel
theorem dL_law_913 : decode cL_law 913 = .ok (.iconst 2, 1) := by decide +kernel
theorem dL_law_914 : decode cL_law 914 = .ok (.iadd, 1) := by decide +kernel
theorem dL_law_915 : decode cL_law 915 = .ok (.iaload, 1) := by decide +kernel
theorem dL_law_916 : decode cL_law 916 = .ok (.aload_n 0, 1) := by decide +kernel
theorem dL_law_917 : decode cL_law 917 = .ok (.iload_n 3, 1) := by decide +kernel
theorem dL_law_918 : decode cL_law 918 = .ok (.iconst 3, 1) := by decide +kernel
theorem dL_law_919 : decode cL_law 919 = .ok (.iadd, 1) := by decide +kernel
theorem dL_law_920 : decode cL_law 920 = .ok (.iaload, 1) := by decide +kernel
theorem dL_law_921 : decode cL_law 921 = .ok (.i2l, 1) := by decide +kernel
theorem dL_law_922 : decode cL_law 922 = .ok (.bipush 32, 2) := by decide +kernel
theorem dL_law_924 : decode cL_law 924 = .ok (.lshl, 1) := by decide +kernel
theorem dL_law_925 : decode cL_law 925 = .ok (.aload_n 0, 1) := by decide +kernel
theorem dL_law_926 : decode cL_law 926 = .ok (.iload_n 3, 1) := by decide +kernel
theorem dL_law_927 : decode cL_law 927 = .ok (.iconst 4, 1) := by decide +kernel
theorem dL_law_928 : decode cL_law 928 = .ok (.iadd, 1) := by decide +kernel
theorem dL_law_929 : decode cL_law 929 = .ok (.iaload, 1) := by decide +kernel
theorem dL_law_930 : decode cL_law 930 = .ok (.i2l, 1) := by decide +kernel
theorem dL_law_931 : decode cL_law 931 = .ok (.ldc2_w 123, 3) := by decide +kernel
theorem dL_law_934 : decode cL_law 934 = .ok (.land, 1) := by decide +kernel
theorem dL_law_935 : decode cL_law 935 = .ok (.lor, 1) := by decide +kernel
theorem dL_law_936 : decode cL_law 936 = .ok (.invokevirtual 125, 3) := by decide +kernel
theorem dL_law_939 : decode cL_law 939 = .ok (.aload_n 2, 1) := by decide +kernel
theorem dL_law_940 : decode cL_law 940 = .ok (.aload_n 0, 1) := by decide +kernel
theorem dL_law_941 : decode cL_law 941 = .ok (.iload_n 3, 1) := by decide +kernel
theorem dL_law_942 : decode cL_law 942 = .ok (.iconst 1, 1) := by decide +kernel
theorem dL_law_943 : decode cL_law 943 = .ok (.iadd, 1) := by decide +kernel
theorem dL_law_944 : decode cL_law 944 = .ok (.iaload, 1) := by decide +kernel
theorem dL_law_945 : decode cL_law 945 = .ok (.aload_n 0, 1) := by decide +kernel
theorem dL_law_946 : decode cL_law 946 = .ok (.iload_n 3, 1) := by decide +kernel
theorem dL_law_947 : decode cL_law 947 = .ok (.iconst 2, 1) := by decide +kernel
theorem dL_law_948 : decode cL_law 948 = .ok (.iadd, 1) := by decide +kernel
theorem dL_law_949 : decode cL_law 949 = .ok (.iaload, 1) := by decide +kernel
theorem dL_law_950 : decode cL_law 950 = .ok (.aload_n 0, 1) := by decide +kernel
theorem dL_law_951 : decode cL_law 951 = .ok (.iload_n 3, 1) := by decide +kernel
theorem dL_law_952 : decode cL_law 952 = .ok (.iconst 3, 1) := by decide +kernel
theorem dL_law_953 : decode cL_law 953 = .ok (.iadd, 1) := by decide +kernel
theorem dL_law_954 : decode cL_law 954 = .ok (.iaload, 1) := by decide +kernel
theorem dL_law_955 : decode cL_law 955 = .ok (.i2l, 1) := by decide +kernel
theorem dL_law_956 : decode cL_law 956 = .ok (.bipush 32, 2) := by decide +kernel
theorem dL_law_958 : decode cL_law 958 = .ok (.lshl, 1) := by decide +kernel
theorem dL_law_959 : decode cL_law 959 = .ok (.aload_n 0, 1) := by decide +kernel
theorem dL_law_960 : decode cL_law 960 = .ok (.iload_n 3, 1) := by decide +kernel
theorem dL_law_961 : decode cL_law 961 = .ok (.iconst 4, 1) := by decide +kernel
theorem dL_law_962 : decode cL_law 962 = .ok (.iadd, 1) := by decide +kernel
theorem dL_law_963 : decode cL_law 963 = .ok (.iaload, 1) := by decide +kernel
theorem dL_law_964 : decode cL_law 964 = .ok (.i2l, 1) := by decide +kernel
theorem dL_law_965 : decode cL_law 965 = .ok (.ldc2_w 123, 3) := by decide +kernel
theorem dL_law_968 : decode cL_law 968 = .ok (.land, 1) := by decide +kernel
theorem dL_law_969 : decode cL_law 969 = .ok (.lor, 1) := by decide +kernel
theorem dL_law_970 : decode cL_law 970 = .ok (.invokevirtual 129, 3) := by decide +kernel
theorem dL_law_973 : decode cL_law 973 = .ok (.if_icmp .eq 68, 3) := by decide +kernel
theorem dL_law_976 : decode cL_law 976 = .ok (.iconst 0, 1) := by decide +kernel
theorem dL_law_977 : decode cL_law 977 = .ok (.ireturn, 1) := by decide +kernel
theorem dL_law_978 : decode cL_law 978 = .ok (.aload_n 1, 1) := by decide +kernel
theorem dL_law_979 : decode cL_law 979 = .ok (.aload_n 0, 1) := by decide +kernel
theorem dL_law_980 : decode cL_law 980 = .ok (.iload_n 3, 1) := by decide +kernel
theorem dL_law_981 : decode cL_law 981 = .ok (.iconst 1, 1) := by decide +kernel
theorem dL_law_982 : decode cL_law 982 = .ok (.iadd, 1) := by decide +kernel
theorem dL_law_983 : decode cL_law 983 = .ok (.iaload, 1) := by decide +kernel
theorem dL_law_984 : decode cL_law 984 = .ok (.aload_n 0, 1) := by decide +kernel
theorem dL_law_985 : decode cL_law 985 = .ok (.iload_n 3, 1) := by decide +kernel
theorem dL_law_986 : decode cL_law 986 = .ok (.iconst 2, 1) := by decide +kernel
theorem dL_law_987 : decode cL_law 987 = .ok (.iadd, 1) := by decide +kernel
theorem dL_law_988 : decode cL_law 988 = .ok (.iaload, 1) := by decide +kernel
theorem dL_law_989 : decode cL_law 989 = .ok (.aload_n 0, 1) := by decide +kernel
theorem dL_law_990 : decode cL_law 990 = .ok (.iload_n 3, 1) := by decide +kernel
theorem dL_law_991 : decode cL_law 991 = .ok (.iconst 3, 1) := by decide +kernel
theorem dL_law_992 : decode cL_law 992 = .ok (.iadd, 1) := by decide +kernel
theorem dL_law_993 : decode cL_law 993 = .ok (.iaload, 1) := by decide +kernel
theorem dL_law_994 : decode cL_law 994 = .ok (.aload_n 0, 1) := by decide +kernel
theorem dL_law_995 : decode cL_law 995 = .ok (.iload_n 3, 1) := by decide +kernel
theorem dL_law_996 : decode cL_law 996 = .ok (.iconst 4, 1) := by decide +kernel
theorem dL_law_997 : decode cL_law 997 = .ok (.iadd, 1) := by decide +kernel
theorem dL_law_998 : decode cL_law 998 = .ok (.iaload, 1) := by decide +kernel
theorem dL_law_999 : decode cL_law 999 = .ok (.aload_n 0, 1) := by decide +kernel
theorem dL_law_1000 : decode cL_law 1000 = .ok (.iload_n 3, 1) := by decide +kernel
theorem dL_law_1001 : decode cL_law 1001 = .ok (.iconst 5, 1) := by decide +kernel
theorem dL_law_1002 : decode cL_law 1002 = .ok (.iadd, 1) := by decide +kernel
theorem dL_law_1003 : decode cL_law 1003 = .ok (.iaload, 1) := by decide +kernel
theorem dL_law_1004 : decode cL_law 1004 = .ok (.invokevirtual 130, 3) := by decide +kernel
theorem dL_law_1007 : decode cL_law 1007 = .ok (.aload_n 2, 1) := by decide +kernel
theorem dL_law_1008 : decode cL_law 1008 = .ok (.aload_n 0, 1) := by decide +kernel
theorem dL_law_1009 : decode cL_law 1009 = .ok (.iload_n 3, 1) := by decide +kernel
theorem dL_law_1010 : decode cL_law 1010 = .ok (.iconst 1, 1) := by decide +kernel
theorem dL_law_1011 : decode cL_law 1011 = .ok (.iadd, 1) := by decide +kernel
theorem dL_law_1012 : decode cL_law 1012 = .ok (.iaload, 1) := by decide +kernel
theorem dL_law_1013 : decode cL_law 1013 = .ok (.aload_n 0, 1) := by decide +kernel
theorem dL_law_1014 : decode cL_law 1014 = .ok (.iload_n 3, 1) := by decide +kernel
theorem dL_law_1015 : decode cL_law 1015 = .ok (.iconst 2, 1) := by decide +kernel
theorem dL_law_1016 : decode cL_law 1016 = .ok (.iadd, 1) := by decide +kernel
theorem dL_law_1017 : decode cL_law 1017 = .ok (.iaload, 1) := by decide +kernel
theorem dL_law_1018 : decode cL_law 1018 = .ok (.aload_n 0, 1) := by decide +kernel
theorem dL_law_1019 : decode cL_law 1019 = .ok (.iload_n 3, 1) := by decide +kernel
theorem dL_law_1020 : decode cL_law 1020 = .ok (.iconst 3, 1) := by decide +kernel
theorem dL_law_1021 : decode cL_law 1021 = .ok (.iadd, 1) := by decide +kernel
theorem dL_law_1022 : decode cL_law 1022 = .ok (.iaload, 1) := by decide +kernel
theorem dL_law_1023 : decode cL_law 1023 = .ok (.aload_n 0, 1) := by decide +kernel
theorem dL_law_1024 : decode cL_law 1024 = .ok (.iload_n 3, 1) := by decide +kernel
theorem dL_law_1025 : decode cL_law 1025 = .ok (.iconst 4, 1) := by decide +kernel
theorem dL_law_1026 : decode cL_law 1026 = .ok (.iadd, 1) := by decide +kernel
theorem dL_law_1027 : decode cL_law 1027 = .ok (.iaload, 1) := by decide +kernel
theorem dL_law_1028 : decode cL_law 1028 = .ok (.aload_n 0, 1) := by decide +kernel
theorem dL_law_1029 : decode cL_law 1029 = .ok (.iload_n 3, 1) := by decide +kernel
theorem dL_law_1030 : decode cL_law 1030 = .ok (.iconst 5, 1) := by decide +kernel
theorem dL_law_1031 : decode cL_law 1031 = .ok (.iadd, 1) := by decide +kernel
theorem dL_law_1032 : decode cL_law 1032 = .ok (.iaload, 1) := by decide +kernel
theorem dL_law_1033 : decode cL_law 1033 = .ok (.invokevirtual 134, 3) := by decide +kernel
theorem dL_law_1036 : decode cL_law 1036 = .ok (.if_icmp .eq 5, 3) := by decide +kernel
theorem dL_law_1039 : decode cL_law 1039 = .ok (.iconst 0, 1) := by decide +kernel
theorem dL_law_1040 : decode cL_law 1040 = .ok (.ireturn, 1) := by decide +kernel
theorem dL_law_1041 : decode cL_law 1041 = .ok (.iinc 3 6, 3) := by decide +kernel
theorem dL_law_1044 : decode cL_law 1044 = .ok (.goto (-1026), 3) := by decide +kernel
theorem dL_law_1047 : decode cL_law 1047 = .ok (.iconst 1, 1) := by decide +kernel
theorem dL_law_1048 : decode cL_law 1048 = .ok (.ireturn, 1) := by decide +kernel
end
section
/-! THE PURE MACHINE: names instead of addresses, a pure heap, one judgement gg -/
abbrev PT : Type := (FieldType × Nat) ⊕ Nat
abbrev PH : Type := (Nat → Nat → Int32) × (Nat → Nat → Int64) × (Nat → Nat → Option Nat)
def q_up {α : Type} (f : Nat → Nat → α) (a k : Nat) (v : α) : Nat → Nat → α := fun x => if x = a then va_up (f a) k v else f x
def q_cv (ad : Nat → Nat) (v : Value) : Value := match v with
  | .ref k => .ref (ad k)
  | v => v
def q_fv (t : FieldType) (ad : Nat → Nat) (h : PH) (a k : Nat) : Value := match t with
  | .long => .long (h.2.1 a k)
  | .object _ => va_rf ((h.2.2 a k).map ad)
  | .array _ => va_rf ((h.2.2 a k).map ad)
  | _ => .int (h.1 a k)
def q_ar (t : FieldType) (ad : Nat → Nat) (h : PH) (a : Nat) : (Nat → Int32) ⊕ (Nat → Int64) ⊕ (Nat → UInt32) ⊕ (Nat → UInt64) ⊕ (Nat → Option Nat) := match t with
  | .long => .inr (.inl (h.2.1 a))
  | .object _ => .inr (.inr (.inr (.inr (fun i => (h.2.2 a i).map ad))))
  | .array _ => .inr (.inr (.inr (.inr (fun i => (h.2.2 a i).map ad))))
  | _ => .inl (h.1 a)
def q_ft (ci k : Nat) : FieldType := match ci with
  | 0 => tyX0 k
  | 1 => tyX1 k
  | 2 => tyX2 k
  | 3 => tyX3 k
  | 4 => tyX4 k
  | 5 => tyX5 k
  | 6 => tyX6 k
  | 7 => tyX7 k
  | _ => tyX8 k
def q_N (ci : Nat) : Nat := match ci with
  | 0 => 16
  | 1 => 2
  | 2 => 8
  | 3 => 4
  | 4 => 10
  | 5 => 3
  | 6 => 5
  | 7 => 11
  | _ => 48
def q_fs (ci : Nat) (ad : Nat → Nat) (h : PH) (a : Nat) : List Value := (List.range (q_N ci)).map fun k => q_fv (q_ft ci k) ad h a k
def q_E (ca : FieldType → ClassId) (ad : Nat → Nat) (h : PH) (t : PT) (a : Nat) : va_E := match t with
  | .inl x => .inl (ca x.1, x.2, q_ar x.1 ad h a)
  | .inr ci => .inr (ci, q_fs ci ad h a)
def q_tys (ca : FieldType → ClassId) : List (ClassId × FieldType) := [(ca .int, .int), (ca .long, .long), (ca .boolean, .boolean), (ca .byte, .byte), (ca (.object RX0), .object RX0), (ca (.array .long), .array .long)]
def q_nest (w : Cond) : Bool := match w with
  | .fieldLinkNest _ _ _ _ _ _ => true
  | .methodLinkNest _ _ _ _ => true
  | .arrayOver _ => true
  | _ => false
def q_good (w : Cond) : Bool := goodWord w || q_nest w
def q_W (U : State) : Prop := ∀ w ∈ lw_tbl, q_good w = true → ∀ a : Array Value, w.before a U = true
theorem q_W.at {s U : State} {A0 : Array Value} (hW : s.WarmedH U.vm) (h : ∀ w ∈ lw_tbl, q_good w = true → w.before A0 s = true) : q_W U := by
  intro w hw h1 a
  have h0 := h w hw h1
  rcases (Bool.or_eq_true _ _).mp h1 with h2 | h2
  · exact word_at hW (good_of_word h2) h0
  · cases w with
    | fieldLinkNest a1 a2 a3 a4 a5 a6 => exact va_Nw.use rfl (va_Nw.warmF hW (va_Nw.of rfl h0))
    | methodLinkNest a1 a2 a3 a4 => exact va_Nw.use rfl (va_Nw.warmM hW (va_Nw.of rfl h0))
    | arrayOver t => exact (Cond.arrayOver_setVmC (args := A0) (s := s) hW.alike t).trans h0
    | _ => cases h2
theorem q_W.warm {s U : State} (hW : s.WarmedH U.vm) (h : q_W s) : q_W U := q_W.at (A0 := #[]) hW (fun w hw hg => h w hw hg _)
def q_T (D : va_G) (ca : FieldType → ClassId) (U : State) : Prop := q_W U ∧ va_K D vwCl (q_tys ca) U
theorem q_T.warm {D : va_G} {ca : FieldType → ClassId} {s U : State} (hW : s.WarmedH U.vm) (h : q_T D ca s) : q_T D ca U := ⟨q_W.warm hW h.1, va_K.moved hW.alike h.2⟩
def q_R (D : va_G) (ca : FieldType → ClassId) (ty : Nat → PT) (al : Nat → Bool) (ad : Nat → Nat) (h : PH) (H : Heap) : Prop := ∀ a, al a = true → va_at D vwCl (ad a, q_E ca ad h (ty a) a) H
def q_J (al : Nat → Bool) (ad : Nat → Nat) : Prop := ∀ a b, al a = true → al b = true → ad a = ad b → a = b
def q_A (al : Nat → Bool) (ad : Nat → Nat) : Nat → Prop := fun q => ∃ a, al a = true ∧ q = ad a
/-- locals by their places -/
def q_prs (ad : Nat → Nat) : Nat → List (Option Value) → List (Nat × Value)
  | _, [] => []
  | i, none :: r => q_prs ad (i + 1) r
  | i, some v :: r => (i, q_cv ad v) :: q_prs ad (i + 1) r
theorem q_prs_mem {ad : Nat → Nat} {q : Nat × Value} : ∀ {ls : List (Option Value)} {i : Nat}, q ∈ q_prs ad i ls ↔ ∃ (k : Nat) (v : Value), q.1 = i + k ∧ ls[k]? = some (some v) ∧ q.2 = q_cv ad v := by
  intro ls
  induction ls with
  | nil => intro i; simp [q_prs]
  | cons x r ih =>
    intro i
    cases x with
    | none =>
      rw [q_prs, ih]
      constructor
      · rintro ⟨k, v, h1, h2, h3⟩
        exact ⟨k + 1, v, by omega, by simpa using h2, h3⟩
      · rintro ⟨k, v, h1, h2, h3⟩
        cases k with
        | zero => simp at h2
        | succ k => exact ⟨k, v, by omega, by simpa using h2, h3⟩
    | some w =>
      rw [q_prs, List.mem_cons, ih]
      constructor
      · rintro (rfl | ⟨k, v, h1, h2, h3⟩)
        · exact ⟨0, w, rfl, rfl, rfl⟩
        · exact ⟨k + 1, v, by omega, by simpa using h2, h3⟩
      · rintro ⟨k, v, h1, h2, h3⟩
        cases k with
        | zero =>
          simp at h2
          subst h2
          exact Or.inl (Prod.ext h1 h3)
        | succ k => exact Or.inr ⟨k, v, by omega, by simpa using h2, h3⟩
def q_L (ad : Nat → Nat) (nL : Nat) (ls : List (Option Value)) (lsA : Array Slot) : Prop := lv_has lsA nL (q_prs ad 0 ls)
theorem q_L.get {ad : Nat → Nat} {nL i : Nat} {ls : List (Option Value)} {lsA : Array Slot} {v : Value} (h : q_L ad nL ls lsA) (hi : ls[i]? = some (some v)) : lsA[i]? = some (.val (q_cv ad v)) :=
  h.2.2 (i, q_cv ad v) (q_prs_mem.mpr ⟨i, v, by simp, hi, rfl⟩)
theorem q_L.mono {ad : Nat → Nat} {nL : Nat} {ls ls' : List (Option Value)} {lsA : Array Slot} (h : q_L ad nL ls lsA) (hi : ∀ (i : Nat) (v : Value), ls'[i]? = some (some v) → ls[i]? = some (some v)) : q_L ad nL ls' lsA := by
  refine ⟨h.1, h.2.1, fun q hq => ?_⟩
  obtain ⟨k, v, h1, h2, h3⟩ := q_prs_mem.mp hq
  exact h.2.2 q (q_prs_mem.mpr ⟨k, v, h1, hi k v h2, h3⟩)
def q_nl (ls : List (Option Value)) (i : Nat) : Bool := match i with
  | 0 => true
  | j + 1 => match ls[j]? with
    | some (some v) => v.category == 1
    | _ => true
theorem q_cv_cat (ad : Nat → Nat) (v : Value) : (q_cv ad v).category = v.category := by cases v <;> rfl
theorem q_L.set1 {ad : Nat → Nat} {nL i : Nat} {ls : List (Option Value)} {lsA' : Array Slot} {v : Value} (hn : q_nl ls i = true)
    (h : lv_has lsA' nL ((i, q_cv ad v) :: (q_prs ad 0 ls).filter (fun q => !(q.1 == i) && !(q.1 + 1 == i && q.2.category == 2)))) : q_L ad nL (ls.set i (some v)) lsA' := by
  refine ⟨h.1, h.2.1, fun q hq => ?_⟩
  obtain ⟨k, w, h1, h2, h3⟩ := q_prs_mem.mp hq
  rw [Nat.zero_add] at h1
  apply h.2.2
  by_cases e : i = k
  · subst e
    rw [List.getElem?_set] at h2
    simp only [if_true] at h2
    split at h2
    · cases h2
      exact List.mem_cons.mpr (Or.inl (Prod.ext h1 h3))
    · cases h2
  · rw [List.getElem?_set_ne e] at h2
    refine List.mem_cons.mpr (Or.inr (List.mem_filter.mpr ⟨q_prs_mem.mpr ⟨k, w, by omega, h2, h3⟩, ?_⟩))
    have e1 : (q.1 == i) = false := by simp; omega
    rw [e1]
    by_cases e2 : q.1 + 1 = i
    · have e3 : i = k + 1 := by omega
      subst e3
      simp only [q_nl, h2] at hn
      have hw : w.category = 1 := by simpa using hn
      simp [h3, q_cv_cat, hw]
    · simp [e2]
theorem q_L.set2 {ad : Nat → Nat} {nL i : Nat} {ls : List (Option Value)} {lsA' : Array Slot} {v : Value} (hn : q_nl ls i = true)
    (h : lv_has lsA' nL ((i, q_cv ad v) :: (q_prs ad 0 ls).filter (fun q => !(q.1 == i) && (!(q.1 == i + 1) && !(q.1 + 1 == i && q.2.category == 2))))) : q_L ad nL ((ls.set i (some v)).set (i + 1) none) lsA' := by
  refine ⟨h.1, h.2.1, fun q hq => ?_⟩
  obtain ⟨k, w, h1, h2, h3⟩ := q_prs_mem.mp hq
  rw [Nat.zero_add] at h1
  apply h.2.2
  by_cases e0 : i + 1 = k
  · subst e0
    rw [List.getElem?_set] at h2
    simp only [if_true] at h2
    split at h2 <;> cases h2
  rw [List.getElem?_set_ne e0] at h2
  by_cases e : i = k
  · subst e
    rw [List.getElem?_set] at h2
    simp only [if_true] at h2
    split at h2
    · cases h2
      exact List.mem_cons.mpr (Or.inl (Prod.ext h1 h3))
    · cases h2
  · rw [List.getElem?_set_ne e] at h2
    refine List.mem_cons.mpr (Or.inr (List.mem_filter.mpr ⟨q_prs_mem.mpr ⟨k, w, by omega, h2, h3⟩, ?_⟩))
    have e1 : (q.1 == i) = false := by simp; omega
    have e4 : (q.1 == i + 1) = false := by simp; omega
    rw [e1, e4]
    by_cases e2 : q.1 + 1 = i
    · have e3 : i = k + 1 := by omega
      subst e3
      simp only [q_nl, h2] at hn
      have hw : w.category = 1 := by simpa using hn
      simp [h3, q_cv_cat, hw]
    · simp [e2]
/-- the locals at the entry -/
def q_in : List Value → Nat → List (Option Value)
  | [], n => List.replicate n none
  | .long x :: vs, n => some (.long x) :: none :: q_in vs (n - 2)
  | .double x :: vs, n => some (.double x) :: none :: q_in vs (n - 2)
  | v :: vs, n => some v :: q_in vs (n - 1)
theorem q_in_get {ad : Nat → Nat} : ∀ (vs : List Value) (n i k : Nat) (v : Value), (q_in vs n)[k]? = some (some v) → (i + k, q_cv ad v) ∈ lv_args i (vs.map (q_cv ad)) := by
  intro vs
  induction vs with
  | nil =>
    intro n i k v h
    have := List.eq_of_mem_replicate (List.mem_of_getElem? h)
    cases this
  | cons x r ih =>
    intro n i k v h
    have cat1 : x.category = 1 → (q_in (x :: r) n) = some x :: q_in r (n - 1) := by
      intro hc
      cases x <;> first | rfl | cases hc
    have cat2 : x.category = 2 → (q_in (x :: r) n) = some x :: none :: q_in r (n - 2) := by
      intro hc
      cases x <;> first | rfl | cases hc
    rw [List.map_cons, lv_args]
    rcases lv_cat x with hc | hc
    · rw [cat1 hc] at h
      rw [q_cv_cat, if_neg (by omega)]
      cases k with
      | zero =>
        simp at h
        subst h
        exact List.mem_cons.mpr (Or.inl rfl)
      | succ k =>
        have := ih (n - 1) (i + 1) k v (by simpa using h)
        rw [show i + (k + 1) = i + 1 + k by omega]
        exact List.mem_cons.mpr (Or.inr this)
    · rw [cat2 hc] at h
      rw [q_cv_cat, if_pos hc]
      match k, h with
      | 0, h =>
        simp at h
        subst h
        exact List.mem_cons.mpr (Or.inl rfl)
      | 1, h => simp at h
      | k + 2, h =>
        have := ih (n - 2) (i + 2) k v (by simpa using h)
        rw [show i + (k + 2) = i + 2 + k by omega]
        exact List.mem_cons.mpr (Or.inr this)
theorem q_entry {ad : Nat → Nat} {vs : List Value} {n : Nat} {lsA : Array Slot} (h : lv_has lsA n (lv_args 0 (vs.map (q_cv ad)))) : q_L ad n (q_in vs n) lsA := by
  refine ⟨h.1, h.2.1, fun q hq => ?_⟩
  obtain ⟨k, v, h1, h2, h3⟩ := q_prs_mem.mp hq
  have := q_in_get (ad := ad) vs n 0 k v h2
  exact h.2.2 q (by rw [show q = (0 + k, q_cv ad v) from Prod.ext h1 h3]; exact this)
/-! classes -/
def q_ok (ci : Nat) (C : String) (T : u_T) (N : Nat) : Prop := vwCl[ci]? = some (C, T, N) ∧ (∀ w ∈ u_ws C T N, w ∈ lw_tbl) ∧ (∀ k, k < N → parseFieldDescriptor (T k).2.2.1 = some (q_ft ci k)) ∧ (∀ a, a < N → ∀ b, b < N → a ≠ b → (T a).2.1 ≠ (T b).2.1) ∧ q_N ci = N
set_option maxRecDepth 100000 in
theorem q_ok0 : q_ok 0 RX0 TX0 16 := ⟨rfl, by decide +kernel, tyX0_ok, nmX0, rfl⟩
set_option maxRecDepth 100000 in
theorem q_ok1 : q_ok 1 RX1 TX1 2 := ⟨rfl, by decide +kernel, tyX1_ok, nmX1, rfl⟩
set_option maxRecDepth 100000 in
theorem q_ok2 : q_ok 2 RX2 TX2 8 := ⟨rfl, by decide +kernel, tyX2_ok, nmX2, rfl⟩
set_option maxRecDepth 100000 in
theorem q_ok3 : q_ok 3 RX3 TX3 4 := ⟨rfl, by decide +kernel, tyX3_ok, nmX3, rfl⟩
set_option maxRecDepth 100000 in
theorem q_ok4 : q_ok 4 RX4 TX4 10 := ⟨rfl, by decide +kernel, tyX4_ok, nmX4, rfl⟩
set_option maxRecDepth 100000 in
theorem q_ok5 : q_ok 5 RX5 TX5 3 := ⟨rfl, by decide +kernel, tyX5_ok, nmX5, rfl⟩
set_option maxRecDepth 100000 in
theorem q_ok6 : q_ok 6 RX6 TX6 5 := ⟨rfl, by decide +kernel, tyX6_ok, nmX6, rfl⟩
set_option maxRecDepth 100000 in
theorem q_ok7 : q_ok 7 RX7 TX7 11 := ⟨rfl, by decide +kernel, tyX7_ok, nmX7, rfl⟩
set_option maxRecDepth 100000 in
theorem q_ok8 : q_ok 8 RX8 TX8 48 := ⟨rfl, by decide +kernel, tyX8_ok, nmX8, rfl⟩
def q_FL (own : String) (idx ci k : Nat) : Prop := ∃ (C : String) (T : u_T) (N : Nat), q_ok ci C T N ∧ k < N ∧ (T k).1 = C ∧ (Cond.fieldLink own idx C (T k).2.1 (T k).2.2.1 ∈ lw_tbl ∨ ∃ host, Cond.fieldLinkNest own idx C (T k).2.1 (T k).2.2.1 host ∈ lw_tbl)
/-- the same, and not final -/
def q_FW (own : String) (idx ci k : Nat) : Prop := ∃ (C : String) (T : u_T) (N : Nat), q_ok ci C T N ∧ k < N ∧ (T k).1 = C ∧ (T k).2.2.2 = false ∧ (Cond.fieldLink own idx C (T k).2.1 (T k).2.2.1 ∈ lw_tbl ∨ ∃ host, Cond.fieldLinkNest own idx C (T k).2.1 (T k).2.2.1 host ∈ lw_tbl)
def q_FF (own : String) (idx ci k : Nat) : Prop := ∃ (C : String) (T : u_T) (N : Nat), q_ok ci C T N ∧ k < N ∧ (T k).1 = C ∧ C = own ∧ (T k).2.2.2 = true ∧ Cond.fieldLink own idx C (T k).2.1 (T k).2.2.1 ∈ lw_tbl
def q_CV (own : String) (idx ci : Nat) (y : MethodName) (cc : ByteArray) (maxL : Nat) (ret : Option FieldType) (n : Nat) : Prop := (∃ (T : u_T) (N : Nat), q_ok ci y.cls T N) ∧ (Cond.methodLink own idx y ∈ lw_tbl ∨ ∃ host, Cond.methodLinkNest own idx y host ∈ lw_tbl) ∧ Cond.instanceMethod y ∈ lw_tbl ∧ Cond.selects y.cls y y ∈ lw_tbl ∧ Cond.code y cc maxL ret ∈ lw_tbl ∧ Cond.initialized y.cls ∈ lw_tbl ∧ (y.cls ≠ "java/lang/invoke/MethodHandle" ∧ y.cls ≠ "java/lang/invoke/VarHandle" ∧ (parseMethodDescriptor y.desc).map (fun d => d.parameters.length) = some n)
def q_CS (own : String) (idx : Nat) (y : MethodName) (cc : ByteArray) (maxL : Nat) (ret : Option FieldType) (n : Nat) : Prop := (Cond.methodLink own idx y ∈ lw_tbl ∨ ∃ host, Cond.methodLinkNest own idx y host ∈ lw_tbl) ∧ Cond.static y ∈ lw_tbl ∧ Cond.code y cc maxL ret ∈ lw_tbl ∧ Cond.initialized y.cls ∈ lw_tbl ∧ (y.cls ≠ "java/lang/invoke/MethodHandle" ∧ y.cls ≠ "java/lang/invoke/VarHandle" ∧ (parseMethodDescriptor y.desc).map (fun d => d.parameters.length) = some n)
def q_CI (own : String) (idx : Nat) (y : MethodName) (cc : ByteArray) (maxL : Nat) (n : Nat) : Prop := (Cond.methodLink own idx y ∈ lw_tbl ∨ ∃ host, Cond.methodLinkNest own idx y host ∈ lw_tbl) ∧ y.name = "<init>" ∧ Cond.instanceMethod y ∈ lw_tbl ∧ Cond.code y cc maxL none ∈ lw_tbl ∧ Cond.initialized y.cls ∈ lw_tbl ∧ (y.cls ≠ "java/lang/invoke/MethodHandle" ∧ y.cls ≠ "java/lang/invoke/VarHandle" ∧ (parseMethodDescriptor y.desc).map (fun d => d.parameters.length) = some n)
end
section
set_option maxRecDepth 100000 in
theorem it_L : Cond.initialized RL ∈ lw_tbl := List.mem_of_getElem? (i := 69) (by decide +kernel)
set_option maxRecDepth 100000 in
theorem it_X7 : Cond.initialized RX7 ∈ lw_tbl := List.mem_of_getElem? (i := 70) (by decide +kernel)
set_option maxRecDepth 100000 in
theorem it_X2 : Cond.initialized RX2 ∈ lw_tbl := List.mem_of_getElem? (i := 71) (by decide +kernel)
set_option maxRecDepth 100000 in
theorem it_X3 : Cond.initialized RX3 ∈ lw_tbl := List.mem_of_getElem? (i := 72) (by decide +kernel)
set_option maxRecDepth 100000 in
theorem it_X5 : Cond.initialized RX5 ∈ lw_tbl := List.mem_of_getElem? (i := 73) (by decide +kernel)
set_option maxRecDepth 100000 in
theorem it_X1 : Cond.initialized RX1 ∈ lw_tbl := List.mem_of_getElem? (i := 74) (by decide +kernel)
set_option maxRecDepth 100000 in
theorem it_X8 : Cond.initialized RX8 ∈ lw_tbl := List.mem_of_getElem? (i := 75) (by decide +kernel)
set_option maxRecDepth 100000 in
theorem it_X0 : Cond.initialized RX0 ∈ lw_tbl := List.mem_of_getElem? (i := 76) (by decide +kernel)
set_option maxRecDepth 100000 in
theorem it_J6 : Cond.initialized RJ6 ∈ lw_tbl := List.mem_of_getElem? (i := 77) (by decide +kernel)
set_option maxRecDepth 100000 in
theorem it_J9 : Cond.initialized RJ9 ∈ lw_tbl := List.mem_of_getElem? (i := 78) (by decide +kernel)
set_option maxRecDepth 100000 in
theorem it_X4 : Cond.initialized RX4 ∈ lw_tbl := List.mem_of_getElem? (i := 79) (by decide +kernel)
set_option maxRecDepth 100000 in
theorem it_J7 : Cond.initialized RJ7 ∈ lw_tbl := List.mem_of_getElem? (i := 80) (by decide +kernel)
set_option maxRecDepth 100000 in
theorem it_X6 : Cond.initialized RX6 ∈ lw_tbl := List.mem_of_getElem? (i := 81) (by decide +kernel)
set_option maxRecDepth 100000 in
theorem it_J10 : Cond.initialized RJ10 ∈ lw_tbl := List.mem_of_getElem? (i := 82) (by decide +kernel)
set_option maxRecDepth 100000 in
theorem kl_L_7 : Cond.classLink RL 7 RX7 ∈ lw_tbl := List.mem_of_getElem? (i := 83) (by decide +kernel)
set_option maxRecDepth 100000 in
theorem in_X7 : Cond.instantiable RX7 11 ∈ lw_tbl := List.mem_of_getElem? (i := 84) (by decide +kernel)
set_option maxRecDepth 100000 in
theorem cw_L_9 : q_CI RL 9 yX7_init cX7_init 1 0 := ⟨Or.inl (List.mem_of_getElem? (i := 85) (by decide +kernel)), rfl, List.mem_of_getElem? (i := 86) (by decide +kernel), List.mem_of_getElem? (i := 87) (by decide +kernel), List.mem_of_getElem? (i := 70) (by decide +kernel), ⟨by decide +kernel, by decide +kernel, by decide +kernel⟩⟩
set_option maxRecDepth 100000 in
theorem wl_X7_3 : Cond.methodLink RX7 3 objectInit ∈ lw_tbl := List.mem_of_getElem? (i := 88) (by decide +kernel)
set_option maxRecDepth 100000 in
theorem kl_X7_9 : Cond.classLink RX7 9 RX2 ∈ lw_tbl := List.mem_of_getElem? (i := 91) (by decide +kernel)
set_option maxRecDepth 100000 in
theorem in_X2 : Cond.instantiable RX2 8 ∈ lw_tbl := List.mem_of_getElem? (i := 92) (by decide +kernel)
set_option maxRecDepth 100000 in
theorem cw_X7_11 : q_CI RX7 11 yX2_init cX2_init 1 0 := ⟨Or.inr ⟨"HopBeams", List.mem_of_getElem? (i := 93) (by decide +kernel)⟩, rfl, List.mem_of_getElem? (i := 94) (by decide +kernel), List.mem_of_getElem? (i := 95) (by decide +kernel), List.mem_of_getElem? (i := 71) (by decide +kernel), ⟨by decide +kernel, by decide +kernel, by decide +kernel⟩⟩
set_option maxRecDepth 100000 in
theorem wl_X2_3 : Cond.methodLink RX2 3 objectInit ∈ lw_tbl := List.mem_of_getElem? (i := 96) (by decide +kernel)
set_option maxRecDepth 100000 in
theorem kl_X2_9 : Cond.classLink RX2 9 RX0 ∈ lw_tbl := List.mem_of_getElem? (i := 97) (by decide +kernel)
set_option maxRecDepth 100000 in
theorem ar_arrayOver_objectHopBeamsCell : Cond.arrayOver (.object "HopBeams$Cell") ∈ lw_tbl := List.mem_of_getElem? (i := 98) (by decide +kernel)
set_option maxRecDepth 100000 in
theorem fl_X2_11 : q_FL RX2 11 2 0 := ⟨RX2, TX2, 8, q_ok2, by decide, rfl, Or.inl (List.mem_of_getElem? (i := 99) (by decide +kernel))⟩
set_option maxRecDepth 100000 in
theorem ff_X2_11 : q_FF RX2 11 2 0 := ⟨RX2, TX2, 8, q_ok2, by decide, rfl, rfl, rfl, List.mem_of_getElem? (i := 99) (by decide +kernel)⟩
set_option maxRecDepth 100000 in
theorem fl_X7_78 : q_FL RX7 78 2 0 := ⟨RX2, TX2, 8, q_ok2, by decide, rfl, Or.inr ⟨"HopBeams", List.mem_of_getElem? (i := 100) (by decide +kernel)⟩⟩
set_option maxRecDepth 100000 in
theorem fl_X2_38 : q_FL RX2 38 2 1 := ⟨RX2, TX2, 8, q_ok2, by decide, rfl, Or.inl (List.mem_of_getElem? (i := 101) (by decide +kernel))⟩
theorem fw_X2_38 : q_FW RX2 38 2 1 := ⟨RX2, TX2, 8, q_ok2, by decide, rfl, rfl, (by obtain ⟨C, T, N, o1, o2, o3, o4⟩ := fl_X2_38; have e := Option.some.inj (o1.1.symm.trans q_ok2.1); cases e; exact o4)⟩
set_option maxRecDepth 100000 in
theorem fl_X7_75 : q_FL RX7 75 2 1 := ⟨RX2, TX2, 8, q_ok2, by decide, rfl, Or.inr ⟨"HopBeams", List.mem_of_getElem? (i := 102) (by decide +kernel)⟩⟩
theorem fw_X7_75 : q_FW RX7 75 2 1 := ⟨RX2, TX2, 8, q_ok2, by decide, rfl, rfl, (by obtain ⟨C, T, N, o1, o2, o3, o4⟩ := fl_X7_75; have e := Option.some.inj (o1.1.symm.trans q_ok2.1); cases e; exact o4)⟩
set_option maxRecDepth 100000 in
theorem fl_X2_17 : q_FL RX2 17 2 2 := ⟨RX2, TX2, 8, q_ok2, by decide, rfl, Or.inl (List.mem_of_getElem? (i := 103) (by decide +kernel))⟩
set_option maxRecDepth 100000 in
theorem ff_X2_17 : q_FF RX2 17 2 2 := ⟨RX2, TX2, 8, q_ok2, by decide, rfl, rfl, rfl, List.mem_of_getElem? (i := 103) (by decide +kernel)⟩
set_option maxRecDepth 100000 in
theorem fl_X7_104 : q_FL RX7 104 2 2 := ⟨RX2, TX2, 8, q_ok2, by decide, rfl, Or.inr ⟨"HopBeams", List.mem_of_getElem? (i := 104) (by decide +kernel)⟩⟩
set_option maxRecDepth 100000 in
theorem fl_X2_21 : q_FL RX2 21 2 3 := ⟨RX2, TX2, 8, q_ok2, by decide, rfl, Or.inl (List.mem_of_getElem? (i := 105) (by decide +kernel))⟩
set_option maxRecDepth 100000 in
theorem ff_X2_21 : q_FF RX2 21 2 3 := ⟨RX2, TX2, 8, q_ok2, by decide, rfl, rfl, rfl, List.mem_of_getElem? (i := 105) (by decide +kernel)⟩
set_option maxRecDepth 100000 in
theorem fl_X7_107 : q_FL RX7 107 2 3 := ⟨RX2, TX2, 8, q_ok2, by decide, rfl, Or.inr ⟨"HopBeams", List.mem_of_getElem? (i := 106) (by decide +kernel)⟩⟩
set_option maxRecDepth 100000 in
theorem fl_X2_25 : q_FL RX2 25 2 4 := ⟨RX2, TX2, 8, q_ok2, by decide, rfl, Or.inl (List.mem_of_getElem? (i := 107) (by decide +kernel))⟩
theorem fw_X2_25 : q_FW RX2 25 2 4 := ⟨RX2, TX2, 8, q_ok2, by decide, rfl, rfl, (by obtain ⟨C, T, N, o1, o2, o3, o4⟩ := fl_X2_25; have e := Option.some.inj (o1.1.symm.trans q_ok2.1); cases e; exact o4)⟩
set_option maxRecDepth 100000 in
theorem fl_X7_57 : q_FL RX7 57 2 4 := ⟨RX2, TX2, 8, q_ok2, by decide, rfl, Or.inr ⟨"HopBeams", List.mem_of_getElem? (i := 108) (by decide +kernel)⟩⟩
theorem fw_X7_57 : q_FW RX7 57 2 4 := ⟨RX2, TX2, 8, q_ok2, by decide, rfl, rfl, (by obtain ⟨C, T, N, o1, o2, o3, o4⟩ := fl_X7_57; have e := Option.some.inj (o1.1.symm.trans q_ok2.1); cases e; exact o4)⟩
set_option maxRecDepth 100000 in
theorem fl_X2_29 : q_FL RX2 29 2 5 := ⟨RX2, TX2, 8, q_ok2, by decide, rfl, Or.inl (List.mem_of_getElem? (i := 109) (by decide +kernel))⟩
theorem fw_X2_29 : q_FW RX2 29 2 5 := ⟨RX2, TX2, 8, q_ok2, by decide, rfl, rfl, (by obtain ⟨C, T, N, o1, o2, o3, o4⟩ := fl_X2_29; have e := Option.some.inj (o1.1.symm.trans q_ok2.1); cases e; exact o4)⟩
set_option maxRecDepth 100000 in
theorem fl_X7_60 : q_FL RX7 60 2 5 := ⟨RX2, TX2, 8, q_ok2, by decide, rfl, Or.inr ⟨"HopBeams", List.mem_of_getElem? (i := 110) (by decide +kernel)⟩⟩
theorem fw_X7_60 : q_FW RX7 60 2 5 := ⟨RX2, TX2, 8, q_ok2, by decide, rfl, rfl, (by obtain ⟨C, T, N, o1, o2, o3, o4⟩ := fl_X7_60; have e := Option.some.inj (o1.1.symm.trans q_ok2.1); cases e; exact o4)⟩
set_option maxRecDepth 100000 in
theorem fl_X2_32 : q_FL RX2 32 2 6 := ⟨RX2, TX2, 8, q_ok2, by decide, rfl, Or.inl (List.mem_of_getElem? (i := 111) (by decide +kernel))⟩
theorem fw_X2_32 : q_FW RX2 32 2 6 := ⟨RX2, TX2, 8, q_ok2, by decide, rfl, rfl, (by obtain ⟨C, T, N, o1, o2, o3, o4⟩ := fl_X2_32; have e := Option.some.inj (o1.1.symm.trans q_ok2.1); cases e; exact o4)⟩
set_option maxRecDepth 100000 in
theorem fl_X7_63 : q_FL RX7 63 2 6 := ⟨RX2, TX2, 8, q_ok2, by decide, rfl, Or.inr ⟨"HopBeams", List.mem_of_getElem? (i := 112) (by decide +kernel)⟩⟩
theorem fw_X7_63 : q_FW RX7 63 2 6 := ⟨RX2, TX2, 8, q_ok2, by decide, rfl, rfl, (by obtain ⟨C, T, N, o1, o2, o3, o4⟩ := fl_X7_63; have e := Option.some.inj (o1.1.symm.trans q_ok2.1); cases e; exact o4)⟩
set_option maxRecDepth 100000 in
theorem fl_X2_35 : q_FL RX2 35 2 7 := ⟨RX2, TX2, 8, q_ok2, by decide, rfl, Or.inl (List.mem_of_getElem? (i := 113) (by decide +kernel))⟩
theorem fw_X2_35 : q_FW RX2 35 2 7 := ⟨RX2, TX2, 8, q_ok2, by decide, rfl, rfl, (by obtain ⟨C, T, N, o1, o2, o3, o4⟩ := fl_X2_35; have e := Option.some.inj (o1.1.symm.trans q_ok2.1); cases e; exact o4)⟩
set_option maxRecDepth 100000 in
theorem fl_X7_66 : q_FL RX7 66 2 7 := ⟨RX2, TX2, 8, q_ok2, by decide, rfl, Or.inr ⟨"HopBeams", List.mem_of_getElem? (i := 114) (by decide +kernel)⟩⟩
theorem fw_X7_66 : q_FW RX7 66 2 7 := ⟨RX2, TX2, 8, q_ok2, by decide, rfl, rfl, (by obtain ⟨C, T, N, o1, o2, o3, o4⟩ := fl_X7_66; have e := Option.some.inj (o1.1.symm.trans q_ok2.1); cases e; exact o4)⟩
set_option maxRecDepth 100000 in
theorem ar_arrayClass_int : Cond.arrayClass .int ∈ lw_tbl := List.mem_of_getElem? (i := 132) (by decide +kernel)
set_option maxRecDepth 100000 in
theorem ar_arrayClass_boolean : Cond.arrayClass .boolean ∈ lw_tbl := List.mem_of_getElem? (i := 133) (by decide +kernel)
set_option maxRecDepth 100000 in
theorem kl_X7_16 : Cond.classLink RX7 16 RX3 ∈ lw_tbl := List.mem_of_getElem? (i := 134) (by decide +kernel)
set_option maxRecDepth 100000 in
theorem in_X3 : Cond.instantiable RX3 4 ∈ lw_tbl := List.mem_of_getElem? (i := 135) (by decide +kernel)
set_option maxRecDepth 100000 in
theorem cw_X7_18 : q_CI RX7 18 yX3_init cX3_init 1 0 := ⟨Or.inr ⟨"HopBeams", List.mem_of_getElem? (i := 136) (by decide +kernel)⟩, rfl, List.mem_of_getElem? (i := 137) (by decide +kernel), List.mem_of_getElem? (i := 138) (by decide +kernel), List.mem_of_getElem? (i := 72) (by decide +kernel), ⟨by decide +kernel, by decide +kernel, by decide +kernel⟩⟩
set_option maxRecDepth 100000 in
theorem wl_X3_3 : Cond.methodLink RX3 3 objectInit ∈ lw_tbl := List.mem_of_getElem? (i := 139) (by decide +kernel)
set_option maxRecDepth 100000 in
theorem fl_X3_9 : q_FL RX3 9 3 0 := ⟨RX3, TX3, 4, q_ok3, by decide, rfl, Or.inl (List.mem_of_getElem? (i := 140) (by decide +kernel))⟩
set_option maxRecDepth 100000 in
theorem ff_X3_9 : q_FF RX3 9 3 0 := ⟨RX3, TX3, 4, q_ok3, by decide, rfl, rfl, rfl, List.mem_of_getElem? (i := 140) (by decide +kernel)⟩
set_option maxRecDepth 100000 in
theorem fl_X3_15 : q_FL RX3 15 3 1 := ⟨RX3, TX3, 4, q_ok3, by decide, rfl, Or.inl (List.mem_of_getElem? (i := 141) (by decide +kernel))⟩
set_option maxRecDepth 100000 in
theorem ff_X3_15 : q_FF RX3 15 3 1 := ⟨RX3, TX3, 4, q_ok3, by decide, rfl, rfl, rfl, List.mem_of_getElem? (i := 141) (by decide +kernel)⟩
set_option maxRecDepth 100000 in
theorem fl_X4_57 : q_FL RX4 57 3 1 := ⟨RX3, TX3, 4, q_ok3, by decide, rfl, Or.inr ⟨"HopBeams", List.mem_of_getElem? (i := 142) (by decide +kernel)⟩⟩
set_option maxRecDepth 100000 in
theorem fl_X3_22 : q_FL RX3 22 3 2 := ⟨RX3, TX3, 4, q_ok3, by decide, rfl, Or.inl (List.mem_of_getElem? (i := 143) (by decide +kernel))⟩
theorem fw_X3_22 : q_FW RX3 22 3 2 := ⟨RX3, TX3, 4, q_ok3, by decide, rfl, rfl, (by obtain ⟨C, T, N, o1, o2, o3, o4⟩ := fl_X3_22; have e := Option.some.inj (o1.1.symm.trans q_ok3.1); cases e; exact o4)⟩
set_option maxRecDepth 100000 in
theorem fl_X4_74 : q_FL RX4 74 3 2 := ⟨RX3, TX3, 4, q_ok3, by decide, rfl, Or.inr ⟨"HopBeams", List.mem_of_getElem? (i := 144) (by decide +kernel)⟩⟩
theorem fw_X4_74 : q_FW RX4 74 3 2 := ⟨RX3, TX3, 4, q_ok3, by decide, rfl, rfl, (by obtain ⟨C, T, N, o1, o2, o3, o4⟩ := fl_X4_74; have e := Option.some.inj (o1.1.symm.trans q_ok3.1); cases e; exact o4)⟩
set_option maxRecDepth 100000 in
theorem fl_X7_142 : q_FL RX7 142 3 2 := ⟨RX3, TX3, 4, q_ok3, by decide, rfl, Or.inr ⟨"HopBeams", List.mem_of_getElem? (i := 145) (by decide +kernel)⟩⟩
theorem fw_X7_142 : q_FW RX7 142 3 2 := ⟨RX3, TX3, 4, q_ok3, by decide, rfl, rfl, (by obtain ⟨C, T, N, o1, o2, o3, o4⟩ := fl_X7_142; have e := Option.some.inj (o1.1.symm.trans q_ok3.1); cases e; exact o4)⟩
set_option maxRecDepth 100000 in
theorem fl_X3_19 : q_FL RX3 19 3 3 := ⟨RX3, TX3, 4, q_ok3, by decide, rfl, Or.inl (List.mem_of_getElem? (i := 146) (by decide +kernel))⟩
set_option maxRecDepth 100000 in
theorem ff_X3_19 : q_FF RX3 19 3 3 := ⟨RX3, TX3, 4, q_ok3, by decide, rfl, rfl, rfl, List.mem_of_getElem? (i := 146) (by decide +kernel)⟩
set_option maxRecDepth 100000 in
theorem fl_X7_192 : q_FL RX7 192 3 3 := ⟨RX3, TX3, 4, q_ok3, by decide, rfl, Or.inr ⟨"HopBeams", List.mem_of_getElem? (i := 147) (by decide +kernel)⟩⟩
set_option maxRecDepth 100000 in
theorem kl_X7_23 : Cond.classLink RX7 23 RX5 ∈ lw_tbl := List.mem_of_getElem? (i := 157) (by decide +kernel)
set_option maxRecDepth 100000 in
theorem in_X5 : Cond.instantiable RX5 3 ∈ lw_tbl := List.mem_of_getElem? (i := 158) (by decide +kernel)
set_option maxRecDepth 100000 in
theorem cw_X7_25 : q_CI RX7 25 yX5_init cX5_init 1 0 := ⟨Or.inr ⟨"HopBeams", List.mem_of_getElem? (i := 159) (by decide +kernel)⟩, rfl, List.mem_of_getElem? (i := 160) (by decide +kernel), List.mem_of_getElem? (i := 161) (by decide +kernel), List.mem_of_getElem? (i := 73) (by decide +kernel), ⟨by decide +kernel, by decide +kernel, by decide +kernel⟩⟩
set_option maxRecDepth 100000 in
theorem wl_X5_3 : Cond.methodLink RX5 3 objectInit ∈ lw_tbl := List.mem_of_getElem? (i := 162) (by decide +kernel)
set_option maxRecDepth 100000 in
theorem kl_X5_11 : Cond.classLink RX5 11 "[[J" ∈ lw_tbl := List.mem_of_getElem? (i := 163) (by decide +kernel)
set_option maxRecDepth 100000 in
theorem ar_arrayOver_arraylong : Cond.arrayOver (.array .long) ∈ lw_tbl := List.mem_of_getElem? (i := 164) (by decide +kernel)
set_option maxRecDepth 100000 in
theorem fl_X5_13 : q_FL RX5 13 5 0 := ⟨RX5, TX5, 3, q_ok5, by decide, rfl, Or.inl (List.mem_of_getElem? (i := 165) (by decide +kernel))⟩
set_option maxRecDepth 100000 in
theorem ff_X5_13 : q_FF RX5 13 5 0 := ⟨RX5, TX5, 3, q_ok5, by decide, rfl, rfl, rfl, List.mem_of_getElem? (i := 165) (by decide +kernel)⟩
set_option maxRecDepth 100000 in
theorem fl_X5_16 : q_FL RX5 16 5 1 := ⟨RX5, TX5, 3, q_ok5, by decide, rfl, Or.inl (List.mem_of_getElem? (i := 166) (by decide +kernel))⟩
set_option maxRecDepth 100000 in
theorem ff_X5_16 : q_FF RX5 16 5 1 := ⟨RX5, TX5, 3, q_ok5, by decide, rfl, rfl, rfl, List.mem_of_getElem? (i := 166) (by decide +kernel)⟩
set_option maxRecDepth 100000 in
theorem fl_X5_20 : q_FL RX5 20 5 2 := ⟨RX5, TX5, 3, q_ok5, by decide, rfl, Or.inl (List.mem_of_getElem? (i := 167) (by decide +kernel))⟩
set_option maxRecDepth 100000 in
theorem ff_X5_20 : q_FF RX5 20 5 2 := ⟨RX5, TX5, 3, q_ok5, by decide, rfl, rfl, rfl, List.mem_of_getElem? (i := 167) (by decide +kernel)⟩
set_option maxRecDepth 100000 in
theorem ar_arrayClass_long : Cond.arrayClass .long ∈ lw_tbl := List.mem_of_getElem? (i := 175) (by decide +kernel)
set_option maxRecDepth 100000 in
theorem kl_X7_30 : Cond.classLink RX7 30 RX1 ∈ lw_tbl := List.mem_of_getElem? (i := 176) (by decide +kernel)
set_option maxRecDepth 100000 in
theorem in_X1 : Cond.instantiable RX1 2 ∈ lw_tbl := List.mem_of_getElem? (i := 177) (by decide +kernel)
set_option maxRecDepth 100000 in
theorem cw_X7_32 : q_CI RX7 32 yX1_init cX1_init 1 0 := ⟨Or.inr ⟨"HopBeams", List.mem_of_getElem? (i := 178) (by decide +kernel)⟩, rfl, List.mem_of_getElem? (i := 179) (by decide +kernel), List.mem_of_getElem? (i := 180) (by decide +kernel), List.mem_of_getElem? (i := 74) (by decide +kernel), ⟨by decide +kernel, by decide +kernel, by decide +kernel⟩⟩
set_option maxRecDepth 100000 in
theorem wl_X1_3 : Cond.methodLink RX1 3 objectInit ∈ lw_tbl := List.mem_of_getElem? (i := 181) (by decide +kernel)
set_option maxRecDepth 100000 in
theorem fl_X1_9 : q_FL RX1 9 1 0 := ⟨RX1, TX1, 2, q_ok1, by decide, rfl, Or.inl (List.mem_of_getElem? (i := 182) (by decide +kernel))⟩
set_option maxRecDepth 100000 in
theorem ff_X1_9 : q_FF RX1 9 1 0 := ⟨RX1, TX1, 2, q_ok1, by decide, rfl, rfl, rfl, List.mem_of_getElem? (i := 182) (by decide +kernel)⟩
set_option maxRecDepth 100000 in
theorem fl_X4_91 : q_FL RX4 91 1 0 := ⟨RX1, TX1, 2, q_ok1, by decide, rfl, Or.inr ⟨"HopBeams", List.mem_of_getElem? (i := 183) (by decide +kernel)⟩⟩
set_option maxRecDepth 100000 in
theorem fl_X7_174 : q_FL RX7 174 1 0 := ⟨RX1, TX1, 2, q_ok1, by decide, rfl, Or.inr ⟨"HopBeams", List.mem_of_getElem? (i := 184) (by decide +kernel)⟩⟩
set_option maxRecDepth 100000 in
theorem fl_X1_15 : q_FL RX1 15 1 1 := ⟨RX1, TX1, 2, q_ok1, by decide, rfl, Or.inl (List.mem_of_getElem? (i := 185) (by decide +kernel))⟩
theorem fw_X1_15 : q_FW RX1 15 1 1 := ⟨RX1, TX1, 2, q_ok1, by decide, rfl, rfl, (by obtain ⟨C, T, N, o1, o2, o3, o4⟩ := fl_X1_15; have e := Option.some.inj (o1.1.symm.trans q_ok1.1); cases e; exact o4)⟩
set_option maxRecDepth 100000 in
theorem fl_X4_96 : q_FL RX4 96 1 1 := ⟨RX1, TX1, 2, q_ok1, by decide, rfl, Or.inr ⟨"HopBeams", List.mem_of_getElem? (i := 186) (by decide +kernel)⟩⟩
theorem fw_X4_96 : q_FW RX4 96 1 1 := ⟨RX1, TX1, 2, q_ok1, by decide, rfl, rfl, (by obtain ⟨C, T, N, o1, o2, o3, o4⟩ := fl_X4_96; have e := Option.some.inj (o1.1.symm.trans q_ok1.1); cases e; exact o4)⟩
set_option maxRecDepth 100000 in
theorem fl_X7_150 : q_FL RX7 150 1 1 := ⟨RX1, TX1, 2, q_ok1, by decide, rfl, Or.inr ⟨"HopBeams", List.mem_of_getElem? (i := 187) (by decide +kernel)⟩⟩
theorem fw_X7_150 : q_FW RX7 150 1 1 := ⟨RX1, TX1, 2, q_ok1, by decide, rfl, rfl, (by obtain ⟨C, T, N, o1, o2, o3, o4⟩ := fl_X7_150; have e := Option.some.inj (o1.1.symm.trans q_ok1.1); cases e; exact o4)⟩
set_option maxRecDepth 100000 in
theorem fl_X7_12 : q_FL RX7 12 7 0 := ⟨RX7, TX7, 11, q_ok7, by decide, rfl, Or.inl (List.mem_of_getElem? (i := 193) (by decide +kernel))⟩
set_option maxRecDepth 100000 in
theorem ff_X7_12 : q_FF RX7 12 7 0 := ⟨RX7, TX7, 11, q_ok7, by decide, rfl, rfl, rfl, List.mem_of_getElem? (i := 193) (by decide +kernel)⟩
set_option maxRecDepth 100000 in
theorem fl_X7_19 : q_FL RX7 19 7 1 := ⟨RX7, TX7, 11, q_ok7, by decide, rfl, Or.inl (List.mem_of_getElem? (i := 194) (by decide +kernel))⟩
set_option maxRecDepth 100000 in
theorem ff_X7_19 : q_FF RX7 19 7 1 := ⟨RX7, TX7, 11, q_ok7, by decide, rfl, rfl, rfl, List.mem_of_getElem? (i := 194) (by decide +kernel)⟩
set_option maxRecDepth 100000 in
theorem fl_X7_26 : q_FL RX7 26 7 2 := ⟨RX7, TX7, 11, q_ok7, by decide, rfl, Or.inl (List.mem_of_getElem? (i := 195) (by decide +kernel))⟩
set_option maxRecDepth 100000 in
theorem ff_X7_26 : q_FF RX7 26 7 2 := ⟨RX7, TX7, 11, q_ok7, by decide, rfl, rfl, rfl, List.mem_of_getElem? (i := 195) (by decide +kernel)⟩
set_option maxRecDepth 100000 in
theorem fl_X7_33 : q_FL RX7 33 7 3 := ⟨RX7, TX7, 11, q_ok7, by decide, rfl, Or.inl (List.mem_of_getElem? (i := 196) (by decide +kernel))⟩
set_option maxRecDepth 100000 in
theorem ff_X7_33 : q_FF RX7 33 7 3 := ⟨RX7, TX7, 11, q_ok7, by decide, rfl, rfl, rfl, List.mem_of_getElem? (i := 196) (by decide +kernel)⟩
set_option maxRecDepth 100000 in
theorem fl_X7_155 : q_FL RX7 155 7 4 := ⟨RX7, TX7, 11, q_ok7, by decide, rfl, Or.inl (List.mem_of_getElem? (i := 197) (by decide +kernel))⟩
theorem fw_X7_155 : q_FW RX7 155 7 4 := ⟨RX7, TX7, 11, q_ok7, by decide, rfl, rfl, (by obtain ⟨C, T, N, o1, o2, o3, o4⟩ := fl_X7_155; have e := Option.some.inj (o1.1.symm.trans q_ok7.1); cases e; exact o4)⟩
set_option maxRecDepth 100000 in
theorem fl_X7_203 : q_FL RX7 203 7 5 := ⟨RX7, TX7, 11, q_ok7, by decide, rfl, Or.inl (List.mem_of_getElem? (i := 198) (by decide +kernel))⟩
theorem fw_X7_203 : q_FW RX7 203 7 5 := ⟨RX7, TX7, 11, q_ok7, by decide, rfl, rfl, (by obtain ⟨C, T, N, o1, o2, o3, o4⟩ := fl_X7_203; have e := Option.some.inj (o1.1.symm.trans q_ok7.1); cases e; exact o4)⟩
set_option maxRecDepth 100000 in
theorem fl_X7_37 : q_FL RX7 37 7 6 := ⟨RX7, TX7, 11, q_ok7, by decide, rfl, Or.inl (List.mem_of_getElem? (i := 199) (by decide +kernel))⟩
set_option maxRecDepth 100000 in
theorem ff_X7_37 : q_FF RX7 37 7 6 := ⟨RX7, TX7, 11, q_ok7, by decide, rfl, rfl, rfl, List.mem_of_getElem? (i := 199) (by decide +kernel)⟩
set_option maxRecDepth 100000 in
theorem fl_X7_220 : q_FL RX7 220 7 7 := ⟨RX7, TX7, 11, q_ok7, by decide, rfl, Or.inl (List.mem_of_getElem? (i := 200) (by decide +kernel))⟩
theorem fw_X7_220 : q_FW RX7 220 7 7 := ⟨RX7, TX7, 11, q_ok7, by decide, rfl, rfl, (by obtain ⟨C, T, N, o1, o2, o3, o4⟩ := fl_X7_220; have e := Option.some.inj (o1.1.symm.trans q_ok7.1); cases e; exact o4)⟩
set_option maxRecDepth 100000 in
theorem fl_X7_225 : q_FL RX7 225 7 8 := ⟨RX7, TX7, 11, q_ok7, by decide, rfl, Or.inl (List.mem_of_getElem? (i := 201) (by decide +kernel))⟩
theorem fw_X7_225 : q_FW RX7 225 7 8 := ⟨RX7, TX7, 11, q_ok7, by decide, rfl, rfl, (by obtain ⟨C, T, N, o1, o2, o3, o4⟩ := fl_X7_225; have e := Option.some.inj (o1.1.symm.trans q_ok7.1); cases e; exact o4)⟩
set_option maxRecDepth 100000 in
theorem fl_X7_41 : q_FL RX7 41 7 9 := ⟨RX7, TX7, 11, q_ok7, by decide, rfl, Or.inl (List.mem_of_getElem? (i := 202) (by decide +kernel))⟩
theorem fw_X7_41 : q_FW RX7 41 7 9 := ⟨RX7, TX7, 11, q_ok7, by decide, rfl, rfl, (by obtain ⟨C, T, N, o1, o2, o3, o4⟩ := fl_X7_41; have e := Option.some.inj (o1.1.symm.trans q_ok7.1); cases e; exact o4)⟩
set_option maxRecDepth 100000 in
theorem fl_X7_143 : q_FL RX7 143 7 10 := ⟨RX7, TX7, 11, q_ok7, by decide, rfl, Or.inl (List.mem_of_getElem? (i := 203) (by decide +kernel))⟩
theorem fw_X7_143 : q_FW RX7 143 7 10 := ⟨RX7, TX7, 11, q_ok7, by decide, rfl, rfl, (by obtain ⟨C, T, N, o1, o2, o3, o4⟩ := fl_X7_143; have e := Option.some.inj (o1.1.symm.trans q_ok7.1); cases e; exact o4)⟩
set_option maxRecDepth 100000 in
theorem cw_L_13 : q_CV RL 13 7 yX7_terms cX7_terms 6 (some .int) 4 := ⟨⟨TX7, 11, q_ok7⟩, Or.inl (List.mem_of_getElem? (i := 227) (by decide +kernel)), List.mem_of_getElem? (i := 228) (by decide +kernel), List.mem_of_getElem? (i := 229) (by decide +kernel), List.mem_of_getElem? (i := 230) (by decide +kernel), List.mem_of_getElem? (i := 70) (by decide +kernel), ⟨by decide +kernel, by decide +kernel, by decide +kernel⟩⟩
set_option maxRecDepth 100000 in
theorem kw_X7_45 : Cond.constantLong RX7 45 (4) ∈ lw_tbl := List.mem_of_getElem? (i := 231) (by decide +kernel)
set_option maxRecDepth 100000 in
theorem cw_X7_47 : q_CS RX7 47 yX7_isWithin cX7_isWithin 6 (some .boolean) 3 := ⟨Or.inl (List.mem_of_getElem? (i := 232) (by decide +kernel)), List.mem_of_getElem? (i := 233) (by decide +kernel), List.mem_of_getElem? (i := 234) (by decide +kernel), List.mem_of_getElem? (i := 70) (by decide +kernel), ⟨by decide +kernel, by decide +kernel, by decide +kernel⟩⟩
set_option maxRecDepth 100000 in
theorem kw_X7_51 : Cond.constantLong RX7 51 (1000) ∈ lw_tbl := List.mem_of_getElem? (i := 235) (by decide +kernel)
set_option maxRecDepth 100000 in
theorem kw_X7_53 : Cond.constantLong RX7 53 (20) ∈ lw_tbl := List.mem_of_getElem? (i := 236) (by decide +kernel)
set_option maxRecDepth 100000 in
theorem kw_X7_55 : Cond.constantLong RX7 55 (9) ∈ lw_tbl := List.mem_of_getElem? (i := 237) (by decide +kernel)
set_option maxRecDepth 100000 in
theorem cw_L_18 : q_CV RL 18 7 yX7_cell cX7_cell 6 (some .int) 4 := ⟨⟨TX7, 11, q_ok7⟩, Or.inl (List.mem_of_getElem? (i := 238) (by decide +kernel)), List.mem_of_getElem? (i := 239) (by decide +kernel), List.mem_of_getElem? (i := 240) (by decide +kernel), List.mem_of_getElem? (i := 241) (by decide +kernel), List.mem_of_getElem? (i := 70) (by decide +kernel), ⟨by decide +kernel, by decide +kernel, by decide +kernel⟩⟩
set_option maxRecDepth 100000 in
theorem kw_X7_69 : Cond.constantLong RX7 69 (100) ∈ lw_tbl := List.mem_of_getElem? (i := 242) (by decide +kernel)
set_option maxRecDepth 100000 in
theorem cw_X7_71 : q_CS RX7 71 yX7_isGateway cX7_isGateway 1 (some .boolean) 1 := ⟨Or.inl (List.mem_of_getElem? (i := 243) (by decide +kernel)), List.mem_of_getElem? (i := 244) (by decide +kernel), List.mem_of_getElem? (i := 245) (by decide +kernel), List.mem_of_getElem? (i := 70) (by decide +kernel), ⟨by decide +kernel, by decide +kernel, by decide +kernel⟩⟩
set_option maxRecDepth 100000 in
theorem kw_X7_97 : Cond.constantLong RX7 97 (2) ∈ lw_tbl := List.mem_of_getElem? (i := 246) (by decide +kernel)
set_option maxRecDepth 100000 in
theorem kl_X7_82 : Cond.classLink RX7 82 RX0 ∈ lw_tbl := List.mem_of_getElem? (i := 247) (by decide +kernel)
set_option maxRecDepth 100000 in
theorem in_X0 : Cond.instantiable RX0 16 ∈ lw_tbl := List.mem_of_getElem? (i := 248) (by decide +kernel)
set_option maxRecDepth 100000 in
theorem cw_X7_84 : q_CI RX7 84 yX0_init cX0_init 5 4 := ⟨Or.inr ⟨"HopBeams", List.mem_of_getElem? (i := 249) (by decide +kernel)⟩, rfl, List.mem_of_getElem? (i := 250) (by decide +kernel), List.mem_of_getElem? (i := 251) (by decide +kernel), List.mem_of_getElem? (i := 76) (by decide +kernel), ⟨by decide +kernel, by decide +kernel, by decide +kernel⟩⟩
set_option maxRecDepth 100000 in
theorem wl_X0_3 : Cond.methodLink RX0 3 objectInit ∈ lw_tbl := List.mem_of_getElem? (i := 252) (by decide +kernel)
set_option maxRecDepth 100000 in
theorem fl_X0_15 : q_FL RX0 15 0 0 := ⟨RX0, TX0, 16, q_ok0, by decide, rfl, Or.inl (List.mem_of_getElem? (i := 253) (by decide +kernel))⟩
set_option maxRecDepth 100000 in
theorem ff_X0_15 : q_FF RX0 15 0 0 := ⟨RX0, TX0, 16, q_ok0, by decide, rfl, rfl, rfl, List.mem_of_getElem? (i := 253) (by decide +kernel)⟩
set_option maxRecDepth 100000 in
theorem fl_X0_19 : q_FL RX0 19 0 1 := ⟨RX0, TX0, 16, q_ok0, by decide, rfl, Or.inl (List.mem_of_getElem? (i := 254) (by decide +kernel))⟩
set_option maxRecDepth 100000 in
theorem ff_X0_19 : q_FF RX0 19 0 1 := ⟨RX0, TX0, 16, q_ok0, by decide, rfl, rfl, rfl, List.mem_of_getElem? (i := 254) (by decide +kernel)⟩
set_option maxRecDepth 100000 in
theorem fl_X0_22 : q_FL RX0 22 0 2 := ⟨RX0, TX0, 16, q_ok0, by decide, rfl, Or.inl (List.mem_of_getElem? (i := 255) (by decide +kernel))⟩
set_option maxRecDepth 100000 in
theorem ff_X0_22 : q_FF RX0 22 0 2 := ⟨RX0, TX0, 16, q_ok0, by decide, rfl, rfl, rfl, List.mem_of_getElem? (i := 255) (by decide +kernel)⟩
set_option maxRecDepth 100000 in
theorem fl_X0_25 : q_FL RX0 25 0 3 := ⟨RX0, TX0, 16, q_ok0, by decide, rfl, Or.inl (List.mem_of_getElem? (i := 256) (by decide +kernel))⟩
theorem fw_X0_25 : q_FW RX0 25 0 3 := ⟨RX0, TX0, 16, q_ok0, by decide, rfl, rfl, (by obtain ⟨C, T, N, o1, o2, o3, o4⟩ := fl_X0_25; have e := Option.some.inj (o1.1.symm.trans q_ok0.1); cases e; exact o4)⟩
set_option maxRecDepth 100000 in
theorem fl_X2_57 : q_FL RX2 57 0 3 := ⟨RX0, TX0, 16, q_ok0, by decide, rfl, Or.inr ⟨"HopBeams", List.mem_of_getElem? (i := 257) (by decide +kernel)⟩⟩
theorem fw_X2_57 : q_FW RX2 57 0 3 := ⟨RX0, TX0, 16, q_ok0, by decide, rfl, rfl, (by obtain ⟨C, T, N, o1, o2, o3, o4⟩ := fl_X2_57; have e := Option.some.inj (o1.1.symm.trans q_ok0.1); cases e; exact o4)⟩
set_option maxRecDepth 100000 in
theorem fl_X7_111 : q_FL RX7 111 0 3 := ⟨RX0, TX0, 16, q_ok0, by decide, rfl, Or.inr ⟨"HopBeams", List.mem_of_getElem? (i := 258) (by decide +kernel)⟩⟩
theorem fw_X7_111 : q_FW RX7 111 0 3 := ⟨RX0, TX0, 16, q_ok0, by decide, rfl, rfl, (by obtain ⟨C, T, N, o1, o2, o3, o4⟩ := fl_X7_111; have e := Option.some.inj (o1.1.symm.trans q_ok0.1); cases e; exact o4)⟩
set_option maxRecDepth 100000 in
theorem fl_X0_28 : q_FL RX0 28 0 4 := ⟨RX0, TX0, 16, q_ok0, by decide, rfl, Or.inl (List.mem_of_getElem? (i := 259) (by decide +kernel))⟩
theorem fw_X0_28 : q_FW RX0 28 0 4 := ⟨RX0, TX0, 16, q_ok0, by decide, rfl, rfl, (by obtain ⟨C, T, N, o1, o2, o3, o4⟩ := fl_X0_28; have e := Option.some.inj (o1.1.symm.trans q_ok0.1); cases e; exact o4)⟩
set_option maxRecDepth 100000 in
theorem fl_X7_99 : q_FL RX7 99 0 4 := ⟨RX0, TX0, 16, q_ok0, by decide, rfl, Or.inr ⟨"HopBeams", List.mem_of_getElem? (i := 260) (by decide +kernel)⟩⟩
theorem fw_X7_99 : q_FW RX7 99 0 4 := ⟨RX0, TX0, 16, q_ok0, by decide, rfl, rfl, (by obtain ⟨C, T, N, o1, o2, o3, o4⟩ := fl_X7_99; have e := Option.some.inj (o1.1.symm.trans q_ok0.1); cases e; exact o4)⟩
set_option maxRecDepth 100000 in
theorem fl_X2_68 : q_FL RX2 68 0 5 := ⟨RX0, TX0, 16, q_ok0, by decide, rfl, Or.inr ⟨"HopBeams", List.mem_of_getElem? (i := 261) (by decide +kernel)⟩⟩
theorem fw_X2_68 : q_FW RX2 68 0 5 := ⟨RX0, TX0, 16, q_ok0, by decide, rfl, rfl, (by obtain ⟨C, T, N, o1, o2, o3, o4⟩ := fl_X2_68; have e := Option.some.inj (o1.1.symm.trans q_ok0.1); cases e; exact o4)⟩
set_option maxRecDepth 100000 in
theorem fl_X7_125 : q_FL RX7 125 0 5 := ⟨RX0, TX0, 16, q_ok0, by decide, rfl, Or.inr ⟨"HopBeams", List.mem_of_getElem? (i := 262) (by decide +kernel)⟩⟩
theorem fw_X7_125 : q_FW RX7 125 0 5 := ⟨RX0, TX0, 16, q_ok0, by decide, rfl, rfl, (by obtain ⟨C, T, N, o1, o2, o3, o4⟩ := fl_X7_125; have e := Option.some.inj (o1.1.symm.trans q_ok0.1); cases e; exact o4)⟩
set_option maxRecDepth 100000 in
theorem fl_X0_75 : q_FL RX0 75 0 5 := ⟨RX0, TX0, 16, q_ok0, by decide, rfl, Or.inl (List.mem_of_getElem? (i := 263) (by decide +kernel))⟩
theorem fw_X0_75 : q_FW RX0 75 0 5 := ⟨RX0, TX0, 16, q_ok0, by decide, rfl, rfl, (by obtain ⟨C, T, N, o1, o2, o3, o4⟩ := fl_X0_75; have e := Option.some.inj (o1.1.symm.trans q_ok0.1); cases e; exact o4)⟩
set_option maxRecDepth 100000 in
theorem fl_X0_54 : q_FL RX0 54 0 6 := ⟨RX0, TX0, 16, q_ok0, by decide, rfl, Or.inl (List.mem_of_getElem? (i := 264) (by decide +kernel))⟩
theorem fw_X0_54 : q_FW RX0 54 0 6 := ⟨RX0, TX0, 16, q_ok0, by decide, rfl, rfl, (by obtain ⟨C, T, N, o1, o2, o3, o4⟩ := fl_X0_54; have e := Option.some.inj (o1.1.symm.trans q_ok0.1); cases e; exact o4)⟩
set_option maxRecDepth 100000 in
theorem fl_X7_128 : q_FL RX7 128 0 6 := ⟨RX0, TX0, 16, q_ok0, by decide, rfl, Or.inr ⟨"HopBeams", List.mem_of_getElem? (i := 265) (by decide +kernel)⟩⟩
theorem fw_X7_128 : q_FW RX7 128 0 6 := ⟨RX0, TX0, 16, q_ok0, by decide, rfl, rfl, (by obtain ⟨C, T, N, o1, o2, o3, o4⟩ := fl_X7_128; have e := Option.some.inj (o1.1.symm.trans q_ok0.1); cases e; exact o4)⟩
set_option maxRecDepth 100000 in
theorem fl_X2_54 : q_FL RX2 54 0 7 := ⟨RX0, TX0, 16, q_ok0, by decide, rfl, Or.inr ⟨"HopBeams", List.mem_of_getElem? (i := 266) (by decide +kernel)⟩⟩
theorem fw_X2_54 : q_FW RX2 54 0 7 := ⟨RX0, TX0, 16, q_ok0, by decide, rfl, rfl, (by obtain ⟨C, T, N, o1, o2, o3, o4⟩ := fl_X2_54; have e := Option.some.inj (o1.1.symm.trans q_ok0.1); cases e; exact o4)⟩
set_option maxRecDepth 100000 in
theorem fl_X7_114 : q_FL RX7 114 0 7 := ⟨RX0, TX0, 16, q_ok0, by decide, rfl, Or.inr ⟨"HopBeams", List.mem_of_getElem? (i := 267) (by decide +kernel)⟩⟩
theorem fw_X7_114 : q_FW RX7 114 0 7 := ⟨RX0, TX0, 16, q_ok0, by decide, rfl, rfl, (by obtain ⟨C, T, N, o1, o2, o3, o4⟩ := fl_X7_114; have e := Option.some.inj (o1.1.symm.trans q_ok0.1); cases e; exact o4)⟩
set_option maxRecDepth 100000 in
theorem fl_X0_72 : q_FL RX0 72 0 7 := ⟨RX0, TX0, 16, q_ok0, by decide, rfl, Or.inl (List.mem_of_getElem? (i := 268) (by decide +kernel))⟩
theorem fw_X0_72 : q_FW RX0 72 0 7 := ⟨RX0, TX0, 16, q_ok0, by decide, rfl, rfl, (by obtain ⟨C, T, N, o1, o2, o3, o4⟩ := fl_X0_72; have e := Option.some.inj (o1.1.symm.trans q_ok0.1); cases e; exact o4)⟩
set_option maxRecDepth 100000 in
theorem fl_X7_90 : q_FL RX7 90 0 8 := ⟨RX0, TX0, 16, q_ok0, by decide, rfl, Or.inr ⟨"HopBeams", List.mem_of_getElem? (i := 269) (by decide +kernel)⟩⟩
theorem fw_X7_90 : q_FW RX7 90 0 8 := ⟨RX0, TX0, 16, q_ok0, by decide, rfl, rfl, (by obtain ⟨C, T, N, o1, o2, o3, o4⟩ := fl_X7_90; have e := Option.some.inj (o1.1.symm.trans q_ok0.1); cases e; exact o4)⟩
set_option maxRecDepth 100000 in
theorem fl_X2_51 : q_FL RX2 51 0 8 := ⟨RX0, TX0, 16, q_ok0, by decide, rfl, Or.inr ⟨"HopBeams", List.mem_of_getElem? (i := 270) (by decide +kernel)⟩⟩
theorem fw_X2_51 : q_FW RX2 51 0 8 := ⟨RX0, TX0, 16, q_ok0, by decide, rfl, rfl, (by obtain ⟨C, T, N, o1, o2, o3, o4⟩ := fl_X2_51; have e := Option.some.inj (o1.1.symm.trans q_ok0.1); cases e; exact o4)⟩
set_option maxRecDepth 100000 in
theorem fl_X0_81 : q_FL RX0 81 0 8 := ⟨RX0, TX0, 16, q_ok0, by decide, rfl, Or.inl (List.mem_of_getElem? (i := 271) (by decide +kernel))⟩
theorem fw_X0_81 : q_FW RX0 81 0 8 := ⟨RX0, TX0, 16, q_ok0, by decide, rfl, rfl, (by obtain ⟨C, T, N, o1, o2, o3, o4⟩ := fl_X0_81; have e := Option.some.inj (o1.1.symm.trans q_ok0.1); cases e; exact o4)⟩
set_option maxRecDepth 100000 in
theorem fl_X0_9 : q_FL RX0 9 0 9 := ⟨RX0, TX0, 16, q_ok0, by decide, rfl, Or.inl (List.mem_of_getElem? (i := 272) (by decide +kernel))⟩
set_option maxRecDepth 100000 in
theorem ff_X0_9 : q_FF RX0 9 0 9 := ⟨RX0, TX0, 16, q_ok0, by decide, rfl, rfl, rfl, List.mem_of_getElem? (i := 272) (by decide +kernel)⟩
set_option maxRecDepth 100000 in
theorem fl_X0_31 : q_FL RX0 31 0 10 := ⟨RX0, TX0, 16, q_ok0, by decide, rfl, Or.inl (List.mem_of_getElem? (i := 273) (by decide +kernel))⟩
theorem fw_X0_31 : q_FW RX0 31 0 10 := ⟨RX0, TX0, 16, q_ok0, by decide, rfl, rfl, (by obtain ⟨C, T, N, o1, o2, o3, o4⟩ := fl_X0_31; have e := Option.some.inj (o1.1.symm.trans q_ok0.1); cases e; exact o4)⟩
set_option maxRecDepth 100000 in
theorem fl_X0_35 : q_FL RX0 35 0 11 := ⟨RX0, TX0, 16, q_ok0, by decide, rfl, Or.inl (List.mem_of_getElem? (i := 274) (by decide +kernel))⟩
theorem fw_X0_35 : q_FW RX0 35 0 11 := ⟨RX0, TX0, 16, q_ok0, by decide, rfl, rfl, (by obtain ⟨C, T, N, o1, o2, o3, o4⟩ := fl_X0_35; have e := Option.some.inj (o1.1.symm.trans q_ok0.1); cases e; exact o4)⟩
set_option maxRecDepth 100000 in
theorem fl_X0_38 : q_FL RX0 38 0 12 := ⟨RX0, TX0, 16, q_ok0, by decide, rfl, Or.inl (List.mem_of_getElem? (i := 275) (by decide +kernel))⟩
theorem fw_X0_38 : q_FW RX0 38 0 12 := ⟨RX0, TX0, 16, q_ok0, by decide, rfl, rfl, (by obtain ⟨C, T, N, o1, o2, o3, o4⟩ := fl_X0_38; have e := Option.some.inj (o1.1.symm.trans q_ok0.1); cases e; exact o4)⟩
set_option maxRecDepth 100000 in
theorem fl_X0_57 : q_FL RX0 57 0 13 := ⟨RX0, TX0, 16, q_ok0, by decide, rfl, Or.inl (List.mem_of_getElem? (i := 276) (by decide +kernel))⟩
theorem fw_X0_57 : q_FW RX0 57 0 13 := ⟨RX0, TX0, 16, q_ok0, by decide, rfl, rfl, (by obtain ⟨C, T, N, o1, o2, o3, o4⟩ := fl_X0_57; have e := Option.some.inj (o1.1.symm.trans q_ok0.1); cases e; exact o4)⟩
set_option maxRecDepth 100000 in
theorem fl_X0_63 : q_FL RX0 63 0 14 := ⟨RX0, TX0, 16, q_ok0, by decide, rfl, Or.inl (List.mem_of_getElem? (i := 277) (by decide +kernel))⟩
theorem fw_X0_63 : q_FW RX0 63 0 14 := ⟨RX0, TX0, 16, q_ok0, by decide, rfl, rfl, (by obtain ⟨C, T, N, o1, o2, o3, o4⟩ := fl_X0_63; have e := Option.some.inj (o1.1.symm.trans q_ok0.1); cases e; exact o4)⟩
set_option maxRecDepth 100000 in
theorem fl_X0_60 : q_FL RX0 60 0 15 := ⟨RX0, TX0, 16, q_ok0, by decide, rfl, Or.inl (List.mem_of_getElem? (i := 278) (by decide +kernel))⟩
theorem fw_X0_60 : q_FW RX0 60 0 15 := ⟨RX0, TX0, 16, q_ok0, by decide, rfl, rfl, (by obtain ⟨C, T, N, o1, o2, o3, o4⟩ := fl_X0_60; have e := Option.some.inj (o1.1.symm.trans q_ok0.1); cases e; exact o4)⟩
set_option maxRecDepth 100000 in
theorem cw_L_22 : q_CV RL 22 7 yX7_forbid cX7_forbid 4 (some .boolean) 3 := ⟨⟨TX7, 11, q_ok7⟩, Or.inl (List.mem_of_getElem? (i := 312) (by decide +kernel)), List.mem_of_getElem? (i := 313) (by decide +kernel), List.mem_of_getElem? (i := 314) (by decide +kernel), List.mem_of_getElem? (i := 315) (by decide +kernel), List.mem_of_getElem? (i := 70) (by decide +kernel), ⟨by decide +kernel, by decide +kernel, by decide +kernel⟩⟩
set_option maxRecDepth 100000 in
theorem cw_X7_87 : q_CV RX7 87 2 yX2_hasCell cX2_hasCell 2 (some .boolean) 1 := ⟨⟨TX2, 8, q_ok2⟩, Or.inr ⟨"HopBeams", List.mem_of_getElem? (i := 316) (by decide +kernel)⟩, List.mem_of_getElem? (i := 318) (by decide +kernel), List.mem_of_getElem? (i := 0) (by decide +kernel), List.mem_of_getElem? (i := 319) (by decide +kernel), List.mem_of_getElem? (i := 71) (by decide +kernel), ⟨by decide +kernel, by decide +kernel, by decide +kernel⟩⟩
set_option maxRecDepth 100000 in
theorem cw_X7_93 : q_CS RX7 93 yX7_contains cX7_contains 2 (some .boolean) 2 := ⟨Or.inl (List.mem_of_getElem? (i := 320) (by decide +kernel)), List.mem_of_getElem? (i := 321) (by decide +kernel), List.mem_of_getElem? (i := 322) (by decide +kernel), List.mem_of_getElem? (i := 70) (by decide +kernel), ⟨by decide +kernel, by decide +kernel, by decide +kernel⟩⟩
set_option maxRecDepth 100000 in
theorem cw_L_27 : q_CV RL 27 7 yX7_rain cX7_rain 4 (some .int) 2 := ⟨⟨TX7, 11, q_ok7⟩, Or.inl (List.mem_of_getElem? (i := 323) (by decide +kernel)), List.mem_of_getElem? (i := 324) (by decide +kernel), List.mem_of_getElem? (i := 325) (by decide +kernel), List.mem_of_getElem? (i := 326) (by decide +kernel), List.mem_of_getElem? (i := 70) (by decide +kernel), ⟨by decide +kernel, by decide +kernel, by decide +kernel⟩⟩
set_option maxRecDepth 100000 in
theorem cw_L_32 : q_CV RL 32 7 yX7_gateway cX7_gateway 4 (some .int) 3 := ⟨⟨TX7, 11, q_ok7⟩, Or.inl (List.mem_of_getElem? (i := 327) (by decide +kernel)), List.mem_of_getElem? (i := 328) (by decide +kernel), List.mem_of_getElem? (i := 329) (by decide +kernel), List.mem_of_getElem? (i := 330) (by decide +kernel), List.mem_of_getElem? (i := 70) (by decide +kernel), ⟨by decide +kernel, by decide +kernel, by decide +kernel⟩⟩
set_option maxRecDepth 100000 in
theorem kw_X7_102 : Cond.constantLong RX7 102 (10) ∈ lw_tbl := List.mem_of_getElem? (i := 331) (by decide +kernel)
set_option maxRecDepth 100000 in
theorem cw_L_37 : q_CV RL 37 7 yX7_swap cX7_swap 3 (some .int) 2 := ⟨⟨TX7, 11, q_ok7⟩, Or.inl (List.mem_of_getElem? (i := 332) (by decide +kernel)), List.mem_of_getElem? (i := 333) (by decide +kernel), List.mem_of_getElem? (i := 334) (by decide +kernel), List.mem_of_getElem? (i := 335) (by decide +kernel), List.mem_of_getElem? (i := 70) (by decide +kernel), ⟨by decide +kernel, by decide +kernel, by decide +kernel⟩⟩
set_option maxRecDepth 100000 in
theorem cw_L_41 : q_CV RL 41 7 yX7_needs cX7_needs 6 (some .int) 1 := ⟨⟨TX7, 11, q_ok7⟩, Or.inl (List.mem_of_getElem? (i := 336) (by decide +kernel)), List.mem_of_getElem? (i := 337) (by decide +kernel), List.mem_of_getElem? (i := 338) (by decide +kernel), List.mem_of_getElem? (i := 339) (by decide +kernel), List.mem_of_getElem? (i := 70) (by decide +kernel), ⟨by decide +kernel, by decide +kernel, by decide +kernel⟩⟩
set_option maxRecDepth 100000 in
theorem cw_X7_117 : q_CV RX7 117 5 yX5_refusal cX5_refusal 4 (some .int) 3 := ⟨⟨TX5, 3, q_ok5⟩, Or.inr ⟨"HopBeams", List.mem_of_getElem? (i := 340) (by decide +kernel)⟩, List.mem_of_getElem? (i := 342) (by decide +kernel), List.mem_of_getElem? (i := 1) (by decide +kernel), List.mem_of_getElem? (i := 343) (by decide +kernel), List.mem_of_getElem? (i := 73) (by decide +kernel), ⟨by decide +kernel, by decide +kernel, by decide +kernel⟩⟩
set_option maxRecDepth 100000 in
theorem cw_X5_23 : q_CS RX5 23 yX5_isPlace cX5_isPlace 1 (some .boolean) 1 := ⟨Or.inl (List.mem_of_getElem? (i := 344) (by decide +kernel)), List.mem_of_getElem? (i := 345) (by decide +kernel), List.mem_of_getElem? (i := 346) (by decide +kernel), List.mem_of_getElem? (i := 73) (by decide +kernel), ⟨by decide +kernel, by decide +kernel, by decide +kernel⟩⟩
set_option maxRecDepth 100000 in
theorem cw_X5_31 : q_CV RX5 31 5 yX5_areWithin cX5_areWithin 5 (some .boolean) 3 := ⟨⟨TX5, 3, q_ok5⟩, Or.inl (List.mem_of_getElem? (i := 347) (by decide +kernel)), List.mem_of_getElem? (i := 349) (by decide +kernel), List.mem_of_getElem? (i := 2) (by decide +kernel), List.mem_of_getElem? (i := 350) (by decide +kernel), List.mem_of_getElem? (i := 73) (by decide +kernel), ⟨by decide +kernel, by decide +kernel, by decide +kernel⟩⟩
set_option maxRecDepth 100000 in
theorem cw_X5_35 : q_CV RX5 35 5 yX5_number cX5_number 3 (some .long) 2 := ⟨⟨TX5, 3, q_ok5⟩, Or.inl (List.mem_of_getElem? (i := 351) (by decide +kernel)), List.mem_of_getElem? (i := 353) (by decide +kernel), List.mem_of_getElem? (i := 3) (by decide +kernel), List.mem_of_getElem? (i := 354) (by decide +kernel), List.mem_of_getElem? (i := 73) (by decide +kernel), ⟨by decide +kernel, by decide +kernel, by decide +kernel⟩⟩
set_option maxRecDepth 100000 in
theorem cw_X5_27 : q_CV RX5 27 5 yX5_lengthOf cX5_lengthOf 2 (some .int) 1 := ⟨⟨TX5, 3, q_ok5⟩, Or.inl (List.mem_of_getElem? (i := 355) (by decide +kernel)), List.mem_of_getElem? (i := 357) (by decide +kernel), List.mem_of_getElem? (i := 4) (by decide +kernel), List.mem_of_getElem? (i := 358) (by decide +kernel), List.mem_of_getElem? (i := 73) (by decide +kernel), ⟨by decide +kernel, by decide +kernel, by decide +kernel⟩⟩
set_option maxRecDepth 100000 in
theorem cw_X5_39 : q_CS RX5 39 yX7_isWithin cX7_isWithin 6 (some .boolean) 3 := ⟨Or.inr ⟨"HopBeams", List.mem_of_getElem? (i := 359) (by decide +kernel)⟩, List.mem_of_getElem? (i := 233) (by decide +kernel), List.mem_of_getElem? (i := 234) (by decide +kernel), List.mem_of_getElem? (i := 70) (by decide +kernel), ⟨by decide +kernel, by decide +kernel, by decide +kernel⟩⟩
set_option maxRecDepth 100000 in
theorem cw_X7_121 : q_CV RX7 121 5 yX5_number cX5_number 3 (some .long) 2 := ⟨⟨TX5, 3, q_ok5⟩, Or.inr ⟨"HopBeams", List.mem_of_getElem? (i := 360) (by decide +kernel)⟩, List.mem_of_getElem? (i := 353) (by decide +kernel), List.mem_of_getElem? (i := 3) (by decide +kernel), List.mem_of_getElem? (i := 354) (by decide +kernel), List.mem_of_getElem? (i := 73) (by decide +kernel), ⟨by decide +kernel, by decide +kernel, by decide +kernel⟩⟩
set_option maxRecDepth 100000 in
theorem cw_L_46 : q_CV RL 46 7 yX7_asks cX7_asks 6 (some .int) 1 := ⟨⟨TX7, 11, q_ok7⟩, Or.inl (List.mem_of_getElem? (i := 361) (by decide +kernel)), List.mem_of_getElem? (i := 362) (by decide +kernel), List.mem_of_getElem? (i := 363) (by decide +kernel), List.mem_of_getElem? (i := 364) (by decide +kernel), List.mem_of_getElem? (i := 70) (by decide +kernel), ⟨by decide +kernel, by decide +kernel, by decide +kernel⟩⟩
set_option maxRecDepth 100000 in
theorem cw_L_50 : q_CV RL 50 7 yX7_legal cX7_legal 2 (some .int) 1 := ⟨⟨TX7, 11, q_ok7⟩, Or.inl (List.mem_of_getElem? (i := 365) (by decide +kernel)), List.mem_of_getElem? (i := 366) (by decide +kernel), List.mem_of_getElem? (i := 367) (by decide +kernel), List.mem_of_getElem? (i := 368) (by decide +kernel), List.mem_of_getElem? (i := 70) (by decide +kernel), ⟨by decide +kernel, by decide +kernel, by decide +kernel⟩⟩
set_option maxRecDepth 100000 in
theorem cw_X7_131 : q_CV RX7 131 2 yX2_allCells cX2_allCells 1 (some .int) 0 := ⟨⟨TX2, 8, q_ok2⟩, Or.inr ⟨"HopBeams", List.mem_of_getElem? (i := 369) (by decide +kernel)⟩, List.mem_of_getElem? (i := 371) (by decide +kernel), List.mem_of_getElem? (i := 5) (by decide +kernel), List.mem_of_getElem? (i := 372) (by decide +kernel), List.mem_of_getElem? (i := 71) (by decide +kernel), ⟨by decide +kernel, by decide +kernel, by decide +kernel⟩⟩
set_option maxRecDepth 100000 in
theorem cw_X7_135 : q_CV RX7 135 2 yX2_allows cX2_allows 6 (some .boolean) 1 := ⟨⟨TX2, 8, q_ok2⟩, Or.inr ⟨"HopBeams", List.mem_of_getElem? (i := 373) (by decide +kernel)⟩, List.mem_of_getElem? (i := 375) (by decide +kernel), List.mem_of_getElem? (i := 6) (by decide +kernel), List.mem_of_getElem? (i := 376) (by decide +kernel), List.mem_of_getElem? (i := 71) (by decide +kernel), ⟨by decide +kernel, by decide +kernel, by decide +kernel⟩⟩
set_option maxRecDepth 100000 in
theorem cw_X2_41 : q_CS RX2 41 yJ6_bitCount_0f7a4 cJ6_bitCount_0f7a4 1 (some .int) 1 := ⟨Or.inl (List.mem_of_getElem? (i := 377) (by decide +kernel)), List.mem_of_getElem? (i := 378) (by decide +kernel), List.mem_of_getElem? (i := 379) (by decide +kernel), List.mem_of_getElem? (i := 77) (by decide +kernel), ⟨by decide +kernel, by decide +kernel, by decide +kernel⟩⟩
set_option maxRecDepth 100000 in
theorem kw_J6_265 : Cond.constant RJ6 265 (1431655765) ∈ lw_tbl := List.mem_of_getElem? (i := 380) (by decide +kernel)
set_option maxRecDepth 100000 in
theorem kw_J6_266 : Cond.constant RJ6 266 (858993459) ∈ lw_tbl := List.mem_of_getElem? (i := 381) (by decide +kernel)
set_option maxRecDepth 100000 in
theorem kw_J6_267 : Cond.constant RJ6 267 (252645135) ∈ lw_tbl := List.mem_of_getElem? (i := 382) (by decide +kernel)
set_option maxRecDepth 100000 in
theorem cw_X2_47 : q_CS RX2 47 yX7_contains cX7_contains 2 (some .boolean) 2 := ⟨Or.inr ⟨"HopBeams", List.mem_of_getElem? (i := 383) (by decide +kernel)⟩, List.mem_of_getElem? (i := 321) (by decide +kernel), List.mem_of_getElem? (i := 322) (by decide +kernel), List.mem_of_getElem? (i := 70) (by decide +kernel), ⟨by decide +kernel, by decide +kernel, by decide +kernel⟩⟩
set_option maxRecDepth 100000 in
theorem cw_X2_60 : q_CV RX2 60 0 yX0_powerNow cX0_powerNow 1 (some .int) 0 := ⟨⟨TX0, 16, q_ok0⟩, Or.inr ⟨"HopBeams", List.mem_of_getElem? (i := 384) (by decide +kernel)⟩, List.mem_of_getElem? (i := 386) (by decide +kernel), List.mem_of_getElem? (i := 7) (by decide +kernel), List.mem_of_getElem? (i := 387) (by decide +kernel), List.mem_of_getElem? (i := 76) (by decide +kernel), ⟨by decide +kernel, by decide +kernel, by decide +kernel⟩⟩
set_option maxRecDepth 100000 in
theorem cw_X2_64 : q_CV RX2 64 2 yX2_haveRoom cX2_haveRoom 3 (some .boolean) 1 := ⟨⟨TX2, 8, q_ok2⟩, Or.inl (List.mem_of_getElem? (i := 388) (by decide +kernel)), List.mem_of_getElem? (i := 390) (by decide +kernel), List.mem_of_getElem? (i := 8) (by decide +kernel), List.mem_of_getElem? (i := 391) (by decide +kernel), List.mem_of_getElem? (i := 71) (by decide +kernel), ⟨by decide +kernel, by decide +kernel, by decide +kernel⟩⟩
set_option maxRecDepth 100000 in
theorem cw_L_54 : q_CV RL 54 7 yX7_sets cX7_sets 1 (some .int) 0 := ⟨⟨TX7, 11, q_ok7⟩, Or.inl (List.mem_of_getElem? (i := 392) (by decide +kernel)), List.mem_of_getElem? (i := 393) (by decide +kernel), List.mem_of_getElem? (i := 394) (by decide +kernel), List.mem_of_getElem? (i := 395) (by decide +kernel), List.mem_of_getElem? (i := 70) (by decide +kernel), ⟨by decide +kernel, by decide +kernel, by decide +kernel⟩⟩
set_option maxRecDepth 100000 in
theorem cw_X7_138 : q_CV RX7 138 3 yX3_find cX3_find 4 none 1 := ⟨⟨TX3, 4, q_ok3⟩, Or.inr ⟨"HopBeams", List.mem_of_getElem? (i := 396) (by decide +kernel)⟩, List.mem_of_getElem? (i := 398) (by decide +kernel), List.mem_of_getElem? (i := 9) (by decide +kernel), List.mem_of_getElem? (i := 399) (by decide +kernel), List.mem_of_getElem? (i := 72) (by decide +kernel), ⟨by decide +kernel, by decide +kernel, by decide +kernel⟩⟩
set_option maxRecDepth 100000 in
theorem cw_X3_26 : q_CV RX3 26 2 yX2_allCells cX2_allCells 1 (some .int) 0 := ⟨⟨TX2, 8, q_ok2⟩, Or.inr ⟨"HopBeams", List.mem_of_getElem? (i := 400) (by decide +kernel)⟩, List.mem_of_getElem? (i := 371) (by decide +kernel), List.mem_of_getElem? (i := 5) (by decide +kernel), List.mem_of_getElem? (i := 372) (by decide +kernel), List.mem_of_getElem? (i := 71) (by decide +kernel), ⟨by decide +kernel, by decide +kernel, by decide +kernel⟩⟩
set_option maxRecDepth 100000 in
theorem cw_X3_32 : q_CS RX3 32 yJ9_min_7cf53 cJ9_min_7cf53 2 (some .int) 2 := ⟨Or.inl (List.mem_of_getElem? (i := 401) (by decide +kernel)), List.mem_of_getElem? (i := 402) (by decide +kernel), List.mem_of_getElem? (i := 403) (by decide +kernel), List.mem_of_getElem? (i := 78) (by decide +kernel), ⟨by decide +kernel, by decide +kernel, by decide +kernel⟩⟩
set_option maxRecDepth 100000 in
theorem cw_X3_38 : q_CV RX3 38 2 yX2_allows cX2_allows 6 (some .boolean) 1 := ⟨⟨TX2, 8, q_ok2⟩, Or.inr ⟨"HopBeams", List.mem_of_getElem? (i := 404) (by decide +kernel)⟩, List.mem_of_getElem? (i := 375) (by decide +kernel), List.mem_of_getElem? (i := 6) (by decide +kernel), List.mem_of_getElem? (i := 376) (by decide +kernel), List.mem_of_getElem? (i := 71) (by decide +kernel), ⟨by decide +kernel, by decide +kernel, by decide +kernel⟩⟩
set_option maxRecDepth 100000 in
theorem cw_L_59 : q_CV RL 59 7 yX7_fewest cX7_fewest 4 (some .int) 0 := ⟨⟨TX7, 11, q_ok7⟩, Or.inl (List.mem_of_getElem? (i := 405) (by decide +kernel)), List.mem_of_getElem? (i := 406) (by decide +kernel), List.mem_of_getElem? (i := 407) (by decide +kernel), List.mem_of_getElem? (i := 408) (by decide +kernel), List.mem_of_getElem? (i := 70) (by decide +kernel), ⟨by decide +kernel, by decide +kernel, by decide +kernel⟩⟩
set_option maxRecDepth 100000 in
theorem cw_X7_146 : q_CV RX7 146 2 yX2_lacksAtFirst cX2_lacksAtFirst 4 (some .long) 0 := ⟨⟨TX2, 8, q_ok2⟩, Or.inr ⟨"HopBeams", List.mem_of_getElem? (i := 409) (by decide +kernel)⟩, List.mem_of_getElem? (i := 411) (by decide +kernel), List.mem_of_getElem? (i := 10) (by decide +kernel), List.mem_of_getElem? (i := 412) (by decide +kernel), List.mem_of_getElem? (i := 71) (by decide +kernel), ⟨by decide +kernel, by decide +kernel, by decide +kernel⟩⟩
set_option maxRecDepth 100000 in
theorem cw_X7_151 : q_CV RX7 151 2 yX2_canMeetNeeds cX2_canMeetNeeds 2 (some .boolean) 0 := ⟨⟨TX2, 8, q_ok2⟩, Or.inr ⟨"HopBeams", List.mem_of_getElem? (i := 413) (by decide +kernel)⟩, List.mem_of_getElem? (i := 415) (by decide +kernel), List.mem_of_getElem? (i := 11) (by decide +kernel), List.mem_of_getElem? (i := 416) (by decide +kernel), List.mem_of_getElem? (i := 71) (by decide +kernel), ⟨by decide +kernel, by decide +kernel, by decide +kernel⟩⟩
set_option maxRecDepth 100000 in
theorem cw_X2_71 : q_CV RX2 71 2 yX2_allows cX2_allows 6 (some .boolean) 1 := ⟨⟨TX2, 8, q_ok2⟩, Or.inl (List.mem_of_getElem? (i := 417) (by decide +kernel)), List.mem_of_getElem? (i := 375) (by decide +kernel), List.mem_of_getElem? (i := 6) (by decide +kernel), List.mem_of_getElem? (i := 376) (by decide +kernel), List.mem_of_getElem? (i := 71) (by decide +kernel), ⟨by decide +kernel, by decide +kernel, by decide +kernel⟩⟩
set_option maxRecDepth 100000 in
theorem kl_X7_159 : Cond.classLink RX7 159 RX4 ∈ lw_tbl := List.mem_of_getElem? (i := 418) (by decide +kernel)
set_option maxRecDepth 100000 in
theorem in_X4 : Cond.instantiable RX4 10 ∈ lw_tbl := List.mem_of_getElem? (i := 419) (by decide +kernel)
set_option maxRecDepth 100000 in
theorem cw_X7_161 : q_CI RX7 161 yX4_init cX4_init 1 0 := ⟨Or.inr ⟨"HopBeams", List.mem_of_getElem? (i := 420) (by decide +kernel)⟩, rfl, List.mem_of_getElem? (i := 421) (by decide +kernel), List.mem_of_getElem? (i := 422) (by decide +kernel), List.mem_of_getElem? (i := 79) (by decide +kernel), ⟨by decide +kernel, by decide +kernel, by decide +kernel⟩⟩
set_option maxRecDepth 100000 in
theorem wl_X4_3 : Cond.methodLink RX4 3 objectInit ∈ lw_tbl := List.mem_of_getElem? (i := 423) (by decide +kernel)
set_option maxRecDepth 100000 in
theorem fl_X4_9 : q_FL RX4 9 4 0 := ⟨RX4, TX4, 10, q_ok4, by decide, rfl, Or.inl (List.mem_of_getElem? (i := 424) (by decide +kernel))⟩
set_option maxRecDepth 100000 in
theorem ff_X4_9 : q_FF RX4 9 4 0 := ⟨RX4, TX4, 10, q_ok4, by decide, rfl, rfl, rfl, List.mem_of_getElem? (i := 424) (by decide +kernel)⟩
set_option maxRecDepth 100000 in
theorem fl_X4_15 : q_FL RX4 15 4 1 := ⟨RX4, TX4, 10, q_ok4, by decide, rfl, Or.inl (List.mem_of_getElem? (i := 425) (by decide +kernel))⟩
set_option maxRecDepth 100000 in
theorem ff_X4_15 : q_FF RX4 15 4 1 := ⟨RX4, TX4, 10, q_ok4, by decide, rfl, rfl, rfl, List.mem_of_getElem? (i := 425) (by decide +kernel)⟩
set_option maxRecDepth 100000 in
theorem fl_X4_43 : q_FL RX4 43 4 2 := ⟨RX4, TX4, 10, q_ok4, by decide, rfl, Or.inl (List.mem_of_getElem? (i := 426) (by decide +kernel))⟩
theorem fw_X4_43 : q_FW RX4 43 4 2 := ⟨RX4, TX4, 10, q_ok4, by decide, rfl, rfl, (by obtain ⟨C, T, N, o1, o2, o3, o4⟩ := fl_X4_43; have e := Option.some.inj (o1.1.symm.trans q_ok4.1); cases e; exact o4)⟩
set_option maxRecDepth 100000 in
theorem fl_X7_166 : q_FL RX7 166 4 2 := ⟨RX4, TX4, 10, q_ok4, by decide, rfl, Or.inr ⟨"HopBeams", List.mem_of_getElem? (i := 427) (by decide +kernel)⟩⟩
theorem fw_X7_166 : q_FW RX7 166 4 2 := ⟨RX4, TX4, 10, q_ok4, by decide, rfl, rfl, (by obtain ⟨C, T, N, o1, o2, o3, o4⟩ := fl_X7_166; have e := Option.some.inj (o1.1.symm.trans q_ok4.1); cases e; exact o4)⟩
set_option maxRecDepth 100000 in
theorem fl_X4_19 : q_FL RX4 19 4 3 := ⟨RX4, TX4, 10, q_ok4, by decide, rfl, Or.inl (List.mem_of_getElem? (i := 428) (by decide +kernel))⟩
set_option maxRecDepth 100000 in
theorem ff_X4_19 : q_FF RX4 19 4 3 := ⟨RX4, TX4, 10, q_ok4, by decide, rfl, rfl, rfl, List.mem_of_getElem? (i := 428) (by decide +kernel)⟩
set_option maxRecDepth 100000 in
theorem fl_X4_22 : q_FL RX4 22 4 4 := ⟨RX4, TX4, 10, q_ok4, by decide, rfl, Or.inl (List.mem_of_getElem? (i := 429) (by decide +kernel))⟩
set_option maxRecDepth 100000 in
theorem ff_X4_22 : q_FF RX4 22 4 4 := ⟨RX4, TX4, 10, q_ok4, by decide, rfl, rfl, rfl, List.mem_of_getElem? (i := 429) (by decide +kernel)⟩
set_option maxRecDepth 100000 in
theorem fl_X4_25 : q_FL RX4 25 4 5 := ⟨RX4, TX4, 10, q_ok4, by decide, rfl, Or.inl (List.mem_of_getElem? (i := 430) (by decide +kernel))⟩
set_option maxRecDepth 100000 in
theorem ff_X4_25 : q_FF RX4 25 4 5 := ⟨RX4, TX4, 10, q_ok4, by decide, rfl, rfl, rfl, List.mem_of_getElem? (i := 430) (by decide +kernel)⟩
set_option maxRecDepth 100000 in
theorem fl_X4_28 : q_FL RX4 28 4 6 := ⟨RX4, TX4, 10, q_ok4, by decide, rfl, Or.inl (List.mem_of_getElem? (i := 431) (by decide +kernel))⟩
set_option maxRecDepth 100000 in
theorem ff_X4_28 : q_FF RX4 28 4 6 := ⟨RX4, TX4, 10, q_ok4, by decide, rfl, rfl, rfl, List.mem_of_getElem? (i := 431) (by decide +kernel)⟩
set_option maxRecDepth 100000 in
theorem fl_X4_54 : q_FL RX4 54 4 7 := ⟨RX4, TX4, 10, q_ok4, by decide, rfl, Or.inl (List.mem_of_getElem? (i := 432) (by decide +kernel))⟩
theorem fw_X4_54 : q_FW RX4 54 4 7 := ⟨RX4, TX4, 10, q_ok4, by decide, rfl, rfl, (by obtain ⟨C, T, N, o1, o2, o3, o4⟩ := fl_X4_54; have e := Option.some.inj (o1.1.symm.trans q_ok4.1); cases e; exact o4)⟩
set_option maxRecDepth 100000 in
theorem fl_X4_71 : q_FL RX4 71 4 8 := ⟨RX4, TX4, 10, q_ok4, by decide, rfl, Or.inl (List.mem_of_getElem? (i := 433) (by decide +kernel))⟩
theorem fw_X4_71 : q_FW RX4 71 4 8 := ⟨RX4, TX4, 10, q_ok4, by decide, rfl, rfl, (by obtain ⟨C, T, N, o1, o2, o3, o4⟩ := fl_X4_71; have e := Option.some.inj (o1.1.symm.trans q_ok4.1); cases e; exact o4)⟩
set_option maxRecDepth 100000 in
theorem fl_X4_62 : q_FL RX4 62 4 9 := ⟨RX4, TX4, 10, q_ok4, by decide, rfl, Or.inl (List.mem_of_getElem? (i := 434) (by decide +kernel))⟩
theorem fw_X4_62 : q_FW RX4 62 4 9 := ⟨RX4, TX4, 10, q_ok4, by decide, rfl, rfl, (by obtain ⟨C, T, N, o1, o2, o3, o4⟩ := fl_X4_62; have e := Option.some.inj (o1.1.symm.trans q_ok4.1); cases e; exact o4)⟩
set_option maxRecDepth 100000 in
theorem cw_X7_162 : q_CV RX7 162 4 yX4_reachesEnd cX4_reachesEnd 11 (some .boolean) 2 := ⟨⟨TX4, 10, q_ok4⟩, Or.inr ⟨"HopBeams", List.mem_of_getElem? (i := 456) (by decide +kernel)⟩, List.mem_of_getElem? (i := 458) (by decide +kernel), List.mem_of_getElem? (i := 12) (by decide +kernel), List.mem_of_getElem? (i := 459) (by decide +kernel), List.mem_of_getElem? (i := 79) (by decide +kernel), ⟨by decide +kernel, by decide +kernel, by decide +kernel⟩⟩
set_option maxRecDepth 100000 in
theorem cw_X4_31 : q_CV RX4 31 4 yX4_prepare cX4_prepare 3 none 1 := ⟨⟨TX4, 10, q_ok4⟩, Or.inl (List.mem_of_getElem? (i := 460) (by decide +kernel)), List.mem_of_getElem? (i := 462) (by decide +kernel), List.mem_of_getElem? (i := 13) (by decide +kernel), List.mem_of_getElem? (i := 463) (by decide +kernel), List.mem_of_getElem? (i := 79) (by decide +kernel), ⟨by decide +kernel, by decide +kernel, by decide +kernel⟩⟩
set_option maxRecDepth 100000 in
theorem cw_X4_65 : q_CS RX4 65 yJ7_fill_53178 cJ7_fill_53178 4 none 2 := ⟨Or.inl (List.mem_of_getElem? (i := 464) (by decide +kernel)), List.mem_of_getElem? (i := 465) (by decide +kernel), List.mem_of_getElem? (i := 466) (by decide +kernel), List.mem_of_getElem? (i := 80) (by decide +kernel), ⟨by decide +kernel, by decide +kernel, by decide +kernel⟩⟩
set_option maxRecDepth 100000 in
theorem cw_X4_75 : q_CV RX4 75 3 yX3_roomBeside cX3_roomBeside 4 (some .int) 1 := ⟨⟨TX3, 4, q_ok3⟩, Or.inr ⟨"HopBeams", List.mem_of_getElem? (i := 467) (by decide +kernel)⟩, List.mem_of_getElem? (i := 469) (by decide +kernel), List.mem_of_getElem? (i := 14) (by decide +kernel), List.mem_of_getElem? (i := 470) (by decide +kernel), List.mem_of_getElem? (i := 72) (by decide +kernel), ⟨by decide +kernel, by decide +kernel, by decide +kernel⟩⟩
set_option maxRecDepth 100000 in
theorem cw_X3_42 : q_CS RX3 42 yX7_contains cX7_contains 2 (some .boolean) 2 := ⟨Or.inr ⟨"HopBeams", List.mem_of_getElem? (i := 471) (by decide +kernel)⟩, List.mem_of_getElem? (i := 321) (by decide +kernel), List.mem_of_getElem? (i := 322) (by decide +kernel), List.mem_of_getElem? (i := 70) (by decide +kernel), ⟨by decide +kernel, by decide +kernel, by decide +kernel⟩⟩
set_option maxRecDepth 100000 in
theorem cw_X3_46 : q_CV RX3 46 3 yX3_has cX3_has 2 (some .boolean) 1 := ⟨⟨TX3, 4, q_ok3⟩, Or.inl (List.mem_of_getElem? (i := 472) (by decide +kernel)), List.mem_of_getElem? (i := 474) (by decide +kernel), List.mem_of_getElem? (i := 15) (by decide +kernel), List.mem_of_getElem? (i := 475) (by decide +kernel), List.mem_of_getElem? (i := 72) (by decide +kernel), ⟨by decide +kernel, by decide +kernel, by decide +kernel⟩⟩
set_option maxRecDepth 100000 in
theorem cw_X4_79 : q_CS RX4 79 yX4_onceEach cX4_onceEach 4 (some .long) 1 := ⟨Or.inl (List.mem_of_getElem? (i := 476) (by decide +kernel)), List.mem_of_getElem? (i := 477) (by decide +kernel), List.mem_of_getElem? (i := 478) (by decide +kernel), List.mem_of_getElem? (i := 79) (by decide +kernel), ⟨by decide +kernel, by decide +kernel, by decide +kernel⟩⟩
set_option maxRecDepth 100000 in
theorem cw_X4_83 : q_CS RX4 83 yX7_contains cX7_contains 2 (some .boolean) 2 := ⟨Or.inr ⟨"HopBeams", List.mem_of_getElem? (i := 479) (by decide +kernel)⟩, List.mem_of_getElem? (i := 321) (by decide +kernel), List.mem_of_getElem? (i := 322) (by decide +kernel), List.mem_of_getElem? (i := 70) (by decide +kernel), ⟨by decide +kernel, by decide +kernel, by decide +kernel⟩⟩
set_option maxRecDepth 100000 in
theorem cw_X4_35 : q_CV RX4 35 4 yX4_spotOf cX4_spotOf 5 (some .int) 1 := ⟨⟨TX4, 10, q_ok4⟩, Or.inl (List.mem_of_getElem? (i := 480) (by decide +kernel)), List.mem_of_getElem? (i := 482) (by decide +kernel), List.mem_of_getElem? (i := 16) (by decide +kernel), List.mem_of_getElem? (i := 483) (by decide +kernel), List.mem_of_getElem? (i := 79) (by decide +kernel), ⟨by decide +kernel, by decide +kernel, by decide +kernel⟩⟩
set_option maxRecDepth 100000 in
theorem kw_X4_89 : Cond.constantLong RX4 89 (-7046029254386353131) ∈ lw_tbl := List.mem_of_getElem? (i := 484) (by decide +kernel)
set_option maxRecDepth 100000 in
theorem cw_X4_39 : q_CV RX4 39 4 yX4_remember cX4_remember 5 none 3 := ⟨⟨TX4, 10, q_ok4⟩, Or.inl (List.mem_of_getElem? (i := 485) (by decide +kernel)), List.mem_of_getElem? (i := 487) (by decide +kernel), List.mem_of_getElem? (i := 17) (by decide +kernel), List.mem_of_getElem? (i := 488) (by decide +kernel), List.mem_of_getElem? (i := 79) (by decide +kernel), ⟨by decide +kernel, by decide +kernel, by decide +kernel⟩⟩
set_option maxRecDepth 100000 in
theorem cw_X4_47 : q_CS RX4 47 yX4_lacking cX4_lacking 4 (some .int) 1 := ⟨Or.inl (List.mem_of_getElem? (i := 489) (by decide +kernel)), List.mem_of_getElem? (i := 490) (by decide +kernel), List.mem_of_getElem? (i := 491) (by decide +kernel), List.mem_of_getElem? (i := 79) (by decide +kernel), ⟨by decide +kernel, by decide +kernel, by decide +kernel⟩⟩
set_option maxRecDepth 100000 in
theorem kw_X4_87 : Cond.constantLong RX4 87 (15) ∈ lw_tbl := List.mem_of_getElem? (i := 492) (by decide +kernel)
set_option maxRecDepth 100000 in
theorem cw_X4_50 : q_CV RX4 50 4 yX4_chooseWidest cX4_chooseWidest 4 none 2 := ⟨⟨TX4, 10, q_ok4⟩, Or.inl (List.mem_of_getElem? (i := 493) (by decide +kernel)), List.mem_of_getElem? (i := 495) (by decide +kernel), List.mem_of_getElem? (i := 18) (by decide +kernel), List.mem_of_getElem? (i := 496) (by decide +kernel), List.mem_of_getElem? (i := 79) (by decide +kernel), ⟨by decide +kernel, by decide +kernel, by decide +kernel⟩⟩
set_option maxRecDepth 100000 in
theorem cw_X7_167 : q_CV RX7 167 4 yX4_tellRow cX4_tellRow 6 none 1 := ⟨⟨TX4, 10, q_ok4⟩, Or.inr ⟨"HopBeams", List.mem_of_getElem? (i := 497) (by decide +kernel)⟩, List.mem_of_getElem? (i := 499) (by decide +kernel), List.mem_of_getElem? (i := 19) (by decide +kernel), List.mem_of_getElem? (i := 500) (by decide +kernel), List.mem_of_getElem? (i := 79) (by decide +kernel), ⟨by decide +kernel, by decide +kernel, by decide +kernel⟩⟩
set_option maxRecDepth 100000 in
theorem cw_L_63 : q_CV RL 63 7 yX7_frame cX7_frame 2 (some .int) 1 := ⟨⟨TX7, 11, q_ok7⟩, Or.inl (List.mem_of_getElem? (i := 501) (by decide +kernel)), List.mem_of_getElem? (i := 502) (by decide +kernel), List.mem_of_getElem? (i := 503) (by decide +kernel), List.mem_of_getElem? (i := 504) (by decide +kernel), List.mem_of_getElem? (i := 70) (by decide +kernel), ⟨by decide +kernel, by decide +kernel, by decide +kernel⟩⟩
set_option maxRecDepth 100000 in
theorem cw_X7_171 : q_CV RX7 171 1 yX1_has cX1_has 2 (some .boolean) 1 := ⟨⟨TX1, 2, q_ok1⟩, Or.inr ⟨"HopBeams", List.mem_of_getElem? (i := 505) (by decide +kernel)⟩, List.mem_of_getElem? (i := 507) (by decide +kernel), List.mem_of_getElem? (i := 20) (by decide +kernel), List.mem_of_getElem? (i := 508) (by decide +kernel), List.mem_of_getElem? (i := 74) (by decide +kernel), ⟨by decide +kernel, by decide +kernel, by decide +kernel⟩⟩
set_option maxRecDepth 100000 in
theorem cw_L_67 : q_CV RL 67 7 yX7_frameOf cX7_frameOf 5 (some .int) 1 := ⟨⟨TX7, 11, q_ok7⟩, Or.inl (List.mem_of_getElem? (i := 509) (by decide +kernel)), List.mem_of_getElem? (i := 510) (by decide +kernel), List.mem_of_getElem? (i := 511) (by decide +kernel), List.mem_of_getElem? (i := 512) (by decide +kernel), List.mem_of_getElem? (i := 70) (by decide +kernel), ⟨by decide +kernel, by decide +kernel, by decide +kernel⟩⟩
set_option maxRecDepth 100000 in
theorem cw_X7_177 : q_CV RX7 177 5 yX5_lengthOf cX5_lengthOf 2 (some .int) 1 := ⟨⟨TX5, 3, q_ok5⟩, Or.inr ⟨"HopBeams", List.mem_of_getElem? (i := 513) (by decide +kernel)⟩, List.mem_of_getElem? (i := 357) (by decide +kernel), List.mem_of_getElem? (i := 4) (by decide +kernel), List.mem_of_getElem? (i := 358) (by decide +kernel), List.mem_of_getElem? (i := 73) (by decide +kernel), ⟨by decide +kernel, by decide +kernel, by decide +kernel⟩⟩
set_option maxRecDepth 100000 in
theorem cw_X7_181 : q_CS RX7 181 yJ9_min_7cf53 cJ9_min_7cf53 2 (some .int) 2 := ⟨Or.inl (List.mem_of_getElem? (i := 514) (by decide +kernel)), List.mem_of_getElem? (i := 402) (by decide +kernel), List.mem_of_getElem? (i := 403) (by decide +kernel), List.mem_of_getElem? (i := 78) (by decide +kernel), ⟨by decide +kernel, by decide +kernel, by decide +kernel⟩⟩
set_option maxRecDepth 100000 in
theorem cw_X7_187 : q_CV RX7 187 5 yX5_areWithin cX5_areWithin 5 (some .boolean) 3 := ⟨⟨TX5, 3, q_ok5⟩, Or.inr ⟨"HopBeams", List.mem_of_getElem? (i := 515) (by decide +kernel)⟩, List.mem_of_getElem? (i := 349) (by decide +kernel), List.mem_of_getElem? (i := 2) (by decide +kernel), List.mem_of_getElem? (i := 350) (by decide +kernel), List.mem_of_getElem? (i := 73) (by decide +kernel), ⟨by decide +kernel, by decide +kernel, by decide +kernel⟩⟩
set_option maxRecDepth 100000 in
theorem cw_L_71 : q_CV RL 71 7 yX7_proof cX7_proof 7 (some .long) 1 := ⟨⟨TX7, 11, q_ok7⟩, Or.inl (List.mem_of_getElem? (i := 516) (by decide +kernel)), List.mem_of_getElem? (i := 517) (by decide +kernel), List.mem_of_getElem? (i := 518) (by decide +kernel), List.mem_of_getElem? (i := 519) (by decide +kernel), List.mem_of_getElem? (i := 70) (by decide +kernel), ⟨by decide +kernel, by decide +kernel, by decide +kernel⟩⟩
set_option maxRecDepth 100000 in
theorem kw_X7_191 : Cond.constant RX7 191 (1000000) ∈ lw_tbl := List.mem_of_getElem? (i := 520) (by decide +kernel)
set_option maxRecDepth 100000 in
theorem cw_X7_195 : q_CV RX7 195 3 yX3_worthiest cX3_worthiest 6 (some .int) 1 := ⟨⟨TX3, 4, q_ok3⟩, Or.inr ⟨"HopBeams", List.mem_of_getElem? (i := 521) (by decide +kernel)⟩, List.mem_of_getElem? (i := 523) (by decide +kernel), List.mem_of_getElem? (i := 21) (by decide +kernel), List.mem_of_getElem? (i := 524) (by decide +kernel), List.mem_of_getElem? (i := 72) (by decide +kernel), ⟨by decide +kernel, by decide +kernel, by decide +kernel⟩⟩
set_option maxRecDepth 100000 in
theorem kw_X7_199 : Cond.constantLong RX7 199 (-1) ∈ lw_tbl := List.mem_of_getElem? (i := 525) (by decide +kernel)
set_option maxRecDepth 100000 in
theorem cw_L_76 : q_CV RL 76 7 yX7_ways cX7_ways 2 (some .int) 1 := ⟨⟨TX7, 11, q_ok7⟩, Or.inl (List.mem_of_getElem? (i := 526) (by decide +kernel)), List.mem_of_getElem? (i := 527) (by decide +kernel), List.mem_of_getElem? (i := 528) (by decide +kernel), List.mem_of_getElem? (i := 529) (by decide +kernel), List.mem_of_getElem? (i := 70) (by decide +kernel), ⟨by decide +kernel, by decide +kernel, by decide +kernel⟩⟩
set_option maxRecDepth 100000 in
theorem kw_X7_201 : Cond.constantLong RX7 201 (24) ∈ lw_tbl := List.mem_of_getElem? (i := 530) (by decide +kernel)
set_option maxRecDepth 100000 in
theorem kl_X7_207 : Cond.classLink RX7 207 RX6 ∈ lw_tbl := List.mem_of_getElem? (i := 531) (by decide +kernel)
set_option maxRecDepth 100000 in
theorem in_X6 : Cond.instantiable RX6 5 ∈ lw_tbl := List.mem_of_getElem? (i := 532) (by decide +kernel)
set_option maxRecDepth 100000 in
theorem cw_X7_209 : q_CI RX7 209 yX6_init cX6_init 1 0 := ⟨Or.inr ⟨"HopBeams", List.mem_of_getElem? (i := 533) (by decide +kernel)⟩, rfl, List.mem_of_getElem? (i := 534) (by decide +kernel), List.mem_of_getElem? (i := 535) (by decide +kernel), List.mem_of_getElem? (i := 81) (by decide +kernel), ⟨by decide +kernel, by decide +kernel, by decide +kernel⟩⟩
set_option maxRecDepth 100000 in
theorem wl_X6_5 : Cond.methodLink RX6 5 objectInit ∈ lw_tbl := List.mem_of_getElem? (i := 536) (by decide +kernel)
set_option maxRecDepth 100000 in
theorem fl_X6_11 : q_FL RX6 11 6 0 := ⟨RX6, TX6, 5, q_ok6, by decide, rfl, Or.inl (List.mem_of_getElem? (i := 537) (by decide +kernel))⟩
set_option maxRecDepth 100000 in
theorem ff_X6_11 : q_FF RX6 11 6 0 := ⟨RX6, TX6, 5, q_ok6, by decide, rfl, rfl, rfl, List.mem_of_getElem? (i := 537) (by decide +kernel)⟩
set_option maxRecDepth 100000 in
theorem fl_X6_15 : q_FL RX6 15 6 1 := ⟨RX6, TX6, 5, q_ok6, by decide, rfl, Or.inl (List.mem_of_getElem? (i := 538) (by decide +kernel))⟩
set_option maxRecDepth 100000 in
theorem ff_X6_15 : q_FF RX6 15 6 1 := ⟨RX6, TX6, 5, q_ok6, by decide, rfl, rfl, rfl, List.mem_of_getElem? (i := 538) (by decide +kernel)⟩
set_option maxRecDepth 100000 in
theorem fl_X6_18 : q_FL RX6 18 6 2 := ⟨RX6, TX6, 5, q_ok6, by decide, rfl, Or.inl (List.mem_of_getElem? (i := 539) (by decide +kernel))⟩
set_option maxRecDepth 100000 in
theorem ff_X6_18 : q_FF RX6 18 6 2 := ⟨RX6, TX6, 5, q_ok6, by decide, rfl, rfl, rfl, List.mem_of_getElem? (i := 539) (by decide +kernel)⟩
set_option maxRecDepth 100000 in
theorem fl_X6_22 : q_FL RX6 22 6 3 := ⟨RX6, TX6, 5, q_ok6, by decide, rfl, Or.inl (List.mem_of_getElem? (i := 540) (by decide +kernel))⟩
set_option maxRecDepth 100000 in
theorem ff_X6_22 : q_FF RX6 22 6 3 := ⟨RX6, TX6, 5, q_ok6, by decide, rfl, rfl, rfl, List.mem_of_getElem? (i := 540) (by decide +kernel)⟩
set_option maxRecDepth 100000 in
theorem fl_X6_25 : q_FL RX6 25 6 4 := ⟨RX6, TX6, 5, q_ok6, by decide, rfl, Or.inl (List.mem_of_getElem? (i := 541) (by decide +kernel))⟩
set_option maxRecDepth 100000 in
theorem ff_X6_25 : q_FF RX6 25 6 4 := ⟨RX6, TX6, 5, q_ok6, by decide, rfl, rfl, rfl, List.mem_of_getElem? (i := 541) (by decide +kernel)⟩
set_option maxRecDepth 100000 in
theorem ar_arrayClass_byte : Cond.arrayClass .byte ∈ lw_tbl := List.mem_of_getElem? (i := 553) (by decide +kernel)
set_option maxRecDepth 100000 in
theorem cw_X7_210 : q_CV RX7 210 6 yX6_countRows cX6_countRows 6 none 3 := ⟨⟨TX6, 5, q_ok6⟩, Or.inr ⟨"HopBeams", List.mem_of_getElem? (i := 554) (by decide +kernel)⟩, List.mem_of_getElem? (i := 556) (by decide +kernel), List.mem_of_getElem? (i := 22) (by decide +kernel), List.mem_of_getElem? (i := 557) (by decide +kernel), List.mem_of_getElem? (i := 81) (by decide +kernel), ⟨by decide +kernel, by decide +kernel, by decide +kernel⟩⟩
set_option maxRecDepth 100000 in
theorem cw_X6_29 : q_CV RX6 29 6 yX6_countWithin cX6_countWithin 5 none 2 := ⟨⟨TX6, 5, q_ok6⟩, Or.inl (List.mem_of_getElem? (i := 558) (by decide +kernel)), List.mem_of_getElem? (i := 560) (by decide +kernel), List.mem_of_getElem? (i := 23) (by decide +kernel), List.mem_of_getElem? (i := 561) (by decide +kernel), List.mem_of_getElem? (i := 81) (by decide +kernel), ⟨by decide +kernel, by decide +kernel, by decide +kernel⟩⟩
set_option maxRecDepth 100000 in
theorem cw_X6_68 : q_CV RX6 68 3 yX3_has cX3_has 2 (some .boolean) 1 := ⟨⟨TX3, 4, q_ok3⟩, Or.inr ⟨"HopBeams", List.mem_of_getElem? (i := 562) (by decide +kernel)⟩, List.mem_of_getElem? (i := 474) (by decide +kernel), List.mem_of_getElem? (i := 15) (by decide +kernel), List.mem_of_getElem? (i := 475) (by decide +kernel), List.mem_of_getElem? (i := 72) (by decide +kernel), ⟨by decide +kernel, by decide +kernel, by decide +kernel⟩⟩
set_option maxRecDepth 100000 in
theorem cw_X6_74 : q_CS RX6 74 yX7_contains cX7_contains 2 (some .boolean) 2 := ⟨Or.inr ⟨"HopBeams", List.mem_of_getElem? (i := 563) (by decide +kernel)⟩, List.mem_of_getElem? (i := 321) (by decide +kernel), List.mem_of_getElem? (i := 322) (by decide +kernel), List.mem_of_getElem? (i := 70) (by decide +kernel), ⟨by decide +kernel, by decide +kernel, by decide +kernel⟩⟩
set_option maxRecDepth 100000 in
theorem cw_X6_33 : q_CS RX6 33 yJ7_fill_53178 cJ7_fill_53178 4 none 2 := ⟨Or.inl (List.mem_of_getElem? (i := 564) (by decide +kernel)), List.mem_of_getElem? (i := 465) (by decide +kernel), List.mem_of_getElem? (i := 466) (by decide +kernel), List.mem_of_getElem? (i := 80) (by decide +kernel), ⟨by decide +kernel, by decide +kernel, by decide +kernel⟩⟩
set_option maxRecDepth 100000 in
theorem cw_X6_39 : q_CS RX6 39 yJ9_min_7cf53 cJ9_min_7cf53 2 (some .int) 2 := ⟨Or.inl (List.mem_of_getElem? (i := 565) (by decide +kernel)), List.mem_of_getElem? (i := 402) (by decide +kernel), List.mem_of_getElem? (i := 403) (by decide +kernel), List.mem_of_getElem? (i := 78) (by decide +kernel), ⟨by decide +kernel, by decide +kernel, by decide +kernel⟩⟩
set_option maxRecDepth 100000 in
theorem cw_X6_45 : q_CS RX6 45 yJ6_bitCount_0f7a4 cJ6_bitCount_0f7a4 1 (some .int) 1 := ⟨Or.inl (List.mem_of_getElem? (i := 566) (by decide +kernel)), List.mem_of_getElem? (i := 378) (by decide +kernel), List.mem_of_getElem? (i := 379) (by decide +kernel), List.mem_of_getElem? (i := 77) (by decide +kernel), ⟨by decide +kernel, by decide +kernel, by decide +kernel⟩⟩
set_option maxRecDepth 100000 in
theorem cw_X6_51 : q_CS RX6 51 yJ7_fill_d0a16 cJ7_fill_d0a16 5 none 2 := ⟨Or.inl (List.mem_of_getElem? (i := 567) (by decide +kernel)), List.mem_of_getElem? (i := 568) (by decide +kernel), List.mem_of_getElem? (i := 569) (by decide +kernel), List.mem_of_getElem? (i := 80) (by decide +kernel), ⟨by decide +kernel, by decide +kernel, by decide +kernel⟩⟩
set_option maxRecDepth 100000 in
theorem cw_X6_54 : q_CV RX6 54 6 yX6_raise cX6_raise 9 none 2 := ⟨⟨TX6, 5, q_ok6⟩, Or.inl (List.mem_of_getElem? (i := 570) (by decide +kernel)), List.mem_of_getElem? (i := 572) (by decide +kernel), List.mem_of_getElem? (i := 24) (by decide +kernel), List.mem_of_getElem? (i := 573) (by decide +kernel), List.mem_of_getElem? (i := 81) (by decide +kernel), ⟨by decide +kernel, by decide +kernel, by decide +kernel⟩⟩
set_option maxRecDepth 100000 in
theorem kw_X6_78 : Cond.constantLong RX6 78 (1000000000) ∈ lw_tbl := List.mem_of_getElem? (i := 574) (by decide +kernel)
set_option maxRecDepth 100000 in
theorem cw_X6_58 : q_CV RX6 58 6 yX6_addPower cX6_addPower 3 none 1 := ⟨⟨TX6, 5, q_ok6⟩, Or.inl (List.mem_of_getElem? (i := 575) (by decide +kernel)), List.mem_of_getElem? (i := 577) (by decide +kernel), List.mem_of_getElem? (i := 25) (by decide +kernel), List.mem_of_getElem? (i := 578) (by decide +kernel), List.mem_of_getElem? (i := 81) (by decide +kernel), ⟨by decide +kernel, by decide +kernel, by decide +kernel⟩⟩
set_option maxRecDepth 100000 in
theorem cw_X6_62 : q_CV RX6 62 6 yX6_carry cX6_carry 6 none 0 := ⟨⟨TX6, 5, q_ok6⟩, Or.inl (List.mem_of_getElem? (i := 579) (by decide +kernel)), List.mem_of_getElem? (i := 581) (by decide +kernel), List.mem_of_getElem? (i := 26) (by decide +kernel), List.mem_of_getElem? (i := 582) (by decide +kernel), List.mem_of_getElem? (i := 81) (by decide +kernel), ⟨by decide +kernel, by decide +kernel, by decide +kernel⟩⟩
set_option maxRecDepth 100000 in
theorem cw_X6_80 : q_CS RX6 80 yJ9_floorMod_f86c9 cJ9_floorMod_f86c9 6 (some .long) 2 := ⟨Or.inl (List.mem_of_getElem? (i := 583) (by decide +kernel)), List.mem_of_getElem? (i := 584) (by decide +kernel), List.mem_of_getElem? (i := 585) (by decide +kernel), List.mem_of_getElem? (i := 78) (by decide +kernel), ⟨by decide +kernel, by decide +kernel, by decide +kernel⟩⟩
set_option maxRecDepth 100000 in
theorem cw_X6_84 : q_CS RX6 84 yJ9_floorDiv_f86c9 cJ9_floorDiv_f86c9 6 (some .long) 2 := ⟨Or.inl (List.mem_of_getElem? (i := 586) (by decide +kernel)), List.mem_of_getElem? (i := 587) (by decide +kernel), List.mem_of_getElem? (i := 588) (by decide +kernel), List.mem_of_getElem? (i := 78) (by decide +kernel), ⟨by decide +kernel, by decide +kernel, by decide +kernel⟩⟩
set_option maxRecDepth 100000 in
theorem cw_X6_65 : q_CV RX6 65 6 yX6_writeDigits cX6_writeDigits 5 none 0 := ⟨⟨TX6, 5, q_ok6⟩, Or.inl (List.mem_of_getElem? (i := 589) (by decide +kernel)), List.mem_of_getElem? (i := 591) (by decide +kernel), List.mem_of_getElem? (i := 27) (by decide +kernel), List.mem_of_getElem? (i := 592) (by decide +kernel), List.mem_of_getElem? (i := 81) (by decide +kernel), ⟨by decide +kernel, by decide +kernel, by decide +kernel⟩⟩
set_option maxRecDepth 100000 in
theorem kw_X6_87 : Cond.constantLong RX6 87 (10) ∈ lw_tbl := List.mem_of_getElem? (i := 593) (by decide +kernel)
set_option maxRecDepth 100000 in
theorem cw_X7_214 : q_CV RX7 214 6 yX6_digitsUsed cX6_digitsUsed 2 (some .int) 0 := ⟨⟨TX6, 5, q_ok6⟩, Or.inr ⟨"HopBeams", List.mem_of_getElem? (i := 594) (by decide +kernel)⟩, List.mem_of_getElem? (i := 596) (by decide +kernel), List.mem_of_getElem? (i := 28) (by decide +kernel), List.mem_of_getElem? (i := 597) (by decide +kernel), List.mem_of_getElem? (i := 81) (by decide +kernel), ⟨by decide +kernel, by decide +kernel, by decide +kernel⟩⟩
set_option maxRecDepth 100000 in
theorem cw_L_80 : q_CV RL 80 7 yX7_digit cX7_digit 2 (some .int) 1 := ⟨⟨TX7, 11, q_ok7⟩, Or.inl (List.mem_of_getElem? (i := 598) (by decide +kernel)), List.mem_of_getElem? (i := 599) (by decide +kernel), List.mem_of_getElem? (i := 600) (by decide +kernel), List.mem_of_getElem? (i := 601) (by decide +kernel), List.mem_of_getElem? (i := 70) (by decide +kernel), ⟨by decide +kernel, by decide +kernel, by decide +kernel⟩⟩
set_option maxRecDepth 100000 in
theorem cw_X7_217 : q_CV RX7 217 6 yX6_digitAt cX6_digitAt 2 (some .int) 1 := ⟨⟨TX6, 5, q_ok6⟩, Or.inr ⟨"HopBeams", List.mem_of_getElem? (i := 602) (by decide +kernel)⟩, List.mem_of_getElem? (i := 604) (by decide +kernel), List.mem_of_getElem? (i := 29) (by decide +kernel), List.mem_of_getElem? (i := 605) (by decide +kernel), List.mem_of_getElem? (i := 81) (by decide +kernel), ⟨by decide +kernel, by decide +kernel, by decide +kernel⟩⟩
set_option maxRecDepth 100000 in
theorem cw_L_84 : q_CV RL 84 7 yX7_rule cX7_rule 3 (some .int) 1 := ⟨⟨TX7, 11, q_ok7⟩, Or.inl (List.mem_of_getElem? (i := 606) (by decide +kernel)), List.mem_of_getElem? (i := 607) (by decide +kernel), List.mem_of_getElem? (i := 608) (by decide +kernel), List.mem_of_getElem? (i := 609) (by decide +kernel), List.mem_of_getElem? (i := 70) (by decide +kernel), ⟨by decide +kernel, by decide +kernel, by decide +kernel⟩⟩
set_option maxRecDepth 100000 in
theorem cw_L_88 : q_CV RL 88 7 yX7_go cX7_go 3 (some .int) 1 := ⟨⟨TX7, 11, q_ok7⟩, Or.inl (List.mem_of_getElem? (i := 610) (by decide +kernel)), List.mem_of_getElem? (i := 611) (by decide +kernel), List.mem_of_getElem? (i := 612) (by decide +kernel), List.mem_of_getElem? (i := 613) (by decide +kernel), List.mem_of_getElem? (i := 70) (by decide +kernel), ⟨by decide +kernel, by decide +kernel, by decide +kernel⟩⟩
set_option maxRecDepth 100000 in
theorem kw_X7_223 : Cond.constantLong RX7 223 (200) ∈ lw_tbl := List.mem_of_getElem? (i := 614) (by decide +kernel)
set_option maxRecDepth 100000 in
theorem cw_X7_228 : q_CV RX7 228 7 yX7_passSlot cX7_passSlot 1 none 0 := ⟨⟨TX7, 11, q_ok7⟩, Or.inl (List.mem_of_getElem? (i := 615) (by decide +kernel)), List.mem_of_getElem? (i := 617) (by decide +kernel), List.mem_of_getElem? (i := 30) (by decide +kernel), List.mem_of_getElem? (i := 618) (by decide +kernel), List.mem_of_getElem? (i := 70) (by decide +kernel), ⟨by decide +kernel, by decide +kernel, by decide +kernel⟩⟩
set_option maxRecDepth 100000 in
theorem cw_X7_260 : q_CV RX7 260 2 yX2_takeAsked cX2_takeAsked 2 none 0 := ⟨⟨TX2, 8, q_ok2⟩, Or.inr ⟨"HopBeams", List.mem_of_getElem? (i := 619) (by decide +kernel)⟩, List.mem_of_getElem? (i := 621) (by decide +kernel), List.mem_of_getElem? (i := 31) (by decide +kernel), List.mem_of_getElem? (i := 622) (by decide +kernel), List.mem_of_getElem? (i := 71) (by decide +kernel), ⟨by decide +kernel, by decide +kernel, by decide +kernel⟩⟩
set_option maxRecDepth 100000 in
theorem cw_X2_76 : q_CV RX2 76 0 yX0_takeAsked cX0_takeAsked 1 none 0 := ⟨⟨TX0, 16, q_ok0⟩, Or.inr ⟨"HopBeams", List.mem_of_getElem? (i := 623) (by decide +kernel)⟩, List.mem_of_getElem? (i := 625) (by decide +kernel), List.mem_of_getElem? (i := 32) (by decide +kernel), List.mem_of_getElem? (i := 626) (by decide +kernel), List.mem_of_getElem? (i := 76) (by decide +kernel), ⟨by decide +kernel, by decide +kernel, by decide +kernel⟩⟩
set_option maxRecDepth 100000 in
theorem cw_X7_263 : q_CV RX7 263 7 yX7_heaviestSet cX7_heaviestSet 2 (some .int) 0 := ⟨⟨TX7, 11, q_ok7⟩, Or.inl (List.mem_of_getElem? (i := 627) (by decide +kernel)), List.mem_of_getElem? (i := 629) (by decide +kernel), List.mem_of_getElem? (i := 33) (by decide +kernel), List.mem_of_getElem? (i := 630) (by decide +kernel), List.mem_of_getElem? (i := 70) (by decide +kernel), ⟨by decide +kernel, by decide +kernel, by decide +kernel⟩⟩
set_option maxRecDepth 100000 in
theorem cw_X7_277 : q_CV RX7 277 0 yX0_weightIfLit cX0_weightIfLit 1 (some .int) 0 := ⟨⟨TX0, 16, q_ok0⟩, Or.inr ⟨"HopBeams", List.mem_of_getElem? (i := 631) (by decide +kernel)⟩, List.mem_of_getElem? (i := 633) (by decide +kernel), List.mem_of_getElem? (i := 34) (by decide +kernel), List.mem_of_getElem? (i := 634) (by decide +kernel), List.mem_of_getElem? (i := 76) (by decide +kernel), ⟨by decide +kernel, by decide +kernel, by decide +kernel⟩⟩
set_option maxRecDepth 100000 in
theorem cw_X0_41 : q_CV RX0 41 0 yX0_held cX0_held 1 (some .int) 0 := ⟨⟨TX0, 16, q_ok0⟩, Or.inl (List.mem_of_getElem? (i := 635) (by decide +kernel)), List.mem_of_getElem? (i := 637) (by decide +kernel), List.mem_of_getElem? (i := 35) (by decide +kernel), List.mem_of_getElem? (i := 638) (by decide +kernel), List.mem_of_getElem? (i := 76) (by decide +kernel), ⟨by decide +kernel, by decide +kernel, by decide +kernel⟩⟩
set_option maxRecDepth 100000 in
theorem cw_X0_45 : q_CV RX0 45 0 yX0_rateNow cX0_rateNow 1 (some .int) 0 := ⟨⟨TX0, 16, q_ok0⟩, Or.inl (List.mem_of_getElem? (i := 639) (by decide +kernel)), List.mem_of_getElem? (i := 641) (by decide +kernel), List.mem_of_getElem? (i := 36) (by decide +kernel), List.mem_of_getElem? (i := 642) (by decide +kernel), List.mem_of_getElem? (i := 76) (by decide +kernel), ⟨by decide +kernel, by decide +kernel, by decide +kernel⟩⟩
set_option maxRecDepth 100000 in
theorem cw_X0_48 : q_CS RX0 48 yJ9_min_7cf53 cJ9_min_7cf53 2 (some .int) 2 := ⟨Or.inl (List.mem_of_getElem? (i := 643) (by decide +kernel)), List.mem_of_getElem? (i := 402) (by decide +kernel), List.mem_of_getElem? (i := 403) (by decide +kernel), List.mem_of_getElem? (i := 78) (by decide +kernel), ⟨by decide +kernel, by decide +kernel, by decide +kernel⟩⟩
set_option maxRecDepth 100000 in
theorem cw_X7_266 : q_CV RX7 266 7 yX7_setOfFrame cX7_setOfFrame 3 (some .int) 0 := ⟨⟨TX7, 11, q_ok7⟩, Or.inl (List.mem_of_getElem? (i := 644) (by decide +kernel)), List.mem_of_getElem? (i := 646) (by decide +kernel), List.mem_of_getElem? (i := 37) (by decide +kernel), List.mem_of_getElem? (i := 647) (by decide +kernel), List.mem_of_getElem? (i := 70) (by decide +kernel), ⟨by decide +kernel, by decide +kernel, by decide +kernel⟩⟩
set_option maxRecDepth 100000 in
theorem cw_X7_276 : q_CV RX7 276 3 yX3_has cX3_has 2 (some .boolean) 1 := ⟨⟨TX3, 4, q_ok3⟩, Or.inr ⟨"HopBeams", List.mem_of_getElem? (i := 648) (by decide +kernel)⟩, List.mem_of_getElem? (i := 474) (by decide +kernel), List.mem_of_getElem? (i := 15) (by decide +kernel), List.mem_of_getElem? (i := 475) (by decide +kernel), List.mem_of_getElem? (i := 72) (by decide +kernel), ⟨by decide +kernel, by decide +kernel, by decide +kernel⟩⟩
set_option maxRecDepth 100000 in
theorem cw_X7_269 : q_CV RX7 269 2 yX2_serve cX2_serve 4 none 1 := ⟨⟨TX2, 8, q_ok2⟩, Or.inr ⟨"HopBeams", List.mem_of_getElem? (i := 649) (by decide +kernel)⟩, List.mem_of_getElem? (i := 651) (by decide +kernel), List.mem_of_getElem? (i := 38) (by decide +kernel), List.mem_of_getElem? (i := 652) (by decide +kernel), List.mem_of_getElem? (i := 71) (by decide +kernel), ⟨by decide +kernel, by decide +kernel, by decide +kernel⟩⟩
set_option maxRecDepth 100000 in
theorem cw_X2_79 : q_CV RX2 79 0 yX0_send cX0_send 4 none 0 := ⟨⟨TX0, 16, q_ok0⟩, Or.inr ⟨"HopBeams", List.mem_of_getElem? (i := 653) (by decide +kernel)⟩, List.mem_of_getElem? (i := 655) (by decide +kernel), List.mem_of_getElem? (i := 39) (by decide +kernel), List.mem_of_getElem? (i := 656) (by decide +kernel), List.mem_of_getElem? (i := 76) (by decide +kernel), ⟨by decide +kernel, by decide +kernel, by decide +kernel⟩⟩
set_option maxRecDepth 100000 in
theorem cw_X2_82 : q_CV RX2 82 0 yX0_markLight cX0_markLight 2 none 1 := ⟨⟨TX0, 16, q_ok0⟩, Or.inr ⟨"HopBeams", List.mem_of_getElem? (i := 657) (by decide +kernel)⟩, List.mem_of_getElem? (i := 659) (by decide +kernel), List.mem_of_getElem? (i := 40) (by decide +kernel), List.mem_of_getElem? (i := 660) (by decide +kernel), List.mem_of_getElem? (i := 76) (by decide +kernel), ⟨by decide +kernel, by decide +kernel, by decide +kernel⟩⟩
set_option maxRecDepth 100000 in
theorem cw_X0_66 : q_CS RX0 66 yJ9_max_7cf53 cJ9_max_7cf53 2 (some .int) 2 := ⟨Or.inl (List.mem_of_getElem? (i := 661) (by decide +kernel)), List.mem_of_getElem? (i := 662) (by decide +kernel), List.mem_of_getElem? (i := 663) (by decide +kernel), List.mem_of_getElem? (i := 78) (by decide +kernel), ⟨by decide +kernel, by decide +kernel, by decide +kernel⟩⟩
set_option maxRecDepth 100000 in
theorem cw_X2_86 : q_CV RX2 86 0 yX0_growOlder cX0_growOlder 3 none 1 := ⟨⟨TX0, 16, q_ok0⟩, Or.inr ⟨"HopBeams", List.mem_of_getElem? (i := 664) (by decide +kernel)⟩, List.mem_of_getElem? (i := 666) (by decide +kernel), List.mem_of_getElem? (i := 41) (by decide +kernel), List.mem_of_getElem? (i := 667) (by decide +kernel), List.mem_of_getElem? (i := 76) (by decide +kernel), ⟨by decide +kernel, by decide +kernel, by decide +kernel⟩⟩
set_option maxRecDepth 100000 in
theorem cw_X7_273 : q_CV RX7 273 2 yX2_handOn cX2_handOn 3 (some .boolean) 0 := ⟨⟨TX2, 8, q_ok2⟩, Or.inr ⟨"HopBeams", List.mem_of_getElem? (i := 668) (by decide +kernel)⟩, List.mem_of_getElem? (i := 670) (by decide +kernel), List.mem_of_getElem? (i := 42) (by decide +kernel), List.mem_of_getElem? (i := 671) (by decide +kernel), List.mem_of_getElem? (i := 71) (by decide +kernel), ⟨by decide +kernel, by decide +kernel, by decide +kernel⟩⟩
set_option maxRecDepth 100000 in
theorem cw_L_92 : q_CV RL 92 7 yX7_lit cX7_lit 1 (some .int) 0 := ⟨⟨TX7, 11, q_ok7⟩, Or.inl (List.mem_of_getElem? (i := 672) (by decide +kernel)), List.mem_of_getElem? (i := 673) (by decide +kernel), List.mem_of_getElem? (i := 674) (by decide +kernel), List.mem_of_getElem? (i := 675) (by decide +kernel), List.mem_of_getElem? (i := 70) (by decide +kernel), ⟨by decide +kernel, by decide +kernel, by decide +kernel⟩⟩
set_option maxRecDepth 100000 in
theorem cw_L_96 : q_CV RL 96 7 yX7_cellOf cX7_cellOf 3 (some .int) 2 := ⟨⟨TX7, 11, q_ok7⟩, Or.inl (List.mem_of_getElem? (i := 676) (by decide +kernel)), List.mem_of_getElem? (i := 677) (by decide +kernel), List.mem_of_getElem? (i := 678) (by decide +kernel), List.mem_of_getElem? (i := 679) (by decide +kernel), List.mem_of_getElem? (i := 70) (by decide +kernel), ⟨by decide +kernel, by decide +kernel, by decide +kernel⟩⟩
set_option maxRecDepth 100000 in
theorem cw_X7_231 : q_CV RX7 231 0 yX0_tell cX0_tell 2 (some .int) 1 := ⟨⟨TX0, 16, q_ok0⟩, Or.inr ⟨"HopBeams", List.mem_of_getElem? (i := 680) (by decide +kernel)⟩, List.mem_of_getElem? (i := 682) (by decide +kernel), List.mem_of_getElem? (i := 43) (by decide +kernel), List.mem_of_getElem? (i := 683) (by decide +kernel), List.mem_of_getElem? (i := 76) (by decide +kernel), ⟨by decide +kernel, by decide +kernel, by decide +kernel⟩⟩
set_option maxRecDepth 100000 in
theorem cw_X0_69 : q_CV RX0 69 0 yX0_powerNow cX0_powerNow 1 (some .int) 0 := ⟨⟨TX0, 16, q_ok0⟩, Or.inl (List.mem_of_getElem? (i := 684) (by decide +kernel)), List.mem_of_getElem? (i := 386) (by decide +kernel), List.mem_of_getElem? (i := 7) (by decide +kernel), List.mem_of_getElem? (i := 387) (by decide +kernel), List.mem_of_getElem? (i := 76) (by decide +kernel), ⟨by decide +kernel, by decide +kernel, by decide +kernel⟩⟩
set_option maxRecDepth 100000 in
theorem cw_X0_78 : q_CV RX0 78 0 yX0_oldest cX0_oldest 2 (some .int) 0 := ⟨⟨TX0, 16, q_ok0⟩, Or.inl (List.mem_of_getElem? (i := 685) (by decide +kernel)), List.mem_of_getElem? (i := 687) (by decide +kernel), List.mem_of_getElem? (i := 44) (by decide +kernel), List.mem_of_getElem? (i := 688) (by decide +kernel), List.mem_of_getElem? (i := 76) (by decide +kernel), ⟨by decide +kernel, by decide +kernel, by decide +kernel⟩⟩
set_option maxRecDepth 100000 in
theorem cw_L_100 : q_CV RL 100 7 yX7_units cX7_units 3 (some .long) 2 := ⟨⟨TX7, 11, q_ok7⟩, Or.inl (List.mem_of_getElem? (i := 689) (by decide +kernel)), List.mem_of_getElem? (i := 690) (by decide +kernel), List.mem_of_getElem? (i := 691) (by decide +kernel), List.mem_of_getElem? (i := 692) (by decide +kernel), List.mem_of_getElem? (i := 70) (by decide +kernel), ⟨by decide +kernel, by decide +kernel, by decide +kernel⟩⟩
set_option maxRecDepth 100000 in
theorem cw_X7_234 : q_CV RX7 234 0 yX0_tellUnits cX0_tellUnits 2 (some .long) 1 := ⟨⟨TX0, 16, q_ok0⟩, Or.inr ⟨"HopBeams", List.mem_of_getElem? (i := 693) (by decide +kernel)⟩, List.mem_of_getElem? (i := 695) (by decide +kernel), List.mem_of_getElem? (i := 45) (by decide +kernel), List.mem_of_getElem? (i := 696) (by decide +kernel), List.mem_of_getElem? (i := 76) (by decide +kernel), ⟨by decide +kernel, by decide +kernel, by decide +kernel⟩⟩
set_option maxRecDepth 100000 in
theorem kw_X0_84 : Cond.constantLong RX0 84 (-2) ∈ lw_tbl := List.mem_of_getElem? (i := 697) (by decide +kernel)
set_option maxRecDepth 100000 in
theorem kw_X7_238 : Cond.constantLong RX7 238 (-2) ∈ lw_tbl := List.mem_of_getElem? (i := 698) (by decide +kernel)
set_option maxRecDepth 100000 in
theorem cw_L_105 : q_CV RL 105 7 yX7_count cX7_count 2 (some .int) 1 := ⟨⟨TX7, 11, q_ok7⟩, Or.inl (List.mem_of_getElem? (i := 699) (by decide +kernel)), List.mem_of_getElem? (i := 700) (by decide +kernel), List.mem_of_getElem? (i := 701) (by decide +kernel), List.mem_of_getElem? (i := 702) (by decide +kernel), List.mem_of_getElem? (i := 70) (by decide +kernel), ⟨by decide +kernel, by decide +kernel, by decide +kernel⟩⟩
set_option maxRecDepth 100000 in
theorem cw_X7_240 : q_CV RX7 240 5 yX5_placesWithRow cX5_placesWithRow 3 (some .int) 0 := ⟨⟨TX5, 3, q_ok5⟩, Or.inr ⟨"HopBeams", List.mem_of_getElem? (i := 703) (by decide +kernel)⟩, List.mem_of_getElem? (i := 705) (by decide +kernel), List.mem_of_getElem? (i := 46) (by decide +kernel), List.mem_of_getElem? (i := 706) (by decide +kernel), List.mem_of_getElem? (i := 73) (by decide +kernel), ⟨by decide +kernel, by decide +kernel, by decide +kernel⟩⟩
set_option maxRecDepth 100000 in
theorem cw_L_109 : q_CV RL 109 7 yX7_gatewayOf cX7_gatewayOf 3 (some .int) 2 := ⟨⟨TX7, 11, q_ok7⟩, Or.inl (List.mem_of_getElem? (i := 707) (by decide +kernel)), List.mem_of_getElem? (i := 708) (by decide +kernel), List.mem_of_getElem? (i := 709) (by decide +kernel), List.mem_of_getElem? (i := 710) (by decide +kernel), List.mem_of_getElem? (i := 70) (by decide +kernel), ⟨by decide +kernel, by decide +kernel, by decide +kernel⟩⟩
set_option maxRecDepth 100000 in
theorem cw_X7_243 : q_CV RX7 243 2 yX2_cellsOf cX2_cellsOf 4 (some .int) 1 := ⟨⟨TX2, 8, q_ok2⟩, Or.inr ⟨"HopBeams", List.mem_of_getElem? (i := 711) (by decide +kernel)⟩, List.mem_of_getElem? (i := 713) (by decide +kernel), List.mem_of_getElem? (i := 47) (by decide +kernel), List.mem_of_getElem? (i := 714) (by decide +kernel), List.mem_of_getElem? (i := 71) (by decide +kernel), ⟨by decide +kernel, by decide +kernel, by decide +kernel⟩⟩
set_option maxRecDepth 100000 in
theorem cw_L_113 : q_CV RL 113 7 yX7_row cX7_row 4 (some .int) 3 := ⟨⟨TX7, 11, q_ok7⟩, Or.inl (List.mem_of_getElem? (i := 715) (by decide +kernel)), List.mem_of_getElem? (i := 716) (by decide +kernel), List.mem_of_getElem? (i := 717) (by decide +kernel), List.mem_of_getElem? (i := 718) (by decide +kernel), List.mem_of_getElem? (i := 70) (by decide +kernel), ⟨by decide +kernel, by decide +kernel, by decide +kernel⟩⟩
set_option maxRecDepth 100000 in
theorem cw_X7_246 : q_CV RX7 246 5 yX5_lay cX5_lay 4 (some .int) 3 := ⟨⟨TX5, 3, q_ok5⟩, Or.inr ⟨"HopBeams", List.mem_of_getElem? (i := 719) (by decide +kernel)⟩, List.mem_of_getElem? (i := 721) (by decide +kernel), List.mem_of_getElem? (i := 48) (by decide +kernel), List.mem_of_getElem? (i := 722) (by decide +kernel), List.mem_of_getElem? (i := 73) (by decide +kernel), ⟨by decide +kernel, by decide +kernel, by decide +kernel⟩⟩
set_option maxRecDepth 100000 in
theorem kw_X5_43 : Cond.constantLong RX5 43 (3) ∈ lw_tbl := List.mem_of_getElem? (i := 723) (by decide +kernel)
set_option maxRecDepth 100000 in
theorem cw_X5_45 : q_CS RX5 45 yJ7_fill_d0a16 cJ7_fill_d0a16 5 none 2 := ⟨Or.inl (List.mem_of_getElem? (i := 724) (by decide +kernel)), List.mem_of_getElem? (i := 568) (by decide +kernel), List.mem_of_getElem? (i := 569) (by decide +kernel), List.mem_of_getElem? (i := 80) (by decide +kernel), ⟨by decide +kernel, by decide +kernel, by decide +kernel⟩⟩
set_option maxRecDepth 100000 in
theorem cw_L_118 : q_CV RL 118 7 yX7_tear cX7_tear 2 (some .boolean) 1 := ⟨⟨TX7, 11, q_ok7⟩, Or.inl (List.mem_of_getElem? (i := 725) (by decide +kernel)), List.mem_of_getElem? (i := 726) (by decide +kernel), List.mem_of_getElem? (i := 727) (by decide +kernel), List.mem_of_getElem? (i := 728) (by decide +kernel), List.mem_of_getElem? (i := 70) (by decide +kernel), ⟨by decide +kernel, by decide +kernel, by decide +kernel⟩⟩
set_option maxRecDepth 100000 in
theorem cw_X7_249 : q_CV RX7 249 5 yX5_clear cX5_clear 2 (some .boolean) 1 := ⟨⟨TX5, 3, q_ok5⟩, Or.inr ⟨"HopBeams", List.mem_of_getElem? (i := 729) (by decide +kernel)⟩, List.mem_of_getElem? (i := 731) (by decide +kernel), List.mem_of_getElem? (i := 49) (by decide +kernel), List.mem_of_getElem? (i := 732) (by decide +kernel), List.mem_of_getElem? (i := 73) (by decide +kernel), ⟨by decide +kernel, by decide +kernel, by decide +kernel⟩⟩
set_option maxRecDepth 100000 in
theorem cw_L_125 : q_CV RL 125 7 yX7_write cX7_write 5 (some .int) 3 := ⟨⟨TX7, 11, q_ok7⟩, Or.inl (List.mem_of_getElem? (i := 733) (by decide +kernel)), List.mem_of_getElem? (i := 734) (by decide +kernel), List.mem_of_getElem? (i := 735) (by decide +kernel), List.mem_of_getElem? (i := 736) (by decide +kernel), List.mem_of_getElem? (i := 70) (by decide +kernel), ⟨by decide +kernel, by decide +kernel, by decide +kernel⟩⟩
set_option maxRecDepth 100000 in
theorem cw_X7_252 : q_CV RX7 252 5 yX5_put cX5_put 5 (some .int) 3 := ⟨⟨TX5, 3, q_ok5⟩, Or.inr ⟨"HopBeams", List.mem_of_getElem? (i := 737) (by decide +kernel)⟩, List.mem_of_getElem? (i := 739) (by decide +kernel), List.mem_of_getElem? (i := 50) (by decide +kernel), List.mem_of_getElem? (i := 740) (by decide +kernel), List.mem_of_getElem? (i := 73) (by decide +kernel), ⟨by decide +kernel, by decide +kernel, by decide +kernel⟩⟩
set_option maxRecDepth 100000 in
theorem cw_X5_51 : q_CS RX5 51 yX5_cut cX5_cut 3 (some .long) 2 := ⟨Or.inl (List.mem_of_getElem? (i := 741) (by decide +kernel)), List.mem_of_getElem? (i := 742) (by decide +kernel), List.mem_of_getElem? (i := 743) (by decide +kernel), List.mem_of_getElem? (i := 73) (by decide +kernel), ⟨by decide +kernel, by decide +kernel, by decide +kernel⟩⟩
set_option maxRecDepth 100000 in
theorem cw_L_130 : q_CV RL 130 7 yX7_paste cX7_paste 6 (some .int) 5 := ⟨⟨TX7, 11, q_ok7⟩, Or.inl (List.mem_of_getElem? (i := 744) (by decide +kernel)), List.mem_of_getElem? (i := 745) (by decide +kernel), List.mem_of_getElem? (i := 746) (by decide +kernel), List.mem_of_getElem? (i := 747) (by decide +kernel), List.mem_of_getElem? (i := 70) (by decide +kernel), ⟨by decide +kernel, by decide +kernel, by decide +kernel⟩⟩
set_option maxRecDepth 100000 in
theorem cw_X7_256 : q_CV RX7 256 5 yX5_copy cX5_copy 6 (some .int) 5 := ⟨⟨TX5, 3, q_ok5⟩, Or.inr ⟨"HopBeams", List.mem_of_getElem? (i := 748) (by decide +kernel)⟩, List.mem_of_getElem? (i := 750) (by decide +kernel), List.mem_of_getElem? (i := 51) (by decide +kernel), List.mem_of_getElem? (i := 751) (by decide +kernel), List.mem_of_getElem? (i := 73) (by decide +kernel), ⟨by decide +kernel, by decide +kernel, by decide +kernel⟩⟩
set_option maxRecDepth 100000 in
theorem wl_X5_55 : Cond.methodLink RX5 55 arraycopyName ∈ lw_tbl := List.mem_of_getElem? (i := 752) (by decide +kernel)
set_option maxRecDepth 100000 in
theorem kl_L_10 : Cond.classLink RL 10 RX8 ∈ lw_tbl := List.mem_of_getElem? (i := 755) (by decide +kernel)
set_option maxRecDepth 100000 in
theorem in_X8 : Cond.instantiable RX8 48 ∈ lw_tbl := List.mem_of_getElem? (i := 756) (by decide +kernel)
set_option maxRecDepth 100000 in
theorem cw_L_12 : q_CI RL 12 yX8_init cX8_init 1 0 := ⟨Or.inl (List.mem_of_getElem? (i := 757) (by decide +kernel)), rfl, List.mem_of_getElem? (i := 758) (by decide +kernel), List.mem_of_getElem? (i := 759) (by decide +kernel), List.mem_of_getElem? (i := 75) (by decide +kernel), ⟨by decide +kernel, by decide +kernel, by decide +kernel⟩⟩
set_option maxRecDepth 100000 in
theorem wl_X8_1 : Cond.methodLink RX8 1 objectInit ∈ lw_tbl := List.mem_of_getElem? (i := 760) (by decide +kernel)
set_option maxRecDepth 100000 in
theorem kw_X8_97 : Cond.constant RX8 97 (50000) ∈ lw_tbl := List.mem_of_getElem? (i := 761) (by decide +kernel)
set_option maxRecDepth 100000 in
theorem fl_X8_137 : q_FL RX8 137 8 0 := ⟨RX8, TX8, 48, q_ok8, by decide, rfl, Or.inl (List.mem_of_getElem? (i := 762) (by decide +kernel))⟩
theorem fw_X8_137 : q_FW RX8 137 8 0 := ⟨RX8, TX8, 48, q_ok8, by decide, rfl, rfl, (by obtain ⟨C, T, N, o1, o2, o3, o4⟩ := fl_X8_137; have e := Option.some.inj (o1.1.symm.trans q_ok8.1); cases e; exact o4)⟩
set_option maxRecDepth 100000 in
theorem fl_X8_9 : q_FL RX8 9 8 1 := ⟨RX8, TX8, 48, q_ok8, by decide, rfl, Or.inl (List.mem_of_getElem? (i := 763) (by decide +kernel))⟩
set_option maxRecDepth 100000 in
theorem ff_X8_9 : q_FF RX8 9 8 1 := ⟨RX8, TX8, 48, q_ok8, by decide, rfl, rfl, rfl, List.mem_of_getElem? (i := 763) (by decide +kernel)⟩
set_option maxRecDepth 100000 in
theorem fl_X8_13 : q_FL RX8 13 8 2 := ⟨RX8, TX8, 48, q_ok8, by decide, rfl, Or.inl (List.mem_of_getElem? (i := 764) (by decide +kernel))⟩
set_option maxRecDepth 100000 in
theorem ff_X8_13 : q_FF RX8 13 8 2 := ⟨RX8, TX8, 48, q_ok8, by decide, rfl, rfl, rfl, List.mem_of_getElem? (i := 764) (by decide +kernel)⟩
set_option maxRecDepth 100000 in
theorem fl_X8_16 : q_FL RX8 16 8 3 := ⟨RX8, TX8, 48, q_ok8, by decide, rfl, Or.inl (List.mem_of_getElem? (i := 765) (by decide +kernel))⟩
set_option maxRecDepth 100000 in
theorem ff_X8_16 : q_FF RX8 16 8 3 := ⟨RX8, TX8, 48, q_ok8, by decide, rfl, rfl, rfl, List.mem_of_getElem? (i := 765) (by decide +kernel)⟩
set_option maxRecDepth 100000 in
theorem fl_X8_20 : q_FL RX8 20 8 4 := ⟨RX8, TX8, 48, q_ok8, by decide, rfl, Or.inl (List.mem_of_getElem? (i := 766) (by decide +kernel))⟩
set_option maxRecDepth 100000 in
theorem ff_X8_20 : q_FF RX8 20 8 4 := ⟨RX8, TX8, 48, q_ok8, by decide, rfl, rfl, rfl, List.mem_of_getElem? (i := 766) (by decide +kernel)⟩
set_option maxRecDepth 100000 in
theorem fl_X8_154 : q_FL RX8 154 8 5 := ⟨RX8, TX8, 48, q_ok8, by decide, rfl, Or.inl (List.mem_of_getElem? (i := 767) (by decide +kernel))⟩
theorem fw_X8_154 : q_FW RX8 154 8 5 := ⟨RX8, TX8, 48, q_ok8, by decide, rfl, rfl, (by obtain ⟨C, T, N, o1, o2, o3, o4⟩ := fl_X8_154; have e := Option.some.inj (o1.1.symm.trans q_ok8.1); cases e; exact o4)⟩
set_option maxRecDepth 100000 in
theorem fl_X8_23 : q_FL RX8 23 8 6 := ⟨RX8, TX8, 48, q_ok8, by decide, rfl, Or.inl (List.mem_of_getElem? (i := 768) (by decide +kernel))⟩
theorem fw_X8_23 : q_FW RX8 23 8 6 := ⟨RX8, TX8, 48, q_ok8, by decide, rfl, rfl, (by obtain ⟨C, T, N, o1, o2, o3, o4⟩ := fl_X8_23; have e := Option.some.inj (o1.1.symm.trans q_ok8.1); cases e; exact o4)⟩
set_option maxRecDepth 100000 in
theorem fl_X8_27 : q_FL RX8 27 8 7 := ⟨RX8, TX8, 48, q_ok8, by decide, rfl, Or.inl (List.mem_of_getElem? (i := 769) (by decide +kernel))⟩
theorem fw_X8_27 : q_FW RX8 27 8 7 := ⟨RX8, TX8, 48, q_ok8, by decide, rfl, rfl, (by obtain ⟨C, T, N, o1, o2, o3, o4⟩ := fl_X8_27; have e := Option.some.inj (o1.1.symm.trans q_ok8.1); cases e; exact o4)⟩
set_option maxRecDepth 100000 in
theorem fl_X8_30 : q_FL RX8 30 8 8 := ⟨RX8, TX8, 48, q_ok8, by decide, rfl, Or.inl (List.mem_of_getElem? (i := 770) (by decide +kernel))⟩
theorem fw_X8_30 : q_FW RX8 30 8 8 := ⟨RX8, TX8, 48, q_ok8, by decide, rfl, rfl, (by obtain ⟨C, T, N, o1, o2, o3, o4⟩ := fl_X8_30; have e := Option.some.inj (o1.1.symm.trans q_ok8.1); cases e; exact o4)⟩
set_option maxRecDepth 100000 in
theorem fl_X8_33 : q_FL RX8 33 8 9 := ⟨RX8, TX8, 48, q_ok8, by decide, rfl, Or.inl (List.mem_of_getElem? (i := 771) (by decide +kernel))⟩
theorem fw_X8_33 : q_FW RX8 33 8 9 := ⟨RX8, TX8, 48, q_ok8, by decide, rfl, rfl, (by obtain ⟨C, T, N, o1, o2, o3, o4⟩ := fl_X8_33; have e := Option.some.inj (o1.1.symm.trans q_ok8.1); cases e; exact o4)⟩
set_option maxRecDepth 100000 in
theorem fl_X8_253 : q_FL RX8 253 8 10 := ⟨RX8, TX8, 48, q_ok8, by decide, rfl, Or.inl (List.mem_of_getElem? (i := 772) (by decide +kernel))⟩
theorem fw_X8_253 : q_FW RX8 253 8 10 := ⟨RX8, TX8, 48, q_ok8, by decide, rfl, rfl, (by obtain ⟨C, T, N, o1, o2, o3, o4⟩ := fl_X8_253; have e := Option.some.inj (o1.1.symm.trans q_ok8.1); cases e; exact o4)⟩
set_option maxRecDepth 100000 in
theorem fl_X8_250 : q_FL RX8 250 8 11 := ⟨RX8, TX8, 48, q_ok8, by decide, rfl, Or.inl (List.mem_of_getElem? (i := 773) (by decide +kernel))⟩
theorem fw_X8_250 : q_FW RX8 250 8 11 := ⟨RX8, TX8, 48, q_ok8, by decide, rfl, rfl, (by obtain ⟨C, T, N, o1, o2, o3, o4⟩ := fl_X8_250; have e := Option.some.inj (o1.1.symm.trans q_ok8.1); cases e; exact o4)⟩
set_option maxRecDepth 100000 in
theorem fl_X8_36 : q_FL RX8 36 8 12 := ⟨RX8, TX8, 48, q_ok8, by decide, rfl, Or.inl (List.mem_of_getElem? (i := 774) (by decide +kernel))⟩
theorem fw_X8_36 : q_FW RX8 36 8 12 := ⟨RX8, TX8, 48, q_ok8, by decide, rfl, rfl, (by obtain ⟨C, T, N, o1, o2, o3, o4⟩ := fl_X8_36; have e := Option.some.inj (o1.1.symm.trans q_ok8.1); cases e; exact o4)⟩
set_option maxRecDepth 100000 in
theorem fl_X8_199 : q_FL RX8 199 8 13 := ⟨RX8, TX8, 48, q_ok8, by decide, rfl, Or.inl (List.mem_of_getElem? (i := 775) (by decide +kernel))⟩
theorem fw_X8_199 : q_FW RX8 199 8 13 := ⟨RX8, TX8, 48, q_ok8, by decide, rfl, rfl, (by obtain ⟨C, T, N, o1, o2, o3, o4⟩ := fl_X8_199; have e := Option.some.inj (o1.1.symm.trans q_ok8.1); cases e; exact o4)⟩
set_option maxRecDepth 100000 in
theorem fl_X8_196 : q_FL RX8 196 8 14 := ⟨RX8, TX8, 48, q_ok8, by decide, rfl, Or.inl (List.mem_of_getElem? (i := 776) (by decide +kernel))⟩
theorem fw_X8_196 : q_FW RX8 196 8 14 := ⟨RX8, TX8, 48, q_ok8, by decide, rfl, rfl, (by obtain ⟨C, T, N, o1, o2, o3, o4⟩ := fl_X8_196; have e := Option.some.inj (o1.1.symm.trans q_ok8.1); cases e; exact o4)⟩
set_option maxRecDepth 100000 in
theorem fl_X8_39 : q_FL RX8 39 8 15 := ⟨RX8, TX8, 48, q_ok8, by decide, rfl, Or.inl (List.mem_of_getElem? (i := 777) (by decide +kernel))⟩
set_option maxRecDepth 100000 in
theorem ff_X8_39 : q_FF RX8 39 8 15 := ⟨RX8, TX8, 48, q_ok8, by decide, rfl, rfl, rfl, List.mem_of_getElem? (i := 777) (by decide +kernel)⟩
set_option maxRecDepth 100000 in
theorem fl_X8_42 : q_FL RX8 42 8 16 := ⟨RX8, TX8, 48, q_ok8, by decide, rfl, Or.inl (List.mem_of_getElem? (i := 778) (by decide +kernel))⟩
set_option maxRecDepth 100000 in
theorem ff_X8_42 : q_FF RX8 42 8 16 := ⟨RX8, TX8, 48, q_ok8, by decide, rfl, rfl, rfl, List.mem_of_getElem? (i := 778) (by decide +kernel)⟩
set_option maxRecDepth 100000 in
theorem fl_X8_45 : q_FL RX8 45 8 17 := ⟨RX8, TX8, 48, q_ok8, by decide, rfl, Or.inl (List.mem_of_getElem? (i := 779) (by decide +kernel))⟩
set_option maxRecDepth 100000 in
theorem ff_X8_45 : q_FF RX8 45 8 17 := ⟨RX8, TX8, 48, q_ok8, by decide, rfl, rfl, rfl, List.mem_of_getElem? (i := 779) (by decide +kernel)⟩
set_option maxRecDepth 100000 in
theorem fl_X8_48 : q_FL RX8 48 8 18 := ⟨RX8, TX8, 48, q_ok8, by decide, rfl, Or.inl (List.mem_of_getElem? (i := 780) (by decide +kernel))⟩
set_option maxRecDepth 100000 in
theorem ff_X8_48 : q_FF RX8 48 8 18 := ⟨RX8, TX8, 48, q_ok8, by decide, rfl, rfl, rfl, List.mem_of_getElem? (i := 780) (by decide +kernel)⟩
set_option maxRecDepth 100000 in
theorem fl_X8_51 : q_FL RX8 51 8 19 := ⟨RX8, TX8, 48, q_ok8, by decide, rfl, Or.inl (List.mem_of_getElem? (i := 781) (by decide +kernel))⟩
set_option maxRecDepth 100000 in
theorem ff_X8_51 : q_FF RX8 51 8 19 := ⟨RX8, TX8, 48, q_ok8, by decide, rfl, rfl, rfl, List.mem_of_getElem? (i := 781) (by decide +kernel)⟩
set_option maxRecDepth 100000 in
theorem fl_X8_54 : q_FL RX8 54 8 20 := ⟨RX8, TX8, 48, q_ok8, by decide, rfl, Or.inl (List.mem_of_getElem? (i := 782) (by decide +kernel))⟩
set_option maxRecDepth 100000 in
theorem ff_X8_54 : q_FF RX8 54 8 20 := ⟨RX8, TX8, 48, q_ok8, by decide, rfl, rfl, rfl, List.mem_of_getElem? (i := 782) (by decide +kernel)⟩
set_option maxRecDepth 100000 in
theorem fl_X8_57 : q_FL RX8 57 8 21 := ⟨RX8, TX8, 48, q_ok8, by decide, rfl, Or.inl (List.mem_of_getElem? (i := 783) (by decide +kernel))⟩
set_option maxRecDepth 100000 in
theorem ff_X8_57 : q_FF RX8 57 8 21 := ⟨RX8, TX8, 48, q_ok8, by decide, rfl, rfl, rfl, List.mem_of_getElem? (i := 783) (by decide +kernel)⟩
set_option maxRecDepth 100000 in
theorem fl_X8_60 : q_FL RX8 60 8 22 := ⟨RX8, TX8, 48, q_ok8, by decide, rfl, Or.inl (List.mem_of_getElem? (i := 784) (by decide +kernel))⟩
set_option maxRecDepth 100000 in
theorem ff_X8_60 : q_FF RX8 60 8 22 := ⟨RX8, TX8, 48, q_ok8, by decide, rfl, rfl, rfl, List.mem_of_getElem? (i := 784) (by decide +kernel)⟩
set_option maxRecDepth 100000 in
theorem fl_X8_63 : q_FL RX8 63 8 23 := ⟨RX8, TX8, 48, q_ok8, by decide, rfl, Or.inl (List.mem_of_getElem? (i := 785) (by decide +kernel))⟩
set_option maxRecDepth 100000 in
theorem ff_X8_63 : q_FF RX8 63 8 23 := ⟨RX8, TX8, 48, q_ok8, by decide, rfl, rfl, rfl, List.mem_of_getElem? (i := 785) (by decide +kernel)⟩
set_option maxRecDepth 100000 in
theorem fl_X8_66 : q_FL RX8 66 8 24 := ⟨RX8, TX8, 48, q_ok8, by decide, rfl, Or.inl (List.mem_of_getElem? (i := 786) (by decide +kernel))⟩
set_option maxRecDepth 100000 in
theorem ff_X8_66 : q_FF RX8 66 8 24 := ⟨RX8, TX8, 48, q_ok8, by decide, rfl, rfl, rfl, List.mem_of_getElem? (i := 786) (by decide +kernel)⟩
set_option maxRecDepth 100000 in
theorem fl_X8_69 : q_FL RX8 69 8 25 := ⟨RX8, TX8, 48, q_ok8, by decide, rfl, Or.inl (List.mem_of_getElem? (i := 787) (by decide +kernel))⟩
set_option maxRecDepth 100000 in
theorem ff_X8_69 : q_FF RX8 69 8 25 := ⟨RX8, TX8, 48, q_ok8, by decide, rfl, rfl, rfl, List.mem_of_getElem? (i := 787) (by decide +kernel)⟩
set_option maxRecDepth 100000 in
theorem fl_X8_72 : q_FL RX8 72 8 26 := ⟨RX8, TX8, 48, q_ok8, by decide, rfl, Or.inl (List.mem_of_getElem? (i := 788) (by decide +kernel))⟩
set_option maxRecDepth 100000 in
theorem ff_X8_72 : q_FF RX8 72 8 26 := ⟨RX8, TX8, 48, q_ok8, by decide, rfl, rfl, rfl, List.mem_of_getElem? (i := 788) (by decide +kernel)⟩
set_option maxRecDepth 100000 in
theorem fl_X8_75 : q_FL RX8 75 8 27 := ⟨RX8, TX8, 48, q_ok8, by decide, rfl, Or.inl (List.mem_of_getElem? (i := 789) (by decide +kernel))⟩
set_option maxRecDepth 100000 in
theorem ff_X8_75 : q_FF RX8 75 8 27 := ⟨RX8, TX8, 48, q_ok8, by decide, rfl, rfl, rfl, List.mem_of_getElem? (i := 789) (by decide +kernel)⟩
set_option maxRecDepth 100000 in
theorem fl_X8_78 : q_FL RX8 78 8 28 := ⟨RX8, TX8, 48, q_ok8, by decide, rfl, Or.inl (List.mem_of_getElem? (i := 790) (by decide +kernel))⟩
set_option maxRecDepth 100000 in
theorem ff_X8_78 : q_FF RX8 78 8 28 := ⟨RX8, TX8, 48, q_ok8, by decide, rfl, rfl, rfl, List.mem_of_getElem? (i := 790) (by decide +kernel)⟩
set_option maxRecDepth 100000 in
theorem fl_X8_82 : q_FL RX8 82 8 29 := ⟨RX8, TX8, 48, q_ok8, by decide, rfl, Or.inl (List.mem_of_getElem? (i := 791) (by decide +kernel))⟩
set_option maxRecDepth 100000 in
theorem ff_X8_82 : q_FF RX8 82 8 29 := ⟨RX8, TX8, 48, q_ok8, by decide, rfl, rfl, rfl, List.mem_of_getElem? (i := 791) (by decide +kernel)⟩
set_option maxRecDepth 100000 in
theorem fl_X8_85 : q_FL RX8 85 8 30 := ⟨RX8, TX8, 48, q_ok8, by decide, rfl, Or.inl (List.mem_of_getElem? (i := 792) (by decide +kernel))⟩
set_option maxRecDepth 100000 in
theorem ff_X8_85 : q_FF RX8 85 8 30 := ⟨RX8, TX8, 48, q_ok8, by decide, rfl, rfl, rfl, List.mem_of_getElem? (i := 792) (by decide +kernel)⟩
set_option maxRecDepth 100000 in
theorem fl_X8_88 : q_FL RX8 88 8 31 := ⟨RX8, TX8, 48, q_ok8, by decide, rfl, Or.inl (List.mem_of_getElem? (i := 793) (by decide +kernel))⟩
set_option maxRecDepth 100000 in
theorem ff_X8_88 : q_FF RX8 88 8 31 := ⟨RX8, TX8, 48, q_ok8, by decide, rfl, rfl, rfl, List.mem_of_getElem? (i := 793) (by decide +kernel)⟩
set_option maxRecDepth 100000 in
theorem fl_X8_91 : q_FL RX8 91 8 32 := ⟨RX8, TX8, 48, q_ok8, by decide, rfl, Or.inl (List.mem_of_getElem? (i := 794) (by decide +kernel))⟩
set_option maxRecDepth 100000 in
theorem ff_X8_91 : q_FF RX8 91 8 32 := ⟨RX8, TX8, 48, q_ok8, by decide, rfl, rfl, rfl, List.mem_of_getElem? (i := 794) (by decide +kernel)⟩
set_option maxRecDepth 100000 in
theorem fl_X8_94 : q_FL RX8 94 8 33 := ⟨RX8, TX8, 48, q_ok8, by decide, rfl, Or.inl (List.mem_of_getElem? (i := 795) (by decide +kernel))⟩
set_option maxRecDepth 100000 in
theorem ff_X8_94 : q_FF RX8 94 8 33 := ⟨RX8, TX8, 48, q_ok8, by decide, rfl, rfl, rfl, List.mem_of_getElem? (i := 795) (by decide +kernel)⟩
set_option maxRecDepth 100000 in
theorem fl_X8_98 : q_FL RX8 98 8 34 := ⟨RX8, TX8, 48, q_ok8, by decide, rfl, Or.inl (List.mem_of_getElem? (i := 796) (by decide +kernel))⟩
set_option maxRecDepth 100000 in
theorem ff_X8_98 : q_FF RX8 98 8 34 := ⟨RX8, TX8, 48, q_ok8, by decide, rfl, rfl, rfl, List.mem_of_getElem? (i := 796) (by decide +kernel)⟩
set_option maxRecDepth 100000 in
theorem fl_X8_101 : q_FL RX8 101 8 35 := ⟨RX8, TX8, 48, q_ok8, by decide, rfl, Or.inl (List.mem_of_getElem? (i := 797) (by decide +kernel))⟩
set_option maxRecDepth 100000 in
theorem ff_X8_101 : q_FF RX8 101 8 35 := ⟨RX8, TX8, 48, q_ok8, by decide, rfl, rfl, rfl, List.mem_of_getElem? (i := 797) (by decide +kernel)⟩
set_option maxRecDepth 100000 in
theorem fl_X8_104 : q_FL RX8 104 8 36 := ⟨RX8, TX8, 48, q_ok8, by decide, rfl, Or.inl (List.mem_of_getElem? (i := 798) (by decide +kernel))⟩
set_option maxRecDepth 100000 in
theorem ff_X8_104 : q_FF RX8 104 8 36 := ⟨RX8, TX8, 48, q_ok8, by decide, rfl, rfl, rfl, List.mem_of_getElem? (i := 798) (by decide +kernel)⟩
set_option maxRecDepth 100000 in
theorem fl_X8_107 : q_FL RX8 107 8 37 := ⟨RX8, TX8, 48, q_ok8, by decide, rfl, Or.inl (List.mem_of_getElem? (i := 799) (by decide +kernel))⟩
set_option maxRecDepth 100000 in
theorem ff_X8_107 : q_FF RX8 107 8 37 := ⟨RX8, TX8, 48, q_ok8, by decide, rfl, rfl, rfl, List.mem_of_getElem? (i := 799) (by decide +kernel)⟩
set_option maxRecDepth 100000 in
theorem fl_X8_110 : q_FL RX8 110 8 38 := ⟨RX8, TX8, 48, q_ok8, by decide, rfl, Or.inl (List.mem_of_getElem? (i := 800) (by decide +kernel))⟩
set_option maxRecDepth 100000 in
theorem ff_X8_110 : q_FF RX8 110 8 38 := ⟨RX8, TX8, 48, q_ok8, by decide, rfl, rfl, rfl, List.mem_of_getElem? (i := 800) (by decide +kernel)⟩
set_option maxRecDepth 100000 in
theorem fl_X8_113 : q_FL RX8 113 8 39 := ⟨RX8, TX8, 48, q_ok8, by decide, rfl, Or.inl (List.mem_of_getElem? (i := 801) (by decide +kernel))⟩
set_option maxRecDepth 100000 in
theorem ff_X8_113 : q_FF RX8 113 8 39 := ⟨RX8, TX8, 48, q_ok8, by decide, rfl, rfl, rfl, List.mem_of_getElem? (i := 801) (by decide +kernel)⟩
set_option maxRecDepth 100000 in
theorem fl_X8_116 : q_FL RX8 116 8 40 := ⟨RX8, TX8, 48, q_ok8, by decide, rfl, Or.inl (List.mem_of_getElem? (i := 802) (by decide +kernel))⟩
set_option maxRecDepth 100000 in
theorem ff_X8_116 : q_FF RX8 116 8 40 := ⟨RX8, TX8, 48, q_ok8, by decide, rfl, rfl, rfl, List.mem_of_getElem? (i := 802) (by decide +kernel)⟩
set_option maxRecDepth 100000 in
theorem fl_X8_119 : q_FL RX8 119 8 41 := ⟨RX8, TX8, 48, q_ok8, by decide, rfl, Or.inl (List.mem_of_getElem? (i := 803) (by decide +kernel))⟩
set_option maxRecDepth 100000 in
theorem ff_X8_119 : q_FF RX8 119 8 41 := ⟨RX8, TX8, 48, q_ok8, by decide, rfl, rfl, rfl, List.mem_of_getElem? (i := 803) (by decide +kernel)⟩
set_option maxRecDepth 100000 in
theorem fl_X8_122 : q_FL RX8 122 8 42 := ⟨RX8, TX8, 48, q_ok8, by decide, rfl, Or.inl (List.mem_of_getElem? (i := 804) (by decide +kernel))⟩
set_option maxRecDepth 100000 in
theorem ff_X8_122 : q_FF RX8 122 8 42 := ⟨RX8, TX8, 48, q_ok8, by decide, rfl, rfl, rfl, List.mem_of_getElem? (i := 804) (by decide +kernel)⟩
set_option maxRecDepth 100000 in
theorem fl_X8_125 : q_FL RX8 125 8 43 := ⟨RX8, TX8, 48, q_ok8, by decide, rfl, Or.inl (List.mem_of_getElem? (i := 805) (by decide +kernel))⟩
set_option maxRecDepth 100000 in
theorem ff_X8_125 : q_FF RX8 125 8 43 := ⟨RX8, TX8, 48, q_ok8, by decide, rfl, rfl, rfl, List.mem_of_getElem? (i := 805) (by decide +kernel)⟩
set_option maxRecDepth 100000 in
theorem fl_X8_128 : q_FL RX8 128 8 44 := ⟨RX8, TX8, 48, q_ok8, by decide, rfl, Or.inl (List.mem_of_getElem? (i := 806) (by decide +kernel))⟩
set_option maxRecDepth 100000 in
theorem ff_X8_128 : q_FF RX8 128 8 44 := ⟨RX8, TX8, 48, q_ok8, by decide, rfl, rfl, rfl, List.mem_of_getElem? (i := 806) (by decide +kernel)⟩
set_option maxRecDepth 100000 in
theorem fl_X8_131 : q_FL RX8 131 8 45 := ⟨RX8, TX8, 48, q_ok8, by decide, rfl, Or.inl (List.mem_of_getElem? (i := 807) (by decide +kernel))⟩
set_option maxRecDepth 100000 in
theorem ff_X8_131 : q_FF RX8 131 8 45 := ⟨RX8, TX8, 48, q_ok8, by decide, rfl, rfl, rfl, List.mem_of_getElem? (i := 807) (by decide +kernel)⟩
set_option maxRecDepth 100000 in
theorem fl_X8_246 : q_FL RX8 246 8 46 := ⟨RX8, TX8, 48, q_ok8, by decide, rfl, Or.inl (List.mem_of_getElem? (i := 808) (by decide +kernel))⟩
theorem fw_X8_246 : q_FW RX8 246 8 46 := ⟨RX8, TX8, 48, q_ok8, by decide, rfl, rfl, (by obtain ⟨C, T, N, o1, o2, o3, o4⟩ := fl_X8_246; have e := Option.some.inj (o1.1.symm.trans q_ok8.1); cases e; exact o4)⟩
set_option maxRecDepth 100000 in
theorem fl_X8_134 : q_FL RX8 134 8 47 := ⟨RX8, TX8, 48, q_ok8, by decide, rfl, Or.inl (List.mem_of_getElem? (i := 809) (by decide +kernel))⟩
set_option maxRecDepth 100000 in
theorem ff_X8_134 : q_FF RX8 134 8 47 := ⟨RX8, TX8, 48, q_ok8, by decide, rfl, rfl, rfl, List.mem_of_getElem? (i := 809) (by decide +kernel)⟩
set_option maxRecDepth 100000 in
theorem cw_L_117 : q_CV RL 117 8 yX8_row cX8_row 5 (some .int) 3 := ⟨⟨TX8, 48, q_ok8⟩, Or.inl (List.mem_of_getElem? (i := 907) (by decide +kernel)), List.mem_of_getElem? (i := 908) (by decide +kernel), List.mem_of_getElem? (i := 909) (by decide +kernel), List.mem_of_getElem? (i := 910) (by decide +kernel), List.mem_of_getElem? (i := 75) (by decide +kernel), ⟨by decide +kernel, by decide +kernel, by decide +kernel⟩⟩
set_option maxRecDepth 100000 in
theorem cw_X8_146 : q_CS RX8 146 yX8_isPlace cX8_isPlace 1 (some .boolean) 1 := ⟨Or.inl (List.mem_of_getElem? (i := 911) (by decide +kernel)), List.mem_of_getElem? (i := 912) (by decide +kernel), List.mem_of_getElem? (i := 913) (by decide +kernel), List.mem_of_getElem? (i := 75) (by decide +kernel), ⟨by decide +kernel, by decide +kernel, by decide +kernel⟩⟩
set_option maxRecDepth 100000 in
theorem kw_X8_140 : Cond.constantLong RX8 140 (3) ∈ lw_tbl := List.mem_of_getElem? (i := 914) (by decide +kernel)
set_option maxRecDepth 100000 in
theorem cw_X8_142 : q_CS RX8 142 yX8_in cX8_in 6 (some .boolean) 3 := ⟨Or.inl (List.mem_of_getElem? (i := 915) (by decide +kernel)), List.mem_of_getElem? (i := 916) (by decide +kernel), List.mem_of_getElem? (i := 917) (by decide +kernel), List.mem_of_getElem? (i := 75) (by decide +kernel), ⟨by decide +kernel, by decide +kernel, by decide +kernel⟩⟩
set_option maxRecDepth 100000 in
theorem cw_L_122 : q_CV RL 122 8 yX8_tear cX8_tear 2 (some .boolean) 1 := ⟨⟨TX8, 48, q_ok8⟩, Or.inl (List.mem_of_getElem? (i := 918) (by decide +kernel)), List.mem_of_getElem? (i := 919) (by decide +kernel), List.mem_of_getElem? (i := 920) (by decide +kernel), List.mem_of_getElem? (i := 921) (by decide +kernel), List.mem_of_getElem? (i := 75) (by decide +kernel), ⟨by decide +kernel, by decide +kernel, by decide +kernel⟩⟩
set_option maxRecDepth 100000 in
theorem cw_L_129 : q_CV RL 129 8 yX8_write cX8_write 5 (some .int) 3 := ⟨⟨TX8, 48, q_ok8⟩, Or.inl (List.mem_of_getElem? (i := 922) (by decide +kernel)), List.mem_of_getElem? (i := 923) (by decide +kernel), List.mem_of_getElem? (i := 924) (by decide +kernel), List.mem_of_getElem? (i := 925) (by decide +kernel), List.mem_of_getElem? (i := 75) (by decide +kernel), ⟨by decide +kernel, by decide +kernel, by decide +kernel⟩⟩
set_option maxRecDepth 100000 in
theorem cw_X8_150 : q_CS RX8 150 yX8_cut cX8_cut 3 (some .long) 2 := ⟨Or.inl (List.mem_of_getElem? (i := 926) (by decide +kernel)), List.mem_of_getElem? (i := 927) (by decide +kernel), List.mem_of_getElem? (i := 928) (by decide +kernel), List.mem_of_getElem? (i := 75) (by decide +kernel), ⟨by decide +kernel, by decide +kernel, by decide +kernel⟩⟩
set_option maxRecDepth 100000 in
theorem cw_L_134 : q_CV RL 134 8 yX8_paste cX8_paste 7 (some .int) 5 := ⟨⟨TX8, 48, q_ok8⟩, Or.inl (List.mem_of_getElem? (i := 929) (by decide +kernel)), List.mem_of_getElem? (i := 930) (by decide +kernel), List.mem_of_getElem? (i := 931) (by decide +kernel), List.mem_of_getElem? (i := 932) (by decide +kernel), List.mem_of_getElem? (i := 75) (by decide +kernel), ⟨by decide +kernel, by decide +kernel, by decide +kernel⟩⟩
set_option maxRecDepth 100000 in
theorem cw_L_17 : q_CV RL 17 8 yX8_terms cX8_terms 5 (some .int) 4 := ⟨⟨TX8, 48, q_ok8⟩, Or.inl (List.mem_of_getElem? (i := 933) (by decide +kernel)), List.mem_of_getElem? (i := 934) (by decide +kernel), List.mem_of_getElem? (i := 935) (by decide +kernel), List.mem_of_getElem? (i := 936) (by decide +kernel), List.mem_of_getElem? (i := 75) (by decide +kernel), ⟨by decide +kernel, by decide +kernel, by decide +kernel⟩⟩
set_option maxRecDepth 100000 in
theorem kw_X8_157 : Cond.constantLong RX8 157 (4) ∈ lw_tbl := List.mem_of_getElem? (i := 937) (by decide +kernel)
set_option maxRecDepth 100000 in
theorem kw_X8_159 : Cond.constantLong RX8 159 (1000) ∈ lw_tbl := List.mem_of_getElem? (i := 938) (by decide +kernel)
set_option maxRecDepth 100000 in
theorem kw_X8_161 : Cond.constantLong RX8 161 (20) ∈ lw_tbl := List.mem_of_getElem? (i := 939) (by decide +kernel)
set_option maxRecDepth 100000 in
theorem kw_X8_163 : Cond.constantLong RX8 163 (9) ∈ lw_tbl := List.mem_of_getElem? (i := 940) (by decide +kernel)
set_option maxRecDepth 100000 in
theorem cw_L_21 : q_CV RL 21 8 yX8_cell cX8_cell 5 (some .int) 4 := ⟨⟨TX8, 48, q_ok8⟩, Or.inl (List.mem_of_getElem? (i := 941) (by decide +kernel)), List.mem_of_getElem? (i := 942) (by decide +kernel), List.mem_of_getElem? (i := 943) (by decide +kernel), List.mem_of_getElem? (i := 944) (by decide +kernel), List.mem_of_getElem? (i := 75) (by decide +kernel), ⟨by decide +kernel, by decide +kernel, by decide +kernel⟩⟩
set_option maxRecDepth 100000 in
theorem kw_X8_165 : Cond.constantLong RX8 165 (100) ∈ lw_tbl := List.mem_of_getElem? (i := 945) (by decide +kernel)
set_option maxRecDepth 100000 in
theorem kw_X8_167 : Cond.constantLong RX8 167 (2) ∈ lw_tbl := List.mem_of_getElem? (i := 946) (by decide +kernel)
set_option maxRecDepth 100000 in
theorem cw_L_26 : q_CV RL 26 8 yX8_forbid cX8_forbid 4 (some .boolean) 3 := ⟨⟨TX8, 48, q_ok8⟩, Or.inl (List.mem_of_getElem? (i := 947) (by decide +kernel)), List.mem_of_getElem? (i := 948) (by decide +kernel), List.mem_of_getElem? (i := 949) (by decide +kernel), List.mem_of_getElem? (i := 950) (by decide +kernel), List.mem_of_getElem? (i := 75) (by decide +kernel), ⟨by decide +kernel, by decide +kernel, by decide +kernel⟩⟩
set_option maxRecDepth 100000 in
theorem cw_X8_169 : q_CV RX8 169 8 yX8_isCell cX8_isCell 2 (some .boolean) 1 := ⟨⟨TX8, 48, q_ok8⟩, Or.inl (List.mem_of_getElem? (i := 951) (by decide +kernel)), List.mem_of_getElem? (i := 953) (by decide +kernel), List.mem_of_getElem? (i := 52) (by decide +kernel), List.mem_of_getElem? (i := 954) (by decide +kernel), List.mem_of_getElem? (i := 75) (by decide +kernel), ⟨by decide +kernel, by decide +kernel, by decide +kernel⟩⟩
set_option maxRecDepth 100000 in
theorem cw_L_31 : q_CV RL 31 8 yX8_rain cX8_rain 4 (some .int) 2 := ⟨⟨TX8, 48, q_ok8⟩, Or.inl (List.mem_of_getElem? (i := 955) (by decide +kernel)), List.mem_of_getElem? (i := 956) (by decide +kernel), List.mem_of_getElem? (i := 957) (by decide +kernel), List.mem_of_getElem? (i := 958) (by decide +kernel), List.mem_of_getElem? (i := 75) (by decide +kernel), ⟨by decide +kernel, by decide +kernel, by decide +kernel⟩⟩
set_option maxRecDepth 100000 in
theorem cw_L_36 : q_CV RL 36 8 yX8_gateway cX8_gateway 4 (some .int) 3 := ⟨⟨TX8, 48, q_ok8⟩, Or.inl (List.mem_of_getElem? (i := 959) (by decide +kernel)), List.mem_of_getElem? (i := 960) (by decide +kernel), List.mem_of_getElem? (i := 961) (by decide +kernel), List.mem_of_getElem? (i := 962) (by decide +kernel), List.mem_of_getElem? (i := 75) (by decide +kernel), ⟨by decide +kernel, by decide +kernel, by decide +kernel⟩⟩
set_option maxRecDepth 100000 in
theorem cw_X8_172 : q_CS RX8 172 yX8_isGate cX8_isGate 1 (some .boolean) 1 := ⟨Or.inl (List.mem_of_getElem? (i := 963) (by decide +kernel)), List.mem_of_getElem? (i := 964) (by decide +kernel), List.mem_of_getElem? (i := 965) (by decide +kernel), List.mem_of_getElem? (i := 75) (by decide +kernel), ⟨by decide +kernel, by decide +kernel, by decide +kernel⟩⟩
set_option maxRecDepth 100000 in
theorem kw_X8_175 : Cond.constantLong RX8 175 (10) ∈ lw_tbl := List.mem_of_getElem? (i := 966) (by decide +kernel)
set_option maxRecDepth 100000 in
theorem cw_L_40 : q_CV RL 40 8 yX8_swap cX8_swap 3 (some .int) 2 := ⟨⟨TX8, 48, q_ok8⟩, Or.inl (List.mem_of_getElem? (i := 967) (by decide +kernel)), List.mem_of_getElem? (i := 968) (by decide +kernel), List.mem_of_getElem? (i := 969) (by decide +kernel), List.mem_of_getElem? (i := 970) (by decide +kernel), List.mem_of_getElem? (i := 75) (by decide +kernel), ⟨by decide +kernel, by decide +kernel, by decide +kernel⟩⟩
set_option maxRecDepth 100000 in
theorem cw_L_45 : q_CV RL 45 8 yX8_needs cX8_needs 4 (some .int) 1 := ⟨⟨TX8, 48, q_ok8⟩, Or.inl (List.mem_of_getElem? (i := 971) (by decide +kernel)), List.mem_of_getElem? (i := 972) (by decide +kernel), List.mem_of_getElem? (i := 973) (by decide +kernel), List.mem_of_getElem? (i := 974) (by decide +kernel), List.mem_of_getElem? (i := 75) (by decide +kernel), ⟨by decide +kernel, by decide +kernel, by decide +kernel⟩⟩
set_option maxRecDepth 100000 in
theorem cw_X8_177 : q_CV RX8 177 8 yX8_refuses cX8_refuses 5 (some .int) 2 := ⟨⟨TX8, 48, q_ok8⟩, Or.inl (List.mem_of_getElem? (i := 975) (by decide +kernel)), List.mem_of_getElem? (i := 977) (by decide +kernel), List.mem_of_getElem? (i := 53) (by decide +kernel), List.mem_of_getElem? (i := 978) (by decide +kernel), List.mem_of_getElem? (i := 75) (by decide +kernel), ⟨by decide +kernel, by decide +kernel, by decide +kernel⟩⟩
set_option maxRecDepth 100000 in
theorem cw_X8_181 : q_CV RX8 181 8 yX8_total cX8_total 4 (some .int) 1 := ⟨⟨TX8, 48, q_ok8⟩, Or.inl (List.mem_of_getElem? (i := 979) (by decide +kernel)), List.mem_of_getElem? (i := 981) (by decide +kernel), List.mem_of_getElem? (i := 54) (by decide +kernel), List.mem_of_getElem? (i := 982) (by decide +kernel), List.mem_of_getElem? (i := 75) (by decide +kernel), ⟨by decide +kernel, by decide +kernel, by decide +kernel⟩⟩
set_option maxRecDepth 100000 in
theorem cw_L_49 : q_CV RL 49 8 yX8_asks cX8_asks 4 (some .int) 1 := ⟨⟨TX8, 48, q_ok8⟩, Or.inl (List.mem_of_getElem? (i := 983) (by decide +kernel)), List.mem_of_getElem? (i := 984) (by decide +kernel), List.mem_of_getElem? (i := 985) (by decide +kernel), List.mem_of_getElem? (i := 986) (by decide +kernel), List.mem_of_getElem? (i := 75) (by decide +kernel), ⟨by decide +kernel, by decide +kernel, by decide +kernel⟩⟩
set_option maxRecDepth 100000 in
theorem cw_L_53 : q_CV RL 53 8 yX8_legal cX8_legal 2 (some .int) 1 := ⟨⟨TX8, 48, q_ok8⟩, Or.inl (List.mem_of_getElem? (i := 987) (by decide +kernel)), List.mem_of_getElem? (i := 988) (by decide +kernel), List.mem_of_getElem? (i := 989) (by decide +kernel), List.mem_of_getElem? (i := 990) (by decide +kernel), List.mem_of_getElem? (i := 75) (by decide +kernel), ⟨by decide +kernel, by decide +kernel, by decide +kernel⟩⟩
set_option maxRecDepth 100000 in
theorem cw_X8_189 : q_CV RX8 189 8 yX8_isSet cX8_isSet 3 (some .boolean) 1 := ⟨⟨TX8, 48, q_ok8⟩, Or.inl (List.mem_of_getElem? (i := 991) (by decide +kernel)), List.mem_of_getElem? (i := 993) (by decide +kernel), List.mem_of_getElem? (i := 55) (by decide +kernel), List.mem_of_getElem? (i := 994) (by decide +kernel), List.mem_of_getElem? (i := 75) (by decide +kernel), ⟨by decide +kernel, by decide +kernel, by decide +kernel⟩⟩
set_option maxRecDepth 100000 in
theorem cw_X8_193 : q_CV RX8 193 8 yX8_isLegal cX8_isLegal 8 (some .boolean) 1 := ⟨⟨TX8, 48, q_ok8⟩, Or.inl (List.mem_of_getElem? (i := 995) (by decide +kernel)), List.mem_of_getElem? (i := 997) (by decide +kernel), List.mem_of_getElem? (i := 56) (by decide +kernel), List.mem_of_getElem? (i := 998) (by decide +kernel), List.mem_of_getElem? (i := 75) (by decide +kernel), ⟨by decide +kernel, by decide +kernel, by decide +kernel⟩⟩
set_option maxRecDepth 100000 in
theorem cw_X8_185 : q_CV RX8 185 8 yX8_powerNow cX8_powerNow 2 (some .int) 1 := ⟨⟨TX8, 48, q_ok8⟩, Or.inl (List.mem_of_getElem? (i := 999) (by decide +kernel)), List.mem_of_getElem? (i := 1001) (by decide +kernel), List.mem_of_getElem? (i := 57) (by decide +kernel), List.mem_of_getElem? (i := 1002) (by decide +kernel), List.mem_of_getElem? (i := 75) (by decide +kernel), ⟨by decide +kernel, by decide +kernel, by decide +kernel⟩⟩
set_option maxRecDepth 100000 in
theorem cw_L_58 : q_CV RL 58 8 yX8_sets cX8_sets 3 (some .int) 0 := ⟨⟨TX8, 48, q_ok8⟩, Or.inl (List.mem_of_getElem? (i := 1003) (by decide +kernel)), List.mem_of_getElem? (i := 1004) (by decide +kernel), List.mem_of_getElem? (i := 1005) (by decide +kernel), List.mem_of_getElem? (i := 1006) (by decide +kernel), List.mem_of_getElem? (i := 75) (by decide +kernel), ⟨by decide +kernel, by decide +kernel, by decide +kernel⟩⟩
set_option maxRecDepth 100000 in
theorem cw_L_62 : q_CV RL 62 8 yX8_fewest cX8_fewest 6 (some .int) 0 := ⟨⟨TX8, 48, q_ok8⟩, Or.inl (List.mem_of_getElem? (i := 1007) (by decide +kernel)), List.mem_of_getElem? (i := 1008) (by decide +kernel), List.mem_of_getElem? (i := 1009) (by decide +kernel), List.mem_of_getElem? (i := 1010) (by decide +kernel), List.mem_of_getElem? (i := 75) (by decide +kernel), ⟨by decide +kernel, by decide +kernel, by decide +kernel⟩⟩
set_option maxRecDepth 100000 in
theorem cw_X8_202 : q_CV RX8 202 8 yX8_sumOf cX8_sumOf 3 (some .int) 0 := ⟨⟨TX8, 48, q_ok8⟩, Or.inl (List.mem_of_getElem? (i := 1011) (by decide +kernel)), List.mem_of_getElem? (i := 1013) (by decide +kernel), List.mem_of_getElem? (i := 58) (by decide +kernel), List.mem_of_getElem? (i := 1014) (by decide +kernel), List.mem_of_getElem? (i := 75) (by decide +kernel), ⟨by decide +kernel, by decide +kernel, by decide +kernel⟩⟩
set_option maxRecDepth 100000 in
theorem cw_X8_206 : q_CV RX8 206 8 yX8_lays cX8_lays 5 none 3 := ⟨⟨TX8, 48, q_ok8⟩, Or.inl (List.mem_of_getElem? (i := 1015) (by decide +kernel)), List.mem_of_getElem? (i := 1017) (by decide +kernel), List.mem_of_getElem? (i := 59) (by decide +kernel), List.mem_of_getElem? (i := 1018) (by decide +kernel), List.mem_of_getElem? (i := 75) (by decide +kernel), ⟨by decide +kernel, by decide +kernel, by decide +kernel⟩⟩
set_option maxRecDepth 100000 in
theorem cw_X8_210 : q_CV RX8 210 8 yX8_isWhole cX8_isWhole 4 (some .boolean) 2 := ⟨⟨TX8, 48, q_ok8⟩, Or.inl (List.mem_of_getElem? (i := 1019) (by decide +kernel)), List.mem_of_getElem? (i := 1021) (by decide +kernel), List.mem_of_getElem? (i := 60) (by decide +kernel), List.mem_of_getElem? (i := 1022) (by decide +kernel), List.mem_of_getElem? (i := 75) (by decide +kernel), ⟨by decide +kernel, by decide +kernel, by decide +kernel⟩⟩
set_option maxRecDepth 100000 in
theorem cw_X8_214 : q_CV RX8 214 8 yX8_told cX8_told 6 (some .int) 2 := ⟨⟨TX8, 48, q_ok8⟩, Or.inl (List.mem_of_getElem? (i := 1023) (by decide +kernel)), List.mem_of_getElem? (i := 1025) (by decide +kernel), List.mem_of_getElem? (i := 61) (by decide +kernel), List.mem_of_getElem? (i := 1026) (by decide +kernel), List.mem_of_getElem? (i := 75) (by decide +kernel), ⟨by decide +kernel, by decide +kernel, by decide +kernel⟩⟩
set_option maxRecDepth 100000 in
theorem cw_X8_218 : q_CV RX8 218 8 yX8_isNew cX8_isNew 4 (some .boolean) 1 := ⟨⟨TX8, 48, q_ok8⟩, Or.inl (List.mem_of_getElem? (i := 1027) (by decide +kernel)), List.mem_of_getElem? (i := 1029) (by decide +kernel), List.mem_of_getElem? (i := 62) (by decide +kernel), List.mem_of_getElem? (i := 1030) (by decide +kernel), List.mem_of_getElem? (i := 75) (by decide +kernel), ⟨by decide +kernel, by decide +kernel, by decide +kernel⟩⟩
set_option maxRecDepth 100000 in
theorem cw_L_66 : q_CV RL 66 8 yX8_frame cX8_frame 2 (some .int) 1 := ⟨⟨TX8, 48, q_ok8⟩, Or.inl (List.mem_of_getElem? (i := 1031) (by decide +kernel)), List.mem_of_getElem? (i := 1032) (by decide +kernel), List.mem_of_getElem? (i := 1033) (by decide +kernel), List.mem_of_getElem? (i := 1034) (by decide +kernel), List.mem_of_getElem? (i := 75) (by decide +kernel), ⟨by decide +kernel, by decide +kernel, by decide +kernel⟩⟩
set_option maxRecDepth 100000 in
theorem cw_L_70 : q_CV RL 70 8 yX8_frameOf cX8_frameOf 4 (some .int) 1 := ⟨⟨TX8, 48, q_ok8⟩, Or.inl (List.mem_of_getElem? (i := 1035) (by decide +kernel)), List.mem_of_getElem? (i := 1036) (by decide +kernel), List.mem_of_getElem? (i := 1037) (by decide +kernel), List.mem_of_getElem? (i := 1038) (by decide +kernel), List.mem_of_getElem? (i := 75) (by decide +kernel), ⟨by decide +kernel, by decide +kernel, by decide +kernel⟩⟩
set_option maxRecDepth 100000 in
theorem cw_X8_221 : q_CS RX8 221 yJ9_min_7cf53 cJ9_min_7cf53 2 (some .int) 2 := ⟨Or.inl (List.mem_of_getElem? (i := 1039) (by decide +kernel)), List.mem_of_getElem? (i := 402) (by decide +kernel), List.mem_of_getElem? (i := 403) (by decide +kernel), List.mem_of_getElem? (i := 78) (by decide +kernel), ⟨by decide +kernel, by decide +kernel, by decide +kernel⟩⟩
set_option maxRecDepth 100000 in
theorem cw_L_75 : q_CV RL 75 8 yX8_proof cX8_proof 11 (some .long) 1 := ⟨⟨TX8, 48, q_ok8⟩, Or.inl (List.mem_of_getElem? (i := 1040) (by decide +kernel)), List.mem_of_getElem? (i := 1041) (by decide +kernel), List.mem_of_getElem? (i := 1042) (by decide +kernel), List.mem_of_getElem? (i := 1043) (by decide +kernel), List.mem_of_getElem? (i := 75) (by decide +kernel), ⟨by decide +kernel, by decide +kernel, by decide +kernel⟩⟩
set_option maxRecDepth 100000 in
theorem kw_X8_226 : Cond.constantLong RX8 226 (1000000) ∈ lw_tbl := List.mem_of_getElem? (i := 1044) (by decide +kernel)
set_option maxRecDepth 100000 in
theorem cw_X8_228 : q_CS RX8 228 yJ9_max_f86c9 cJ9_max_f86c9 4 (some .long) 2 := ⟨Or.inl (List.mem_of_getElem? (i := 1045) (by decide +kernel)), List.mem_of_getElem? (i := 1046) (by decide +kernel), List.mem_of_getElem? (i := 1047) (by decide +kernel), List.mem_of_getElem? (i := 78) (by decide +kernel), ⟨by decide +kernel, by decide +kernel, by decide +kernel⟩⟩
set_option maxRecDepth 100000 in
theorem kw_X8_232 : Cond.constantLong RX8 232 (-1) ∈ lw_tbl := List.mem_of_getElem? (i := 1048) (by decide +kernel)
set_option maxRecDepth 100000 in
theorem cw_L_79 : q_CV RL 79 8 yX8_ways cX8_ways 7 (some .int) 1 := ⟨⟨TX8, 48, q_ok8⟩, Or.inl (List.mem_of_getElem? (i := 1049) (by decide +kernel)), List.mem_of_getElem? (i := 1050) (by decide +kernel), List.mem_of_getElem? (i := 1051) (by decide +kernel), List.mem_of_getElem? (i := 1052) (by decide +kernel), List.mem_of_getElem? (i := 75) (by decide +kernel), ⟨by decide +kernel, by decide +kernel, by decide +kernel⟩⟩
set_option maxRecDepth 100000 in
theorem kw_X8_236 : Cond.constantLong RX8 236 (24) ∈ lw_tbl := List.mem_of_getElem? (i := 1053) (by decide +kernel)
set_option maxRecDepth 100000 in
theorem cw_X8_238 : q_CS RX8 238 yX8_multiplies cX8_multiplies 5 none 2 := ⟨Or.inl (List.mem_of_getElem? (i := 1054) (by decide +kernel)), List.mem_of_getElem? (i := 1055) (by decide +kernel), List.mem_of_getElem? (i := 1056) (by decide +kernel), List.mem_of_getElem? (i := 75) (by decide +kernel), ⟨by decide +kernel, by decide +kernel, by decide +kernel⟩⟩
set_option maxRecDepth 100000 in
theorem kw_X8_234 : Cond.constantLong RX8 234 (1000000000) ∈ lw_tbl := List.mem_of_getElem? (i := 1057) (by decide +kernel)
set_option maxRecDepth 100000 in
theorem cw_X8_242 : q_CS RX8 242 yX8_adds cX8_adds 5 none 2 := ⟨Or.inl (List.mem_of_getElem? (i := 1058) (by decide +kernel)), List.mem_of_getElem? (i := 1059) (by decide +kernel), List.mem_of_getElem? (i := 1060) (by decide +kernel), List.mem_of_getElem? (i := 75) (by decide +kernel), ⟨by decide +kernel, by decide +kernel, by decide +kernel⟩⟩
set_option maxRecDepth 100000 in
theorem kw_X8_249 : Cond.constant RX8 249 (1000000000) ∈ lw_tbl := List.mem_of_getElem? (i := 1061) (by decide +kernel)
set_option maxRecDepth 100000 in
theorem cw_L_83 : q_CV RL 83 8 yX8_digit cX8_digit 2 (some .int) 1 := ⟨⟨TX8, 48, q_ok8⟩, Or.inl (List.mem_of_getElem? (i := 1062) (by decide +kernel)), List.mem_of_getElem? (i := 1063) (by decide +kernel), List.mem_of_getElem? (i := 1064) (by decide +kernel), List.mem_of_getElem? (i := 1065) (by decide +kernel), List.mem_of_getElem? (i := 75) (by decide +kernel), ⟨by decide +kernel, by decide +kernel, by decide +kernel⟩⟩
set_option maxRecDepth 100000 in
theorem cw_L_87 : q_CV RL 87 8 yX8_rule cX8_rule 3 (some .int) 1 := ⟨⟨TX8, 48, q_ok8⟩, Or.inl (List.mem_of_getElem? (i := 1066) (by decide +kernel)), List.mem_of_getElem? (i := 1067) (by decide +kernel), List.mem_of_getElem? (i := 1068) (by decide +kernel), List.mem_of_getElem? (i := 1069) (by decide +kernel), List.mem_of_getElem? (i := 75) (by decide +kernel), ⟨by decide +kernel, by decide +kernel, by decide +kernel⟩⟩
set_option maxRecDepth 100000 in
theorem cw_L_91 : q_CV RL 91 8 yX8_go cX8_go 3 (some .int) 1 := ⟨⟨TX8, 48, q_ok8⟩, Or.inl (List.mem_of_getElem? (i := 1070) (by decide +kernel)), List.mem_of_getElem? (i := 1071) (by decide +kernel), List.mem_of_getElem? (i := 1072) (by decide +kernel), List.mem_of_getElem? (i := 1073) (by decide +kernel), List.mem_of_getElem? (i := 75) (by decide +kernel), ⟨by decide +kernel, by decide +kernel, by decide +kernel⟩⟩
set_option maxRecDepth 100000 in
theorem kw_X8_274 : Cond.constantLong RX8 274 (200) ∈ lw_tbl := List.mem_of_getElem? (i := 1074) (by decide +kernel)
set_option maxRecDepth 100000 in
theorem cw_X8_276 : q_CV RX8 276 8 yX8_goesBy cX8_goesBy 4 none 0 := ⟨⟨TX8, 48, q_ok8⟩, Or.inl (List.mem_of_getElem? (i := 1075) (by decide +kernel)), List.mem_of_getElem? (i := 1077) (by decide +kernel), List.mem_of_getElem? (i := 63) (by decide +kernel), List.mem_of_getElem? (i := 1078) (by decide +kernel), List.mem_of_getElem? (i := 75) (by decide +kernel), ⟨by decide +kernel, by decide +kernel, by decide +kernel⟩⟩
set_option maxRecDepth 100000 in
theorem cw_X8_256 : q_CV RX8 256 8 yX8_waiting cX8_waiting 4 (some .int) 1 := ⟨⟨TX8, 48, q_ok8⟩, Or.inl (List.mem_of_getElem? (i := 1079) (by decide +kernel)), List.mem_of_getElem? (i := 1081) (by decide +kernel), List.mem_of_getElem? (i := 64) (by decide +kernel), List.mem_of_getElem? (i := 1082) (by decide +kernel), List.mem_of_getElem? (i := 75) (by decide +kernel), ⟨by decide +kernel, by decide +kernel, by decide +kernel⟩⟩
set_option maxRecDepth 100000 in
theorem cw_X8_259 : q_CV RX8 259 8 yX8_rateNow cX8_rateNow 2 (some .int) 1 := ⟨⟨TX8, 48, q_ok8⟩, Or.inl (List.mem_of_getElem? (i := 1083) (by decide +kernel)), List.mem_of_getElem? (i := 1085) (by decide +kernel), List.mem_of_getElem? (i := 65) (by decide +kernel), List.mem_of_getElem? (i := 1086) (by decide +kernel), List.mem_of_getElem? (i := 75) (by decide +kernel), ⟨by decide +kernel, by decide +kernel, by decide +kernel⟩⟩
set_option maxRecDepth 100000 in
theorem cw_X8_262 : q_CV RX8 262 8 yX8_byFrame cX8_byFrame 3 (some .int) 0 := ⟨⟨TX8, 48, q_ok8⟩, Or.inl (List.mem_of_getElem? (i := 1087) (by decide +kernel)), List.mem_of_getElem? (i := 1089) (by decide +kernel), List.mem_of_getElem? (i := 66) (by decide +kernel), List.mem_of_getElem? (i := 1090) (by decide +kernel), List.mem_of_getElem? (i := 75) (by decide +kernel), ⟨by decide +kernel, by decide +kernel, by decide +kernel⟩⟩
set_option maxRecDepth 100000 in
theorem cw_X8_265 : q_CV RX8 265 8 yX8_byWeight cX8_byWeight 8 (some .int) 0 := ⟨⟨TX8, 48, q_ok8⟩, Or.inl (List.mem_of_getElem? (i := 1091) (by decide +kernel)), List.mem_of_getElem? (i := 1093) (by decide +kernel), List.mem_of_getElem? (i := 67) (by decide +kernel), List.mem_of_getElem? (i := 1094) (by decide +kernel), List.mem_of_getElem? (i := 75) (by decide +kernel), ⟨by decide +kernel, by decide +kernel, by decide +kernel⟩⟩
set_option maxRecDepth 100000 in
theorem cw_X8_268 : q_CV RX8 268 8 yX8_sends cX8_sends 5 none 1 := ⟨⟨TX8, 48, q_ok8⟩, Or.inl (List.mem_of_getElem? (i := 1095) (by decide +kernel)), List.mem_of_getElem? (i := 1097) (by decide +kernel), List.mem_of_getElem? (i := 68) (by decide +kernel), List.mem_of_getElem? (i := 1098) (by decide +kernel), List.mem_of_getElem? (i := 75) (by decide +kernel), ⟨by decide +kernel, by decide +kernel, by decide +kernel⟩⟩
set_option maxRecDepth 100000 in
theorem cw_X8_272 : q_CS RX8 272 yJ9_max_7cf53 cJ9_max_7cf53 2 (some .int) 2 := ⟨Or.inl (List.mem_of_getElem? (i := 1099) (by decide +kernel)), List.mem_of_getElem? (i := 662) (by decide +kernel), List.mem_of_getElem? (i := 663) (by decide +kernel), List.mem_of_getElem? (i := 78) (by decide +kernel), ⟨by decide +kernel, by decide +kernel, by decide +kernel⟩⟩
set_option maxRecDepth 100000 in
theorem cw_L_95 : q_CV RL 95 8 yX8_lit cX8_lit 1 (some .int) 0 := ⟨⟨TX8, 48, q_ok8⟩, Or.inl (List.mem_of_getElem? (i := 1100) (by decide +kernel)), List.mem_of_getElem? (i := 1101) (by decide +kernel), List.mem_of_getElem? (i := 1102) (by decide +kernel), List.mem_of_getElem? (i := 1103) (by decide +kernel), List.mem_of_getElem? (i := 75) (by decide +kernel), ⟨by decide +kernel, by decide +kernel, by decide +kernel⟩⟩
set_option maxRecDepth 100000 in
theorem cw_L_99 : q_CV RL 99 8 yX8_cellOf cX8_cellOf 5 (some .int) 2 := ⟨⟨TX8, 48, q_ok8⟩, Or.inl (List.mem_of_getElem? (i := 1104) (by decide +kernel)), List.mem_of_getElem? (i := 1105) (by decide +kernel), List.mem_of_getElem? (i := 1106) (by decide +kernel), List.mem_of_getElem? (i := 1107) (by decide +kernel), List.mem_of_getElem? (i := 75) (by decide +kernel), ⟨by decide +kernel, by decide +kernel, by decide +kernel⟩⟩
set_option maxRecDepth 100000 in
theorem cw_L_104 : q_CV RL 104 8 yX8_units cX8_units 3 (some .long) 2 := ⟨⟨TX8, 48, q_ok8⟩, Or.inl (List.mem_of_getElem? (i := 1108) (by decide +kernel)), List.mem_of_getElem? (i := 1109) (by decide +kernel), List.mem_of_getElem? (i := 1110) (by decide +kernel), List.mem_of_getElem? (i := 1111) (by decide +kernel), List.mem_of_getElem? (i := 75) (by decide +kernel), ⟨by decide +kernel, by decide +kernel, by decide +kernel⟩⟩
set_option maxRecDepth 100000 in
theorem kw_X8_279 : Cond.constantLong RX8 279 (-2) ∈ lw_tbl := List.mem_of_getElem? (i := 1112) (by decide +kernel)
set_option maxRecDepth 100000 in
theorem cw_L_108 : q_CV RL 108 8 yX8_count cX8_count 4 (some .int) 1 := ⟨⟨TX8, 48, q_ok8⟩, Or.inl (List.mem_of_getElem? (i := 1113) (by decide +kernel)), List.mem_of_getElem? (i := 1114) (by decide +kernel), List.mem_of_getElem? (i := 1115) (by decide +kernel), List.mem_of_getElem? (i := 1116) (by decide +kernel), List.mem_of_getElem? (i := 75) (by decide +kernel), ⟨by decide +kernel, by decide +kernel, by decide +kernel⟩⟩
set_option maxRecDepth 100000 in
theorem cw_L_112 : q_CV RL 112 8 yX8_gatewayOf cX8_gatewayOf 5 (some .int) 2 := ⟨⟨TX8, 48, q_ok8⟩, Or.inl (List.mem_of_getElem? (i := 1117) (by decide +kernel)), List.mem_of_getElem? (i := 1118) (by decide +kernel), List.mem_of_getElem? (i := 1119) (by decide +kernel), List.mem_of_getElem? (i := 1120) (by decide +kernel), List.mem_of_getElem? (i := 75) (by decide +kernel), ⟨by decide +kernel, by decide +kernel, by decide +kernel⟩⟩
set_option maxRecDepth 100000 in
theorem kw_L_123 : Cond.constantLong RL 123 (4294967295) ∈ lw_tbl := List.mem_of_getElem? (i := 1121) (by decide +kernel)
set_option maxRecDepth 100000 in
theorem wi_oi : Cond.instanceMethod objectInit ∈ lw_tbl := List.mem_of_getElem? (i := 89) (by decide +kernel)
set_option maxRecDepth 100000 in
theorem wc_oi : Cond.code objectInit ⟨#[0xb1]⟩ 1 none ∈ lw_tbl := List.mem_of_getElem? (i := 90) (by decide +kernel)
end
section
abbrev q_Ctx : Type := (Program × Launch × Env × Room × State) × (MethodId × Array Value × List Frame × Method × Code) × (va_G × (FieldType → ClassId) × (Nat → Prop) × (State → Prop))
def gg (C : q_Ctx) (ty : Nat → PT) (nL kc ks : Nat) (al : Nat → Bool) (ad : Nat → Nat) (pc : Nat) (ls : List (Option Value)) (st : List Value) (h : PH) : Prop := match C with
  | ((p, l, e, R, s), (m, args, below, meth, c), (D, ca, A, Q)) => ∀ (H : Heap) (locs : List Loc) (lsA : Array Slot), (kc ≤ R.cells ∧ ks ≤ R.slots) → q_R D ca ty al ad h H → va_S A s.heap H locs → q_L ad nL ls lsA → W p l e R s m args below meth c H locs kc ks Q (F0 m pc lsA (st.map (q_cv ad)))
def q_Ev (C : q_Ctx) (cc : ByteArray) (nL : Nat) (own : String) (al : Nat → Bool) (ad : Nat → Nat) (FR LO : Nat) : Prop := match C with
  | ((p, l, e, R, s), (m, args, below, meth, c), (D, ca, A, Q)) => p.tables.exec = Jvm.exec ∧ c.code = cc ∧ c.maxLocals = nL ∧ s.vm.findClass own = some m.cls ∧ q_T D ca s ∧ q_J al ad ∧ (∀ a, al a = true → A (ad a)) ∧ FR ≤ R.frames ∧ LO ≤ R.locals
section GM
variable {C : q_Ctx} {ty : Nat → PT} {cc : ByteArray} {nL kc ks : Nat} {own : String} {al : Nat → Bool} {ad : Nat → Nat} {FR LO : Nat} {pc : Nat} {ls : List (Option Value)} {st : List Value} {h : PH}
theorem g_iconst {n : Int} {v : Int32} (E : q_Ev C cc nL own al ad FR LO) (hd : decode cc pc = .ok (.iconst n, 1)) (hv : Int32.ofInt n = v) (k : gg C ty nL kc ks al ad (pc + 1) ls (.int v :: st) h) : gg C ty nL kc ks al ad pc ls st h := by
  obtain ⟨⟨p, l, e, R, s⟩, ⟨m, args, below, meth, c⟩, ⟨D, ca, A, Q⟩⟩ := C
  exact fun H locs lsA hZ hR hS hl => lv_iconst E.1 E.2.1 hd hv (k H locs lsA hZ hR hS hl)
theorem g_bipush {n : Int} {v : Int32} (E : q_Ev C cc nL own al ad FR LO) (hd : decode cc pc = .ok (.bipush n, 2)) (hv : (Int8.ofInt n).toInt32 = v) (k : gg C ty nL kc ks al ad (pc + 2) ls (.int v :: st) h) : gg C ty nL kc ks al ad pc ls st h := by
  obtain ⟨⟨p, l, e, R, s⟩, ⟨m, args, below, meth, c⟩, ⟨D, ca, A, Q⟩⟩ := C
  exact fun H locs lsA hZ hR hS hl => lv_bipush E.1 E.2.1 hd hv (k H locs lsA hZ hR hS hl)
theorem g_sipush {n : Int} {v : Int32} (E : q_Ev C cc nL own al ad FR LO) (hd : decode cc pc = .ok (.sipush n, 3)) (hv : (Int16.ofInt n).toInt32 = v) (k : gg C ty nL kc ks al ad (pc + 3) ls (.int v :: st) h) : gg C ty nL kc ks al ad pc ls st h := by
  obtain ⟨⟨p, l, e, R, s⟩, ⟨m, args, below, meth, c⟩, ⟨D, ca, A, Q⟩⟩ := C
  exact fun H locs lsA hZ hR hS hl => lv_sipush E.1 E.2.1 hd hv (k H locs lsA hZ hR hS hl)
theorem g_lconst {n : Fin 2} {v : Int64} (E : q_Ev C cc nL own al ad FR LO) (hd : decode cc pc = .ok (.lconst n, 1)) (hv : Int64.ofNat (n : Nat) = v) (k : gg C ty nL kc ks al ad (pc + 1) ls (.long v :: st) h) : gg C ty nL kc ks al ad pc ls st h := by
  obtain ⟨⟨p, l, e, R, s⟩, ⟨m, args, below, meth, c⟩, ⟨D, ca, A, Q⟩⟩ := C
  exact fun H locs lsA hZ hR hS hl => lv_lconst E.1 E.2.1 hd hv (k H locs lsA hZ hR hS hl)
theorem g_iadd {x y : Int32} (E : q_Ev C cc nL own al ad FR LO) (hd : decode cc pc = .ok (.iadd, 1))  (k : gg C ty nL kc ks al ad (pc + 1) ls (.int (x + y) :: st) h) : gg C ty nL kc ks al ad pc ls (.int y :: .int x :: st) h := by
  obtain ⟨⟨p, l, e, R, s⟩, ⟨m, args, below, meth, c⟩, ⟨D, ca, A, Q⟩⟩ := C
  exact fun H locs lsA hZ hR hS hl => lv_iadd E.1 E.2.1 hd  (k H locs lsA hZ hR hS hl)
theorem g_isub {x y : Int32} (E : q_Ev C cc nL own al ad FR LO) (hd : decode cc pc = .ok (.isub, 1))  (k : gg C ty nL kc ks al ad (pc + 1) ls (.int (x - y) :: st) h) : gg C ty nL kc ks al ad pc ls (.int y :: .int x :: st) h := by
  obtain ⟨⟨p, l, e, R, s⟩, ⟨m, args, below, meth, c⟩, ⟨D, ca, A, Q⟩⟩ := C
  exact fun H locs lsA hZ hR hS hl => lv_isub E.1 E.2.1 hd  (k H locs lsA hZ hR hS hl)
theorem g_imul {x y : Int32} (E : q_Ev C cc nL own al ad FR LO) (hd : decode cc pc = .ok (.imul, 1))  (k : gg C ty nL kc ks al ad (pc + 1) ls (.int (x * y) :: st) h) : gg C ty nL kc ks al ad pc ls (.int y :: .int x :: st) h := by
  obtain ⟨⟨p, l, e, R, s⟩, ⟨m, args, below, meth, c⟩, ⟨D, ca, A, Q⟩⟩ := C
  exact fun H locs lsA hZ hR hS hl => lv_imul E.1 E.2.1 hd  (k H locs lsA hZ hR hS hl)
theorem g_iand {x y : Int32} (E : q_Ev C cc nL own al ad FR LO) (hd : decode cc pc = .ok (.iand, 1))  (k : gg C ty nL kc ks al ad (pc + 1) ls (.int (x &&& y) :: st) h) : gg C ty nL kc ks al ad pc ls (.int y :: .int x :: st) h := by
  obtain ⟨⟨p, l, e, R, s⟩, ⟨m, args, below, meth, c⟩, ⟨D, ca, A, Q⟩⟩ := C
  exact fun H locs lsA hZ hR hS hl => lv_iand E.1 E.2.1 hd  (k H locs lsA hZ hR hS hl)
theorem g_ior {x y : Int32} (E : q_Ev C cc nL own al ad FR LO) (hd : decode cc pc = .ok (.ior, 1))  (k : gg C ty nL kc ks al ad (pc + 1) ls (.int (x ||| y) :: st) h) : gg C ty nL kc ks al ad pc ls (.int y :: .int x :: st) h := by
  obtain ⟨⟨p, l, e, R, s⟩, ⟨m, args, below, meth, c⟩, ⟨D, ca, A, Q⟩⟩ := C
  exact fun H locs lsA hZ hR hS hl => lv_ior E.1 E.2.1 hd  (k H locs lsA hZ hR hS hl)
theorem g_ixor {x y : Int32} (E : q_Ev C cc nL own al ad FR LO) (hd : decode cc pc = .ok (.ixor, 1))  (k : gg C ty nL kc ks al ad (pc + 1) ls (.int (x ^^^ y) :: st) h) : gg C ty nL kc ks al ad pc ls (.int y :: .int x :: st) h := by
  obtain ⟨⟨p, l, e, R, s⟩, ⟨m, args, below, meth, c⟩, ⟨D, ca, A, Q⟩⟩ := C
  exact fun H locs lsA hZ hR hS hl => lv_ixor E.1 E.2.1 hd  (k H locs lsA hZ hR hS hl)
theorem g_ishl {x y : Int32} (E : q_Ev C cc nL own al ad FR LO) (hd : decode cc pc = .ok (.ishl, 1))  (k : gg C ty nL kc ks al ad (pc + 1) ls (.int (x <<< (y &&& 31)) :: st) h) : gg C ty nL kc ks al ad pc ls (.int y :: .int x :: st) h := by
  obtain ⟨⟨p, l, e, R, s⟩, ⟨m, args, below, meth, c⟩, ⟨D, ca, A, Q⟩⟩ := C
  exact fun H locs lsA hZ hR hS hl => lv_ishl E.1 E.2.1 hd  (k H locs lsA hZ hR hS hl)
theorem g_ishr {x y : Int32} (E : q_Ev C cc nL own al ad FR LO) (hd : decode cc pc = .ok (.ishr, 1))  (k : gg C ty nL kc ks al ad (pc + 1) ls (.int (x >>> (y &&& 31)) :: st) h) : gg C ty nL kc ks al ad pc ls (.int y :: .int x :: st) h := by
  obtain ⟨⟨p, l, e, R, s⟩, ⟨m, args, below, meth, c⟩, ⟨D, ca, A, Q⟩⟩ := C
  exact fun H locs lsA hZ hR hS hl => lv_ishr E.1 E.2.1 hd  (k H locs lsA hZ hR hS hl)
theorem g_ladd {x y : Int64} (E : q_Ev C cc nL own al ad FR LO) (hd : decode cc pc = .ok (.ladd, 1))  (k : gg C ty nL kc ks al ad (pc + 1) ls (.long (x + y) :: st) h) : gg C ty nL kc ks al ad pc ls (.long y :: .long x :: st) h := by
  obtain ⟨⟨p, l, e, R, s⟩, ⟨m, args, below, meth, c⟩, ⟨D, ca, A, Q⟩⟩ := C
  exact fun H locs lsA hZ hR hS hl => lv_ladd E.1 E.2.1 hd  (k H locs lsA hZ hR hS hl)
theorem g_lsub {x y : Int64} (E : q_Ev C cc nL own al ad FR LO) (hd : decode cc pc = .ok (.lsub, 1))  (k : gg C ty nL kc ks al ad (pc + 1) ls (.long (x - y) :: st) h) : gg C ty nL kc ks al ad pc ls (.long y :: .long x :: st) h := by
  obtain ⟨⟨p, l, e, R, s⟩, ⟨m, args, below, meth, c⟩, ⟨D, ca, A, Q⟩⟩ := C
  exact fun H locs lsA hZ hR hS hl => lv_lsub E.1 E.2.1 hd  (k H locs lsA hZ hR hS hl)
theorem g_lmul {x y : Int64} (E : q_Ev C cc nL own al ad FR LO) (hd : decode cc pc = .ok (.lmul, 1))  (k : gg C ty nL kc ks al ad (pc + 1) ls (.long (x * y) :: st) h) : gg C ty nL kc ks al ad pc ls (.long y :: .long x :: st) h := by
  obtain ⟨⟨p, l, e, R, s⟩, ⟨m, args, below, meth, c⟩, ⟨D, ca, A, Q⟩⟩ := C
  exact fun H locs lsA hZ hR hS hl => lv_lmul E.1 E.2.1 hd  (k H locs lsA hZ hR hS hl)
theorem g_land {x y : Int64} (E : q_Ev C cc nL own al ad FR LO) (hd : decode cc pc = .ok (.land, 1))  (k : gg C ty nL kc ks al ad (pc + 1) ls (.long (x &&& y) :: st) h) : gg C ty nL kc ks al ad pc ls (.long y :: .long x :: st) h := by
  obtain ⟨⟨p, l, e, R, s⟩, ⟨m, args, below, meth, c⟩, ⟨D, ca, A, Q⟩⟩ := C
  exact fun H locs lsA hZ hR hS hl => lv_land E.1 E.2.1 hd  (k H locs lsA hZ hR hS hl)
theorem g_lor {x y : Int64} (E : q_Ev C cc nL own al ad FR LO) (hd : decode cc pc = .ok (.lor, 1))  (k : gg C ty nL kc ks al ad (pc + 1) ls (.long (x ||| y) :: st) h) : gg C ty nL kc ks al ad pc ls (.long y :: .long x :: st) h := by
  obtain ⟨⟨p, l, e, R, s⟩, ⟨m, args, below, meth, c⟩, ⟨D, ca, A, Q⟩⟩ := C
  exact fun H locs lsA hZ hR hS hl => lv_lor E.1 E.2.1 hd  (k H locs lsA hZ hR hS hl)
theorem g_lxor {x y : Int64} (E : q_Ev C cc nL own al ad FR LO) (hd : decode cc pc = .ok (.lxor, 1))  (k : gg C ty nL kc ks al ad (pc + 1) ls (.long (x ^^^ y) :: st) h) : gg C ty nL kc ks al ad pc ls (.long y :: .long x :: st) h := by
  obtain ⟨⟨p, l, e, R, s⟩, ⟨m, args, below, meth, c⟩, ⟨D, ca, A, Q⟩⟩ := C
  exact fun H locs lsA hZ hR hS hl => lv_lxor E.1 E.2.1 hd  (k H locs lsA hZ hR hS hl)
theorem g_idiv {x y : Int32} (E : q_Ev C cc nL own al ad FR LO) (hd : decode cc pc = .ok (.idiv, 1)) (hne : ¬ y = 0) (k : gg C ty nL kc ks al ad (pc + 1) ls (.int (x / y) :: st) h) : gg C ty nL kc ks al ad pc ls (.int y :: .int x :: st) h := by
  obtain ⟨⟨p, l, e, R, s⟩, ⟨m, args, below, meth, c⟩, ⟨D, ca, A, Q⟩⟩ := C
  exact fun H locs lsA hZ hR hS hl => lv_idiv E.1 E.2.1 hd hne (k H locs lsA hZ hR hS hl)
theorem g_irem {x y : Int32} (E : q_Ev C cc nL own al ad FR LO) (hd : decode cc pc = .ok (.irem, 1)) (hne : ¬ y = 0) (k : gg C ty nL kc ks al ad (pc + 1) ls (.int (x - x / y * y) :: st) h) : gg C ty nL kc ks al ad pc ls (.int y :: .int x :: st) h := by
  obtain ⟨⟨p, l, e, R, s⟩, ⟨m, args, below, meth, c⟩, ⟨D, ca, A, Q⟩⟩ := C
  exact fun H locs lsA hZ hR hS hl => lv_irem E.1 E.2.1 hd hne (k H locs lsA hZ hR hS hl)
theorem g_ldiv {x y : Int64} (E : q_Ev C cc nL own al ad FR LO) (hd : decode cc pc = .ok (.ldiv, 1)) (hne : ¬ y = 0) (k : gg C ty nL kc ks al ad (pc + 1) ls (.long (x / y) :: st) h) : gg C ty nL kc ks al ad pc ls (.long y :: .long x :: st) h := by
  obtain ⟨⟨p, l, e, R, s⟩, ⟨m, args, below, meth, c⟩, ⟨D, ca, A, Q⟩⟩ := C
  exact fun H locs lsA hZ hR hS hl => lv_ldiv E.1 E.2.1 hd hne (k H locs lsA hZ hR hS hl)
theorem g_lrem {x y : Int64} (E : q_Ev C cc nL own al ad FR LO) (hd : decode cc pc = .ok (.lrem, 1)) (hne : ¬ y = 0) (k : gg C ty nL kc ks al ad (pc + 1) ls (.long (x - x / y * y) :: st) h) : gg C ty nL kc ks al ad pc ls (.long y :: .long x :: st) h := by
  obtain ⟨⟨p, l, e, R, s⟩, ⟨m, args, below, meth, c⟩, ⟨D, ca, A, Q⟩⟩ := C
  exact fun H locs lsA hZ hR hS hl => lv_lrem E.1 E.2.1 hd hne (k H locs lsA hZ hR hS hl)
theorem g_iushr {x y : Int32} (E : q_Ev C cc nL own al ad FR LO) (hd : decode cc pc = .ok (.iushr, 1))  (k : gg C ty nL kc ks al ad (pc + 1) ls (.int (x.toUInt32 >>> (y.toUInt32 &&& Int32.toUInt32 31)).toInt32 :: st) h) : gg C ty nL kc ks al ad pc ls (.int y :: .int x :: st) h := by
  obtain ⟨⟨p, l, e, R, s⟩, ⟨m, args, below, meth, c⟩, ⟨D, ca, A, Q⟩⟩ := C
  exact fun H locs lsA hZ hR hS hl => lv_iushr E.1 E.2.1 hd rfl (k H locs lsA hZ hR hS hl)
theorem g_lushr {x : Int64} {y : Int32} (E : q_Ev C cc nL own al ad FR LO) (hd : decode cc pc = .ok (.lushr, 1))  (k : gg C ty nL kc ks al ad (pc + 1) ls (.long (x.toUInt64 >>> (y.toInt64.toUInt64 &&& Int64.toUInt64 63)).toInt64 :: st) h) : gg C ty nL kc ks al ad pc ls (.int y :: .long x :: st) h := by
  obtain ⟨⟨p, l, e, R, s⟩, ⟨m, args, below, meth, c⟩, ⟨D, ca, A, Q⟩⟩ := C
  exact fun H locs lsA hZ hR hS hl => lv_lushr E.1 E.2.1 hd rfl (k H locs lsA hZ hR hS hl)
theorem g_lshl {x : Int64} {y : Int32} (E : q_Ev C cc nL own al ad FR LO) (hd : decode cc pc = .ok (.lshl, 1))  (k : gg C ty nL kc ks al ad (pc + 1) ls (.long (x <<< (y.toInt64 &&& 63)) :: st) h) : gg C ty nL kc ks al ad pc ls (.int y :: .long x :: st) h := by
  obtain ⟨⟨p, l, e, R, s⟩, ⟨m, args, below, meth, c⟩, ⟨D, ca, A, Q⟩⟩ := C
  exact fun H locs lsA hZ hR hS hl => lv_lshl E.1 E.2.1 hd rfl (k H locs lsA hZ hR hS hl)
theorem g_lshr {x : Int64} {y : Int32} (E : q_Ev C cc nL own al ad FR LO) (hd : decode cc pc = .ok (.lshr, 1))  (k : gg C ty nL kc ks al ad (pc + 1) ls (.long (x >>> (y.toInt64 &&& 63)) :: st) h) : gg C ty nL kc ks al ad pc ls (.int y :: .long x :: st) h := by
  obtain ⟨⟨p, l, e, R, s⟩, ⟨m, args, below, meth, c⟩, ⟨D, ca, A, Q⟩⟩ := C
  exact fun H locs lsA hZ hR hS hl => lv_lshr E.1 E.2.1 hd rfl (k H locs lsA hZ hR hS hl)
theorem g_i2l {x : Int32} (E : q_Ev C cc nL own al ad FR LO) (hd : decode cc pc = .ok (.i2l, 1))  (k : gg C ty nL kc ks al ad (pc + 1) ls (.long x.toInt64 :: st) h) : gg C ty nL kc ks al ad pc ls (.int x :: st) h := by
  obtain ⟨⟨p, l, e, R, s⟩, ⟨m, args, below, meth, c⟩, ⟨D, ca, A, Q⟩⟩ := C
  exact fun H locs lsA hZ hR hS hl => lv_i2l E.1 E.2.1 hd rfl (k H locs lsA hZ hR hS hl)
theorem g_l2i {x : Int64} (E : q_Ev C cc nL own al ad FR LO) (hd : decode cc pc = .ok (.l2i, 1))  (k : gg C ty nL kc ks al ad (pc + 1) ls (.int x.toInt32 :: st) h) : gg C ty nL kc ks al ad pc ls (.long x :: st) h := by
  obtain ⟨⟨p, l, e, R, s⟩, ⟨m, args, below, meth, c⟩, ⟨D, ca, A, Q⟩⟩ := C
  exact fun H locs lsA hZ hR hS hl => lv_l2i E.1 E.2.1 hd rfl (k H locs lsA hZ hR hS hl)
theorem g_i2b {x : Int32} (E : q_Ev C cc nL own al ad FR LO) (hd : decode cc pc = .ok (.i2b, 1))  (k : gg C ty nL kc ks al ad (pc + 1) ls (.int x.toInt8.toInt32 :: st) h) : gg C ty nL kc ks al ad pc ls (.int x :: st) h := by
  obtain ⟨⟨p, l, e, R, s⟩, ⟨m, args, below, meth, c⟩, ⟨D, ca, A, Q⟩⟩ := C
  exact fun H locs lsA hZ hR hS hl => lv_i2b E.1 E.2.1 hd rfl (k H locs lsA hZ hR hS hl)
theorem g_i2s {x : Int32} (E : q_Ev C cc nL own al ad FR LO) (hd : decode cc pc = .ok (.i2s, 1))  (k : gg C ty nL kc ks al ad (pc + 1) ls (.int x.toInt16.toInt32 :: st) h) : gg C ty nL kc ks al ad pc ls (.int x :: st) h := by
  obtain ⟨⟨p, l, e, R, s⟩, ⟨m, args, below, meth, c⟩, ⟨D, ca, A, Q⟩⟩ := C
  exact fun H locs lsA hZ hR hS hl => lv_i2s E.1 E.2.1 hd rfl (k H locs lsA hZ hR hS hl)
theorem g_lcmp {x y : Int64} (E : q_Ev C cc nL own al ad FR LO) (hd : decode cc pc = .ok (.lcmp, 1))  (k : gg C ty nL kc ks al ad (pc + 1) ls (.int (lg_cmp x y) :: st) h) : gg C ty nL kc ks al ad pc ls (.long y :: .long x :: st) h := by
  obtain ⟨⟨p, l, e, R, s⟩, ⟨m, args, below, meth, c⟩, ⟨D, ca, A, Q⟩⟩ := C
  exact fun H locs lsA hZ hR hS hl => W.lcmp E.1 E.2.1 hd  (k H locs lsA hZ hR hS hl)
theorem g_dupi {x : Int32} (E : q_Ev C cc nL own al ad FR LO) (hd : decode cc pc = .ok (.dup, 1))  (k : gg C ty nL kc ks al ad (pc + 1) ls (.int x :: .int x :: st) h) : gg C ty nL kc ks al ad pc ls (.int x :: st) h := by
  obtain ⟨⟨p, l, e, R, s⟩, ⟨m, args, below, meth, c⟩, ⟨D, ca, A, Q⟩⟩ := C
  exact fun H locs lsA hZ hR hS hl => lv_dup E.1 E.2.1 hd rfl (k H locs lsA hZ hR hS hl)
theorem g_dupr {x : Nat} (E : q_Ev C cc nL own al ad FR LO) (hd : decode cc pc = .ok (.dup, 1))  (k : gg C ty nL kc ks al ad (pc + 1) ls (.ref x :: .ref x :: st) h) : gg C ty nL kc ks al ad pc ls (.ref x :: st) h := by
  obtain ⟨⟨p, l, e, R, s⟩, ⟨m, args, below, meth, c⟩, ⟨D, ca, A, Q⟩⟩ := C
  exact fun H locs lsA hZ hR hS hl => lv_dup E.1 E.2.1 hd rfl (k H locs lsA hZ hR hS hl)
theorem g_dupl {x : Int64} (E : q_Ev C cc nL own al ad FR LO) (hd : decode cc pc = .ok (.dup2, 1))  (k : gg C ty nL kc ks al ad (pc + 1) ls (.long x :: .long x :: st) h) : gg C ty nL kc ks al ad pc ls (.long x :: st) h := by
  obtain ⟨⟨p, l, e, R, s⟩, ⟨m, args, below, meth, c⟩, ⟨D, ca, A, Q⟩⟩ := C
  exact fun H locs lsA hZ hR hS hl => lv_dup2_2 E.1 E.2.1 hd rfl (k H locs lsA hZ hR hS hl)
theorem g_dup2 {x : Int32} {y : Nat} (E : q_Ev C cc nL own al ad FR LO) (hd : decode cc pc = .ok (.dup2, 1))  (k : gg C ty nL kc ks al ad (pc + 1) ls (.int x :: .ref y :: .int x :: .ref y :: st) h) : gg C ty nL kc ks al ad pc ls (.int x :: .ref y :: st) h := by
  obtain ⟨⟨p, l, e, R, s⟩, ⟨m, args, below, meth, c⟩, ⟨D, ca, A, Q⟩⟩ := C
  exact fun H locs lsA hZ hR hS hl => lv_dup2_11 E.1 E.2.1 hd rfl rfl (k H locs lsA hZ hR hS hl)
theorem g_popi {x : Int32} (E : q_Ev C cc nL own al ad FR LO) (hd : decode cc pc = .ok (.pop, 1))  (k : gg C ty nL kc ks al ad (pc + 1) ls st h) : gg C ty nL kc ks al ad pc ls (.int x :: st) h := by
  obtain ⟨⟨p, l, e, R, s⟩, ⟨m, args, below, meth, c⟩, ⟨D, ca, A, Q⟩⟩ := C
  exact fun H locs lsA hZ hR hS hl => lv_pop E.1 E.2.1 hd rfl (k H locs lsA hZ hR hS hl)
theorem g_icmp_eq {x y : Int32} {off : Int} {tgt : Nat} (E : q_Ev C cc nL own al ad FR LO) (hd : decode cc pc = .ok (.if_icmp .eq off, 3)) (ht : (pc : Int) + off = (tgt : Int)) (kt : x = y → gg C ty nL kc ks al ad tgt ls st h) (kf : ¬ x = y → gg C ty nL kc ks al ad (pc + 3) ls st h) : gg C ty nL kc ks al ad pc ls (.int y :: .int x :: st) h := by
  obtain ⟨⟨p, l, e, R, s⟩, ⟨m, args, below, meth, c⟩, ⟨D, ca, A, Q⟩⟩ := C
  exact fun H locs lsA hZ hR hS hl => lv_icmp_eq E.1 E.2.1 hd ht (fun z => kt z H locs lsA hZ hR hS hl) (fun z => kf z H locs lsA hZ hR hS hl)
theorem g_if_eq {x : Int32} {off : Int} {tgt : Nat} (E : q_Ev C cc nL own al ad FR LO) (hd : decode cc pc = .ok (.ifCond .eq off, 3)) (ht : (pc : Int) + off = (tgt : Int)) (kt : x = 0 → gg C ty nL kc ks al ad tgt ls st h) (kf : ¬ x = 0 → gg C ty nL kc ks al ad (pc + 3) ls st h) : gg C ty nL kc ks al ad pc ls (.int x :: st) h := by
  obtain ⟨⟨p, l, e, R, s⟩, ⟨m, args, below, meth, c⟩, ⟨D, ca, A, Q⟩⟩ := C
  exact fun H locs lsA hZ hR hS hl => lv_if_eq E.1 E.2.1 hd ht (fun z => kt z H locs lsA hZ hR hS hl) (fun z => kf z H locs lsA hZ hR hS hl)
theorem g_icmp_lt {x y : Int32} {off : Int} {tgt : Nat} (E : q_Ev C cc nL own al ad FR LO) (hd : decode cc pc = .ok (.if_icmp .lt off, 3)) (ht : (pc : Int) + off = (tgt : Int)) (kt : x < y → gg C ty nL kc ks al ad tgt ls st h) (kf : ¬ x < y → gg C ty nL kc ks al ad (pc + 3) ls st h) : gg C ty nL kc ks al ad pc ls (.int y :: .int x :: st) h := by
  obtain ⟨⟨p, l, e, R, s⟩, ⟨m, args, below, meth, c⟩, ⟨D, ca, A, Q⟩⟩ := C
  exact fun H locs lsA hZ hR hS hl => lv_icmp_lt E.1 E.2.1 hd ht (fun z => kt z H locs lsA hZ hR hS hl) (fun z => kf z H locs lsA hZ hR hS hl)
theorem g_if_lt {x : Int32} {off : Int} {tgt : Nat} (E : q_Ev C cc nL own al ad FR LO) (hd : decode cc pc = .ok (.ifCond .lt off, 3)) (ht : (pc : Int) + off = (tgt : Int)) (kt : x < 0 → gg C ty nL kc ks al ad tgt ls st h) (kf : ¬ x < 0 → gg C ty nL kc ks al ad (pc + 3) ls st h) : gg C ty nL kc ks al ad pc ls (.int x :: st) h := by
  obtain ⟨⟨p, l, e, R, s⟩, ⟨m, args, below, meth, c⟩, ⟨D, ca, A, Q⟩⟩ := C
  exact fun H locs lsA hZ hR hS hl => lv_if_lt E.1 E.2.1 hd ht (fun z => kt z H locs lsA hZ hR hS hl) (fun z => kf z H locs lsA hZ hR hS hl)
theorem g_icmp_ge {x y : Int32} {off : Int} {tgt : Nat} (E : q_Ev C cc nL own al ad FR LO) (hd : decode cc pc = .ok (.if_icmp .ge off, 3)) (ht : (pc : Int) + off = (tgt : Int)) (kt : y ≤ x → gg C ty nL kc ks al ad tgt ls st h) (kf : ¬ y ≤ x → gg C ty nL kc ks al ad (pc + 3) ls st h) : gg C ty nL kc ks al ad pc ls (.int y :: .int x :: st) h := by
  obtain ⟨⟨p, l, e, R, s⟩, ⟨m, args, below, meth, c⟩, ⟨D, ca, A, Q⟩⟩ := C
  exact fun H locs lsA hZ hR hS hl => lv_icmp_ge E.1 E.2.1 hd ht (fun z => kt z H locs lsA hZ hR hS hl) (fun z => kf z H locs lsA hZ hR hS hl)
theorem g_if_ge {x : Int32} {off : Int} {tgt : Nat} (E : q_Ev C cc nL own al ad FR LO) (hd : decode cc pc = .ok (.ifCond .ge off, 3)) (ht : (pc : Int) + off = (tgt : Int)) (kt : 0 ≤ x → gg C ty nL kc ks al ad tgt ls st h) (kf : ¬ 0 ≤ x → gg C ty nL kc ks al ad (pc + 3) ls st h) : gg C ty nL kc ks al ad pc ls (.int x :: st) h := by
  obtain ⟨⟨p, l, e, R, s⟩, ⟨m, args, below, meth, c⟩, ⟨D, ca, A, Q⟩⟩ := C
  exact fun H locs lsA hZ hR hS hl => lv_if_ge E.1 E.2.1 hd ht (fun z => kt z H locs lsA hZ hR hS hl) (fun z => kf z H locs lsA hZ hR hS hl)
theorem g_icmp_gt {x y : Int32} {off : Int} {tgt : Nat} (E : q_Ev C cc nL own al ad FR LO) (hd : decode cc pc = .ok (.if_icmp .gt off, 3)) (ht : (pc : Int) + off = (tgt : Int)) (kt : y < x → gg C ty nL kc ks al ad tgt ls st h) (kf : ¬ y < x → gg C ty nL kc ks al ad (pc + 3) ls st h) : gg C ty nL kc ks al ad pc ls (.int y :: .int x :: st) h := by
  obtain ⟨⟨p, l, e, R, s⟩, ⟨m, args, below, meth, c⟩, ⟨D, ca, A, Q⟩⟩ := C
  exact fun H locs lsA hZ hR hS hl => lv_icmp_gt E.1 E.2.1 hd ht (fun z => kt z H locs lsA hZ hR hS hl) (fun z => kf z H locs lsA hZ hR hS hl)
theorem g_if_gt {x : Int32} {off : Int} {tgt : Nat} (E : q_Ev C cc nL own al ad FR LO) (hd : decode cc pc = .ok (.ifCond .gt off, 3)) (ht : (pc : Int) + off = (tgt : Int)) (kt : 0 < x → gg C ty nL kc ks al ad tgt ls st h) (kf : ¬ 0 < x → gg C ty nL kc ks al ad (pc + 3) ls st h) : gg C ty nL kc ks al ad pc ls (.int x :: st) h := by
  obtain ⟨⟨p, l, e, R, s⟩, ⟨m, args, below, meth, c⟩, ⟨D, ca, A, Q⟩⟩ := C
  exact fun H locs lsA hZ hR hS hl => lv_if_gt E.1 E.2.1 hd ht (fun z => kt z H locs lsA hZ hR hS hl) (fun z => kf z H locs lsA hZ hR hS hl)
theorem g_icmp_le {x y : Int32} {off : Int} {tgt : Nat} (E : q_Ev C cc nL own al ad FR LO) (hd : decode cc pc = .ok (.if_icmp .le off, 3)) (ht : (pc : Int) + off = (tgt : Int)) (kt : x ≤ y → gg C ty nL kc ks al ad tgt ls st h) (kf : ¬ x ≤ y → gg C ty nL kc ks al ad (pc + 3) ls st h) : gg C ty nL kc ks al ad pc ls (.int y :: .int x :: st) h := by
  obtain ⟨⟨p, l, e, R, s⟩, ⟨m, args, below, meth, c⟩, ⟨D, ca, A, Q⟩⟩ := C
  exact fun H locs lsA hZ hR hS hl => lv_icmp_le E.1 E.2.1 hd ht (fun z => kt z H locs lsA hZ hR hS hl) (fun z => kf z H locs lsA hZ hR hS hl)
theorem g_if_le {x : Int32} {off : Int} {tgt : Nat} (E : q_Ev C cc nL own al ad FR LO) (hd : decode cc pc = .ok (.ifCond .le off, 3)) (ht : (pc : Int) + off = (tgt : Int)) (kt : x ≤ 0 → gg C ty nL kc ks al ad tgt ls st h) (kf : ¬ x ≤ 0 → gg C ty nL kc ks al ad (pc + 3) ls st h) : gg C ty nL kc ks al ad pc ls (.int x :: st) h := by
  obtain ⟨⟨p, l, e, R, s⟩, ⟨m, args, below, meth, c⟩, ⟨D, ca, A, Q⟩⟩ := C
  exact fun H locs lsA hZ hR hS hl => lv_if_le E.1 E.2.1 hd ht (fun z => kt z H locs lsA hZ hR hS hl) (fun z => kf z H locs lsA hZ hR hS hl)
theorem g_icmp_ne {x y : Int32} {off : Int} {tgt : Nat} (E : q_Ev C cc nL own al ad FR LO) (hd : decode cc pc = .ok (.if_icmp .ne off, 3)) (ht : (pc : Int) + off = (tgt : Int)) (kt : ¬ x = y → gg C ty nL kc ks al ad tgt ls st h) (kf : x = y → gg C ty nL kc ks al ad (pc + 3) ls st h) : gg C ty nL kc ks al ad pc ls (.int y :: .int x :: st) h := by
  obtain ⟨⟨p, l, e, R, s⟩, ⟨m, args, below, meth, c⟩, ⟨D, ca, A, Q⟩⟩ := C
  exact fun H locs lsA hZ hR hS hl => lv_icmp_ne E.1 E.2.1 hd ht (fun z => kt z H locs lsA hZ hR hS hl) (fun z => kf z H locs lsA hZ hR hS hl)
theorem g_if_ne {x : Int32} {off : Int} {tgt : Nat} (E : q_Ev C cc nL own al ad FR LO) (hd : decode cc pc = .ok (.ifCond .ne off, 3)) (ht : (pc : Int) + off = (tgt : Int)) (kt : ¬ x = 0 → gg C ty nL kc ks al ad tgt ls st h) (kf : x = 0 → gg C ty nL kc ks al ad (pc + 3) ls st h) : gg C ty nL kc ks al ad pc ls (.int x :: st) h := by
  obtain ⟨⟨p, l, e, R, s⟩, ⟨m, args, below, meth, c⟩, ⟨D, ca, A, Q⟩⟩ := C
  exact fun H locs lsA hZ hR hS hl => lv_if_ne E.1 E.2.1 hd ht (fun z => kt z H locs lsA hZ hR hS hl) (fun z => kf z H locs lsA hZ hR hS hl)
theorem g_goto {off : Int} {tgt : Nat} (E : q_Ev C cc nL own al ad FR LO) (hd : decode cc pc = .ok (.goto off, 3)) (ht : (pc : Int) + off = (tgt : Int)) (k : gg C ty nL kc ks al ad tgt ls st h) : gg C ty nL kc ks al ad pc ls st h := by
  obtain ⟨⟨p, l, e, R, s⟩, ⟨m, args, below, meth, c⟩, ⟨D, ca, A, Q⟩⟩ := C
  exact fun H locs lsA hZ hR hS hl => lv_goto E.1 E.2.1 hd ht (k H locs lsA hZ hR hS hl)
theorem g_ifnonnull {off : Int} {x tgt : Nat} (E : q_Ev C cc nL own al ad FR LO) (hd : decode cc pc = .ok (.ifnonnull off, 3)) (ht : (pc : Int) + off = (tgt : Int)) (k : gg C ty nL kc ks al ad tgt ls st h) : gg C ty nL kc ks al ad pc ls (.ref x :: st) h := by
  obtain ⟨⟨p, l, e, R, s⟩, ⟨m, args, below, meth, c⟩, ⟨D, ca, A, Q⟩⟩ := C
  exact fun H locs lsA hZ hR hS hl => lv_ifnonnull E.1 E.2.1 hd ht (k H locs lsA hZ hR hS hl)
theorem g_ifnonnullN {off : Int} (E : q_Ev C cc nL own al ad FR LO) (hd : decode cc pc = .ok (.ifnonnull off, 3)) (k : gg C ty nL kc ks al ad (pc + 3) ls st h) : gg C ty nL kc ks al ad pc ls (.null :: st) h := by
  obtain ⟨⟨p, l, e, R, s⟩, ⟨m, args, below, meth, c⟩, ⟨D, ca, A, Q⟩⟩ := C
  exact fun H locs lsA hZ hR hS hl => lv_ifnonnullN E.1 E.2.1 hd (k H locs lsA hZ hR hS hl)
theorem g_tableOut {dflt lo hi : Int} {offs : Array Int} {len : Nat} {x : Int32} {tgt : Nat} (E : q_Ev C cc nL own al ad FR LO) (hd : decode cc pc = .ok (.tableswitch dflt lo hi offs, len)) (hx : x.toInt < lo ∨ hi < x.toInt) (ht : (pc : Int) + dflt = (tgt : Int)) (k : gg C ty nL kc ks al ad tgt ls st h) : gg C ty nL kc ks al ad pc ls (.int x :: st) h := by
  obtain ⟨⟨p, l, e, R, s⟩, ⟨m, args, below, meth, c⟩, ⟨D, ca, A, Q⟩⟩ := C
  exact fun H locs lsA hZ hR hS hl => lv_tableOut E.1 E.2.1 hd hx ht (k H locs lsA hZ hR hS hl)
theorem g_tableIn {dflt lo hi : Int} {offs : Array Int} {len : Nat} {x : Int32} {off : Int} {tgt : Nat} (E : q_Ev C cc nL own al ad FR LO) (hd : decode cc pc = .ok (.tableswitch dflt lo hi offs, len)) (h1 : ¬ x.toInt < lo) (h2 : ¬ hi < x.toInt) (ho : offs[(x.toInt - lo).toNat]? = some off) (ht : (pc : Int) + off = (tgt : Int)) (k : gg C ty nL kc ks al ad tgt ls st h) : gg C ty nL kc ks al ad pc ls (.int x :: st) h := by
  obtain ⟨⟨p, l, e, R, s⟩, ⟨m, args, below, meth, c⟩, ⟨D, ca, A, Q⟩⟩ := C
  exact fun H locs lsA hZ hR hS hl => lv_tableIn E.1 E.2.1 hd h1 h2 ho ht (k H locs lsA hZ hR hS hl)
theorem g_ldc {index : Nat} {v : Int32} (E : q_Ev C cc nL own al ad FR LO) (hw : Cond.constant own index v ∈ lw_tbl) (hd : decode cc pc = .ok (.ldc index, 2)) (k : gg C ty nL kc ks al ad (pc + 2) ls (.int v :: st) h) : gg C ty nL kc ks al ad pc ls st h := by
  obtain ⟨⟨p, l, e, R, s⟩, ⟨m, args, below, meth, c⟩, ⟨D, ca, A, Q⟩⟩ := C
  exact fun H locs lsA hZ hR hS hl => lv_ldc E.1 E.2.1 E.2.2.2.1 (E.2.2.2.2.1.1 _ hw rfl _) hd (k H locs lsA hZ hR hS hl)
theorem g_ldcw {index : Nat} {v : Int32} (E : q_Ev C cc nL own al ad FR LO) (hw : Cond.constant own index v ∈ lw_tbl) (hd : decode cc pc = .ok (.ldc_w index, 3)) (k : gg C ty nL kc ks al ad (pc + 3) ls (.int v :: st) h) : gg C ty nL kc ks al ad pc ls st h := by
  obtain ⟨⟨p, l, e, R, s⟩, ⟨m, args, below, meth, c⟩, ⟨D, ca, A, Q⟩⟩ := C
  exact fun H locs lsA hZ hR hS hl => lv_ldcw E.1 E.2.1 E.2.2.2.1 (E.2.2.2.2.1.1 _ hw rfl _) hd (k H locs lsA hZ hR hS hl)
theorem g_ldc2 {index : Nat} {v : Int64} (E : q_Ev C cc nL own al ad FR LO) (hw : Cond.constantLong own index v ∈ lw_tbl) (hd : decode cc pc = .ok (.ldc2_w index, 3)) (k : gg C ty nL kc ks al ad (pc + 3) ls (.long v :: st) h) : gg C ty nL kc ks al ad pc ls st h := by
  obtain ⟨⟨p, l, e, R, s⟩, ⟨m, args, below, meth, c⟩, ⟨D, ca, A, Q⟩⟩ := C
  exact fun H locs lsA hZ hR hS hl => lv_ldc2 E.1 E.2.1 E.2.2.2.1 (E.2.2.2.2.1.1 _ hw rfl _) hd (k H locs lsA hZ hR hS hl)
theorem g_iload_0 {r : List (Option Value)} {x : Int32} (E : q_Ev C cc nL own al ad FR LO) (hd : decode cc pc = .ok (.iload_n 0, 1)) (k : gg C ty nL kc ks al ad (pc + 1) (some (.int x) :: r) (.int x :: st) h) : gg C ty nL kc ks al ad pc (some (.int x) :: r) st h := by
  obtain ⟨⟨p, l, e, R, s⟩, ⟨m, args, below, meth, c⟩, ⟨D, ca, A, Q⟩⟩ := C
  exact fun H locs lsA hZ hR hS hl => lv_iload_n E.1 E.2.1 hd rfl (q_L.get hl (i := 0) rfl) (k H locs lsA hZ hR hS hl)
theorem g_istore_0 {az : Option Value} {r : List (Option Value)} {x : Int32} (E : q_Ev C cc nL own al ad FR LO) (hd : decode cc pc = .ok (.istore_n 0, 1)) (hi : 0 < nL) (hn : q_nl (az :: r) 0 = true) (k : gg C ty nL kc ks al ad (pc + 1) (some (.int x) :: r) st h) : gg C ty nL kc ks al ad pc (az :: r) (.int x :: st) h := by
  obtain ⟨⟨p, l, e, R, s⟩, ⟨m, args, below, meth, c⟩, ⟨D, ca, A, Q⟩⟩ := C
  exact fun H locs lsA hZ hR hS hl => lv_istore_n E.1 E.2.1 hd rfl hl hi rfl (fun ls2 hl2 => k H locs ls2 hZ hR hS (q_L.set1 (v := .int x) hn hl2))
theorem g_lload_0 {r : List (Option Value)} {x : Int64} (E : q_Ev C cc nL own al ad FR LO) (hd : decode cc pc = .ok (.lload_n 0, 1)) (k : gg C ty nL kc ks al ad (pc + 1) (some (.long x) :: r) (.long x :: st) h) : gg C ty nL kc ks al ad pc (some (.long x) :: r) st h := by
  obtain ⟨⟨p, l, e, R, s⟩, ⟨m, args, below, meth, c⟩, ⟨D, ca, A, Q⟩⟩ := C
  exact fun H locs lsA hZ hR hS hl => lv_lload_n E.1 E.2.1 hd rfl (q_L.get hl (i := 0) rfl) (k H locs lsA hZ hR hS hl)
theorem g_lstore_0 {az ay : Option Value} {r : List (Option Value)} {x : Int64} (E : q_Ev C cc nL own al ad FR LO) (hd : decode cc pc = .ok (.lstore_n 0, 1)) (hi : 0 + 1 < nL) (hn : q_nl (az :: ay :: r) 0 = true) (k : gg C ty nL kc ks al ad (pc + 1) (some (.long x) :: none :: r) st h) : gg C ty nL kc ks al ad pc (az :: ay :: r) (.long x :: st) h := by
  obtain ⟨⟨p, l, e, R, s⟩, ⟨m, args, below, meth, c⟩, ⟨D, ca, A, Q⟩⟩ := C
  exact fun H locs lsA hZ hR hS hl => lv_lstore_n E.1 E.2.1 hd rfl hl hi rfl (fun ls2 hl2 => k H locs ls2 hZ hR hS (q_L.set2 (v := .long x) hn hl2))
theorem g_aload_0 {r : List (Option Value)} {x : Nat} (E : q_Ev C cc nL own al ad FR LO) (hd : decode cc pc = .ok (.aload_n 0, 1)) (k : gg C ty nL kc ks al ad (pc + 1) (some (.ref x) :: r) (.ref x :: st) h) : gg C ty nL kc ks al ad pc (some (.ref x) :: r) st h := by
  obtain ⟨⟨p, l, e, R, s⟩, ⟨m, args, below, meth, c⟩, ⟨D, ca, A, Q⟩⟩ := C
  exact fun H locs lsA hZ hR hS hl => lv_aload_n E.1 E.2.1 hd rfl (q_L.get hl (i := 0) rfl) (k H locs lsA hZ hR hS hl)
theorem g_astore_0 {az : Option Value} {r : List (Option Value)} {x : Nat} (E : q_Ev C cc nL own al ad FR LO) (hd : decode cc pc = .ok (.astore_n 0, 1)) (hi : 0 < nL) (hn : q_nl (az :: r) 0 = true) (k : gg C ty nL kc ks al ad (pc + 1) (some (.ref x) :: r) st h) : gg C ty nL kc ks al ad pc (az :: r) (.ref x :: st) h := by
  obtain ⟨⟨p, l, e, R, s⟩, ⟨m, args, below, meth, c⟩, ⟨D, ca, A, Q⟩⟩ := C
  exact fun H locs lsA hZ hR hS hl => lv_astore_n E.1 E.2.1 hd rfl hl hi rfl (fun ls2 hl2 => k H locs ls2 hZ hR hS (q_L.set1 (v := .ref x) hn hl2))
theorem g_iinc_0 {r : List (Option Value)} {x u : Int32} {n : Int} (E : q_Ev C cc nL own al ad FR LO) (hd : decode cc pc = .ok (.iinc 0 n, 3)) (hv : Int32.ofInt n = u) (hi : 0 < nL) (hn : q_nl (some (.int x) :: r) 0 = true) (k : gg C ty nL kc ks al ad (pc + 3) (some (.int (x + u)) :: r) st h) : gg C ty nL kc ks al ad pc (some (.int x) :: r) st h := by
  obtain ⟨⟨p, l, e, R, s⟩, ⟨m, args, below, meth, c⟩, ⟨D, ca, A, Q⟩⟩ := C
  intro H locs lsA hZ hR hS hl
  obtain ⟨kk, hk⟩ := List.getElem?_of_mem (q_prs_mem.mpr ⟨0, .int x, by simp, rfl, rfl⟩ : (0, q_cv ad (.int x)) ∈ q_prs ad 0 (some (.int x) :: r))
  exact lv_iinc E.1 E.2.1 hd hl hk (by rw [hv]) hi rfl (fun ls2 hl2 => k H locs ls2 hZ hR hS (q_L.set1 (v := .int (x + u)) hn hl2))
theorem g_iload_1 {a0 : Option Value} {r : List (Option Value)} {x : Int32} (E : q_Ev C cc nL own al ad FR LO) (hd : decode cc pc = .ok (.iload_n 1, 1)) (k : gg C ty nL kc ks al ad (pc + 1) (a0 :: some (.int x) :: r) (.int x :: st) h) : gg C ty nL kc ks al ad pc (a0 :: some (.int x) :: r) st h := by
  obtain ⟨⟨p, l, e, R, s⟩, ⟨m, args, below, meth, c⟩, ⟨D, ca, A, Q⟩⟩ := C
  exact fun H locs lsA hZ hR hS hl => lv_iload_n E.1 E.2.1 hd rfl (q_L.get hl (i := 1) rfl) (k H locs lsA hZ hR hS hl)
theorem g_istore_1 {a0 az : Option Value} {r : List (Option Value)} {x : Int32} (E : q_Ev C cc nL own al ad FR LO) (hd : decode cc pc = .ok (.istore_n 1, 1)) (hi : 1 < nL) (hn : q_nl (a0 :: az :: r) 1 = true) (k : gg C ty nL kc ks al ad (pc + 1) (a0 :: some (.int x) :: r) st h) : gg C ty nL kc ks al ad pc (a0 :: az :: r) (.int x :: st) h := by
  obtain ⟨⟨p, l, e, R, s⟩, ⟨m, args, below, meth, c⟩, ⟨D, ca, A, Q⟩⟩ := C
  exact fun H locs lsA hZ hR hS hl => lv_istore_n E.1 E.2.1 hd rfl hl hi rfl (fun ls2 hl2 => k H locs ls2 hZ hR hS (q_L.set1 (v := .int x) hn hl2))
theorem g_lload_1 {a0 : Option Value} {r : List (Option Value)} {x : Int64} (E : q_Ev C cc nL own al ad FR LO) (hd : decode cc pc = .ok (.lload_n 1, 1)) (k : gg C ty nL kc ks al ad (pc + 1) (a0 :: some (.long x) :: r) (.long x :: st) h) : gg C ty nL kc ks al ad pc (a0 :: some (.long x) :: r) st h := by
  obtain ⟨⟨p, l, e, R, s⟩, ⟨m, args, below, meth, c⟩, ⟨D, ca, A, Q⟩⟩ := C
  exact fun H locs lsA hZ hR hS hl => lv_lload_n E.1 E.2.1 hd rfl (q_L.get hl (i := 1) rfl) (k H locs lsA hZ hR hS hl)
theorem g_lstore_1 {a0 az ay : Option Value} {r : List (Option Value)} {x : Int64} (E : q_Ev C cc nL own al ad FR LO) (hd : decode cc pc = .ok (.lstore_n 1, 1)) (hi : 1 + 1 < nL) (hn : q_nl (a0 :: az :: ay :: r) 1 = true) (k : gg C ty nL kc ks al ad (pc + 1) (a0 :: some (.long x) :: none :: r) st h) : gg C ty nL kc ks al ad pc (a0 :: az :: ay :: r) (.long x :: st) h := by
  obtain ⟨⟨p, l, e, R, s⟩, ⟨m, args, below, meth, c⟩, ⟨D, ca, A, Q⟩⟩ := C
  exact fun H locs lsA hZ hR hS hl => lv_lstore_n E.1 E.2.1 hd rfl hl hi rfl (fun ls2 hl2 => k H locs ls2 hZ hR hS (q_L.set2 (v := .long x) hn hl2))
theorem g_aload_1 {a0 : Option Value} {r : List (Option Value)} {x : Nat} (E : q_Ev C cc nL own al ad FR LO) (hd : decode cc pc = .ok (.aload_n 1, 1)) (k : gg C ty nL kc ks al ad (pc + 1) (a0 :: some (.ref x) :: r) (.ref x :: st) h) : gg C ty nL kc ks al ad pc (a0 :: some (.ref x) :: r) st h := by
  obtain ⟨⟨p, l, e, R, s⟩, ⟨m, args, below, meth, c⟩, ⟨D, ca, A, Q⟩⟩ := C
  exact fun H locs lsA hZ hR hS hl => lv_aload_n E.1 E.2.1 hd rfl (q_L.get hl (i := 1) rfl) (k H locs lsA hZ hR hS hl)
theorem g_astore_1 {a0 az : Option Value} {r : List (Option Value)} {x : Nat} (E : q_Ev C cc nL own al ad FR LO) (hd : decode cc pc = .ok (.astore_n 1, 1)) (hi : 1 < nL) (hn : q_nl (a0 :: az :: r) 1 = true) (k : gg C ty nL kc ks al ad (pc + 1) (a0 :: some (.ref x) :: r) st h) : gg C ty nL kc ks al ad pc (a0 :: az :: r) (.ref x :: st) h := by
  obtain ⟨⟨p, l, e, R, s⟩, ⟨m, args, below, meth, c⟩, ⟨D, ca, A, Q⟩⟩ := C
  exact fun H locs lsA hZ hR hS hl => lv_astore_n E.1 E.2.1 hd rfl hl hi rfl (fun ls2 hl2 => k H locs ls2 hZ hR hS (q_L.set1 (v := .ref x) hn hl2))
theorem g_iinc_1 {a0 : Option Value} {r : List (Option Value)} {x u : Int32} {n : Int} (E : q_Ev C cc nL own al ad FR LO) (hd : decode cc pc = .ok (.iinc 1 n, 3)) (hv : Int32.ofInt n = u) (hi : 1 < nL) (hn : q_nl (a0 :: some (.int x) :: r) 1 = true) (k : gg C ty nL kc ks al ad (pc + 3) (a0 :: some (.int (x + u)) :: r) st h) : gg C ty nL kc ks al ad pc (a0 :: some (.int x) :: r) st h := by
  obtain ⟨⟨p, l, e, R, s⟩, ⟨m, args, below, meth, c⟩, ⟨D, ca, A, Q⟩⟩ := C
  intro H locs lsA hZ hR hS hl
  obtain ⟨kk, hk⟩ := List.getElem?_of_mem (q_prs_mem.mpr ⟨1, .int x, by simp, rfl, rfl⟩ : (1, q_cv ad (.int x)) ∈ q_prs ad 0 (a0 :: some (.int x) :: r))
  exact lv_iinc E.1 E.2.1 hd hl hk (by rw [hv]) hi rfl (fun ls2 hl2 => k H locs ls2 hZ hR hS (q_L.set1 (v := .int (x + u)) hn hl2))
theorem g_iload_2 {a0 a1 : Option Value} {r : List (Option Value)} {x : Int32} (E : q_Ev C cc nL own al ad FR LO) (hd : decode cc pc = .ok (.iload_n 2, 1)) (k : gg C ty nL kc ks al ad (pc + 1) (a0 :: a1 :: some (.int x) :: r) (.int x :: st) h) : gg C ty nL kc ks al ad pc (a0 :: a1 :: some (.int x) :: r) st h := by
  obtain ⟨⟨p, l, e, R, s⟩, ⟨m, args, below, meth, c⟩, ⟨D, ca, A, Q⟩⟩ := C
  exact fun H locs lsA hZ hR hS hl => lv_iload_n E.1 E.2.1 hd rfl (q_L.get hl (i := 2) rfl) (k H locs lsA hZ hR hS hl)
theorem g_istore_2 {a0 a1 az : Option Value} {r : List (Option Value)} {x : Int32} (E : q_Ev C cc nL own al ad FR LO) (hd : decode cc pc = .ok (.istore_n 2, 1)) (hi : 2 < nL) (hn : q_nl (a0 :: a1 :: az :: r) 2 = true) (k : gg C ty nL kc ks al ad (pc + 1) (a0 :: a1 :: some (.int x) :: r) st h) : gg C ty nL kc ks al ad pc (a0 :: a1 :: az :: r) (.int x :: st) h := by
  obtain ⟨⟨p, l, e, R, s⟩, ⟨m, args, below, meth, c⟩, ⟨D, ca, A, Q⟩⟩ := C
  exact fun H locs lsA hZ hR hS hl => lv_istore_n E.1 E.2.1 hd rfl hl hi rfl (fun ls2 hl2 => k H locs ls2 hZ hR hS (q_L.set1 (v := .int x) hn hl2))
theorem g_lload_2 {a0 a1 : Option Value} {r : List (Option Value)} {x : Int64} (E : q_Ev C cc nL own al ad FR LO) (hd : decode cc pc = .ok (.lload_n 2, 1)) (k : gg C ty nL kc ks al ad (pc + 1) (a0 :: a1 :: some (.long x) :: r) (.long x :: st) h) : gg C ty nL kc ks al ad pc (a0 :: a1 :: some (.long x) :: r) st h := by
  obtain ⟨⟨p, l, e, R, s⟩, ⟨m, args, below, meth, c⟩, ⟨D, ca, A, Q⟩⟩ := C
  exact fun H locs lsA hZ hR hS hl => lv_lload_n E.1 E.2.1 hd rfl (q_L.get hl (i := 2) rfl) (k H locs lsA hZ hR hS hl)
theorem g_lstore_2 {a0 a1 az ay : Option Value} {r : List (Option Value)} {x : Int64} (E : q_Ev C cc nL own al ad FR LO) (hd : decode cc pc = .ok (.lstore_n 2, 1)) (hi : 2 + 1 < nL) (hn : q_nl (a0 :: a1 :: az :: ay :: r) 2 = true) (k : gg C ty nL kc ks al ad (pc + 1) (a0 :: a1 :: some (.long x) :: none :: r) st h) : gg C ty nL kc ks al ad pc (a0 :: a1 :: az :: ay :: r) (.long x :: st) h := by
  obtain ⟨⟨p, l, e, R, s⟩, ⟨m, args, below, meth, c⟩, ⟨D, ca, A, Q⟩⟩ := C
  exact fun H locs lsA hZ hR hS hl => lv_lstore_n E.1 E.2.1 hd rfl hl hi rfl (fun ls2 hl2 => k H locs ls2 hZ hR hS (q_L.set2 (v := .long x) hn hl2))
theorem g_aload_2 {a0 a1 : Option Value} {r : List (Option Value)} {x : Nat} (E : q_Ev C cc nL own al ad FR LO) (hd : decode cc pc = .ok (.aload_n 2, 1)) (k : gg C ty nL kc ks al ad (pc + 1) (a0 :: a1 :: some (.ref x) :: r) (.ref x :: st) h) : gg C ty nL kc ks al ad pc (a0 :: a1 :: some (.ref x) :: r) st h := by
  obtain ⟨⟨p, l, e, R, s⟩, ⟨m, args, below, meth, c⟩, ⟨D, ca, A, Q⟩⟩ := C
  exact fun H locs lsA hZ hR hS hl => lv_aload_n E.1 E.2.1 hd rfl (q_L.get hl (i := 2) rfl) (k H locs lsA hZ hR hS hl)
theorem g_astore_2 {a0 a1 az : Option Value} {r : List (Option Value)} {x : Nat} (E : q_Ev C cc nL own al ad FR LO) (hd : decode cc pc = .ok (.astore_n 2, 1)) (hi : 2 < nL) (hn : q_nl (a0 :: a1 :: az :: r) 2 = true) (k : gg C ty nL kc ks al ad (pc + 1) (a0 :: a1 :: some (.ref x) :: r) st h) : gg C ty nL kc ks al ad pc (a0 :: a1 :: az :: r) (.ref x :: st) h := by
  obtain ⟨⟨p, l, e, R, s⟩, ⟨m, args, below, meth, c⟩, ⟨D, ca, A, Q⟩⟩ := C
  exact fun H locs lsA hZ hR hS hl => lv_astore_n E.1 E.2.1 hd rfl hl hi rfl (fun ls2 hl2 => k H locs ls2 hZ hR hS (q_L.set1 (v := .ref x) hn hl2))
theorem g_iinc_2 {a0 a1 : Option Value} {r : List (Option Value)} {x u : Int32} {n : Int} (E : q_Ev C cc nL own al ad FR LO) (hd : decode cc pc = .ok (.iinc 2 n, 3)) (hv : Int32.ofInt n = u) (hi : 2 < nL) (hn : q_nl (a0 :: a1 :: some (.int x) :: r) 2 = true) (k : gg C ty nL kc ks al ad (pc + 3) (a0 :: a1 :: some (.int (x + u)) :: r) st h) : gg C ty nL kc ks al ad pc (a0 :: a1 :: some (.int x) :: r) st h := by
  obtain ⟨⟨p, l, e, R, s⟩, ⟨m, args, below, meth, c⟩, ⟨D, ca, A, Q⟩⟩ := C
  intro H locs lsA hZ hR hS hl
  obtain ⟨kk, hk⟩ := List.getElem?_of_mem (q_prs_mem.mpr ⟨2, .int x, by simp, rfl, rfl⟩ : (2, q_cv ad (.int x)) ∈ q_prs ad 0 (a0 :: a1 :: some (.int x) :: r))
  exact lv_iinc E.1 E.2.1 hd hl hk (by rw [hv]) hi rfl (fun ls2 hl2 => k H locs ls2 hZ hR hS (q_L.set1 (v := .int (x + u)) hn hl2))
theorem g_iload_3 {a0 a1 a2 : Option Value} {r : List (Option Value)} {x : Int32} (E : q_Ev C cc nL own al ad FR LO) (hd : decode cc pc = .ok (.iload_n 3, 1)) (k : gg C ty nL kc ks al ad (pc + 1) (a0 :: a1 :: a2 :: some (.int x) :: r) (.int x :: st) h) : gg C ty nL kc ks al ad pc (a0 :: a1 :: a2 :: some (.int x) :: r) st h := by
  obtain ⟨⟨p, l, e, R, s⟩, ⟨m, args, below, meth, c⟩, ⟨D, ca, A, Q⟩⟩ := C
  exact fun H locs lsA hZ hR hS hl => lv_iload_n E.1 E.2.1 hd rfl (q_L.get hl (i := 3) rfl) (k H locs lsA hZ hR hS hl)
theorem g_istore_3 {a0 a1 a2 az : Option Value} {r : List (Option Value)} {x : Int32} (E : q_Ev C cc nL own al ad FR LO) (hd : decode cc pc = .ok (.istore_n 3, 1)) (hi : 3 < nL) (hn : q_nl (a0 :: a1 :: a2 :: az :: r) 3 = true) (k : gg C ty nL kc ks al ad (pc + 1) (a0 :: a1 :: a2 :: some (.int x) :: r) st h) : gg C ty nL kc ks al ad pc (a0 :: a1 :: a2 :: az :: r) (.int x :: st) h := by
  obtain ⟨⟨p, l, e, R, s⟩, ⟨m, args, below, meth, c⟩, ⟨D, ca, A, Q⟩⟩ := C
  exact fun H locs lsA hZ hR hS hl => lv_istore_n E.1 E.2.1 hd rfl hl hi rfl (fun ls2 hl2 => k H locs ls2 hZ hR hS (q_L.set1 (v := .int x) hn hl2))
theorem g_lload_3 {a0 a1 a2 : Option Value} {r : List (Option Value)} {x : Int64} (E : q_Ev C cc nL own al ad FR LO) (hd : decode cc pc = .ok (.lload_n 3, 1)) (k : gg C ty nL kc ks al ad (pc + 1) (a0 :: a1 :: a2 :: some (.long x) :: r) (.long x :: st) h) : gg C ty nL kc ks al ad pc (a0 :: a1 :: a2 :: some (.long x) :: r) st h := by
  obtain ⟨⟨p, l, e, R, s⟩, ⟨m, args, below, meth, c⟩, ⟨D, ca, A, Q⟩⟩ := C
  exact fun H locs lsA hZ hR hS hl => lv_lload_n E.1 E.2.1 hd rfl (q_L.get hl (i := 3) rfl) (k H locs lsA hZ hR hS hl)
theorem g_lstore_3 {a0 a1 a2 az ay : Option Value} {r : List (Option Value)} {x : Int64} (E : q_Ev C cc nL own al ad FR LO) (hd : decode cc pc = .ok (.lstore_n 3, 1)) (hi : 3 + 1 < nL) (hn : q_nl (a0 :: a1 :: a2 :: az :: ay :: r) 3 = true) (k : gg C ty nL kc ks al ad (pc + 1) (a0 :: a1 :: a2 :: some (.long x) :: none :: r) st h) : gg C ty nL kc ks al ad pc (a0 :: a1 :: a2 :: az :: ay :: r) (.long x :: st) h := by
  obtain ⟨⟨p, l, e, R, s⟩, ⟨m, args, below, meth, c⟩, ⟨D, ca, A, Q⟩⟩ := C
  exact fun H locs lsA hZ hR hS hl => lv_lstore_n E.1 E.2.1 hd rfl hl hi rfl (fun ls2 hl2 => k H locs ls2 hZ hR hS (q_L.set2 (v := .long x) hn hl2))
theorem g_aload_3 {a0 a1 a2 : Option Value} {r : List (Option Value)} {x : Nat} (E : q_Ev C cc nL own al ad FR LO) (hd : decode cc pc = .ok (.aload_n 3, 1)) (k : gg C ty nL kc ks al ad (pc + 1) (a0 :: a1 :: a2 :: some (.ref x) :: r) (.ref x :: st) h) : gg C ty nL kc ks al ad pc (a0 :: a1 :: a2 :: some (.ref x) :: r) st h := by
  obtain ⟨⟨p, l, e, R, s⟩, ⟨m, args, below, meth, c⟩, ⟨D, ca, A, Q⟩⟩ := C
  exact fun H locs lsA hZ hR hS hl => lv_aload_n E.1 E.2.1 hd rfl (q_L.get hl (i := 3) rfl) (k H locs lsA hZ hR hS hl)
theorem g_astore_3 {a0 a1 a2 az : Option Value} {r : List (Option Value)} {x : Nat} (E : q_Ev C cc nL own al ad FR LO) (hd : decode cc pc = .ok (.astore_n 3, 1)) (hi : 3 < nL) (hn : q_nl (a0 :: a1 :: a2 :: az :: r) 3 = true) (k : gg C ty nL kc ks al ad (pc + 1) (a0 :: a1 :: a2 :: some (.ref x) :: r) st h) : gg C ty nL kc ks al ad pc (a0 :: a1 :: a2 :: az :: r) (.ref x :: st) h := by
  obtain ⟨⟨p, l, e, R, s⟩, ⟨m, args, below, meth, c⟩, ⟨D, ca, A, Q⟩⟩ := C
  exact fun H locs lsA hZ hR hS hl => lv_astore_n E.1 E.2.1 hd rfl hl hi rfl (fun ls2 hl2 => k H locs ls2 hZ hR hS (q_L.set1 (v := .ref x) hn hl2))
theorem g_iinc_3 {a0 a1 a2 : Option Value} {r : List (Option Value)} {x u : Int32} {n : Int} (E : q_Ev C cc nL own al ad FR LO) (hd : decode cc pc = .ok (.iinc 3 n, 3)) (hv : Int32.ofInt n = u) (hi : 3 < nL) (hn : q_nl (a0 :: a1 :: a2 :: some (.int x) :: r) 3 = true) (k : gg C ty nL kc ks al ad (pc + 3) (a0 :: a1 :: a2 :: some (.int (x + u)) :: r) st h) : gg C ty nL kc ks al ad pc (a0 :: a1 :: a2 :: some (.int x) :: r) st h := by
  obtain ⟨⟨p, l, e, R, s⟩, ⟨m, args, below, meth, c⟩, ⟨D, ca, A, Q⟩⟩ := C
  intro H locs lsA hZ hR hS hl
  obtain ⟨kk, hk⟩ := List.getElem?_of_mem (q_prs_mem.mpr ⟨3, .int x, by simp, rfl, rfl⟩ : (3, q_cv ad (.int x)) ∈ q_prs ad 0 (a0 :: a1 :: a2 :: some (.int x) :: r))
  exact lv_iinc E.1 E.2.1 hd hl hk (by rw [hv]) hi rfl (fun ls2 hl2 => k H locs ls2 hZ hR hS (q_L.set1 (v := .int (x + u)) hn hl2))
theorem g_iload_4 {a0 a1 a2 a3 : Option Value} {r : List (Option Value)} {x : Int32} (E : q_Ev C cc nL own al ad FR LO) (hd : decode cc pc = .ok (.iload 4, 2)) (k : gg C ty nL kc ks al ad (pc + 2) (a0 :: a1 :: a2 :: a3 :: some (.int x) :: r) (.int x :: st) h) : gg C ty nL kc ks al ad pc (a0 :: a1 :: a2 :: a3 :: some (.int x) :: r) st h := by
  obtain ⟨⟨p, l, e, R, s⟩, ⟨m, args, below, meth, c⟩, ⟨D, ca, A, Q⟩⟩ := C
  exact fun H locs lsA hZ hR hS hl => lv_iload E.1 E.2.1 hd (q_L.get hl (i := 4) rfl) (k H locs lsA hZ hR hS hl)
theorem g_istore_4 {a0 a1 a2 a3 az : Option Value} {r : List (Option Value)} {x : Int32} (E : q_Ev C cc nL own al ad FR LO) (hd : decode cc pc = .ok (.istore 4, 2)) (hi : 4 < nL) (hn : q_nl (a0 :: a1 :: a2 :: a3 :: az :: r) 4 = true) (k : gg C ty nL kc ks al ad (pc + 2) (a0 :: a1 :: a2 :: a3 :: some (.int x) :: r) st h) : gg C ty nL kc ks al ad pc (a0 :: a1 :: a2 :: a3 :: az :: r) (.int x :: st) h := by
  obtain ⟨⟨p, l, e, R, s⟩, ⟨m, args, below, meth, c⟩, ⟨D, ca, A, Q⟩⟩ := C
  exact fun H locs lsA hZ hR hS hl => lv_istore E.1 E.2.1 hd hl hi rfl (fun ls2 hl2 => k H locs ls2 hZ hR hS (q_L.set1 (v := .int x) hn hl2))
theorem g_lload_4 {a0 a1 a2 a3 : Option Value} {r : List (Option Value)} {x : Int64} (E : q_Ev C cc nL own al ad FR LO) (hd : decode cc pc = .ok (.lload 4, 2)) (k : gg C ty nL kc ks al ad (pc + 2) (a0 :: a1 :: a2 :: a3 :: some (.long x) :: r) (.long x :: st) h) : gg C ty nL kc ks al ad pc (a0 :: a1 :: a2 :: a3 :: some (.long x) :: r) st h := by
  obtain ⟨⟨p, l, e, R, s⟩, ⟨m, args, below, meth, c⟩, ⟨D, ca, A, Q⟩⟩ := C
  exact fun H locs lsA hZ hR hS hl => lv_lload E.1 E.2.1 hd (q_L.get hl (i := 4) rfl) (k H locs lsA hZ hR hS hl)
theorem g_lstore_4 {a0 a1 a2 a3 az ay : Option Value} {r : List (Option Value)} {x : Int64} (E : q_Ev C cc nL own al ad FR LO) (hd : decode cc pc = .ok (.lstore 4, 2)) (hi : 4 + 1 < nL) (hn : q_nl (a0 :: a1 :: a2 :: a3 :: az :: ay :: r) 4 = true) (k : gg C ty nL kc ks al ad (pc + 2) (a0 :: a1 :: a2 :: a3 :: some (.long x) :: none :: r) st h) : gg C ty nL kc ks al ad pc (a0 :: a1 :: a2 :: a3 :: az :: ay :: r) (.long x :: st) h := by
  obtain ⟨⟨p, l, e, R, s⟩, ⟨m, args, below, meth, c⟩, ⟨D, ca, A, Q⟩⟩ := C
  exact fun H locs lsA hZ hR hS hl => lv_lstore E.1 E.2.1 hd hl hi rfl (fun ls2 hl2 => k H locs ls2 hZ hR hS (q_L.set2 (v := .long x) hn hl2))
theorem g_aload_4 {a0 a1 a2 a3 : Option Value} {r : List (Option Value)} {x : Nat} (E : q_Ev C cc nL own al ad FR LO) (hd : decode cc pc = .ok (.aload 4, 2)) (k : gg C ty nL kc ks al ad (pc + 2) (a0 :: a1 :: a2 :: a3 :: some (.ref x) :: r) (.ref x :: st) h) : gg C ty nL kc ks al ad pc (a0 :: a1 :: a2 :: a3 :: some (.ref x) :: r) st h := by
  obtain ⟨⟨p, l, e, R, s⟩, ⟨m, args, below, meth, c⟩, ⟨D, ca, A, Q⟩⟩ := C
  exact fun H locs lsA hZ hR hS hl => lv_aload E.1 E.2.1 hd (q_L.get hl (i := 4) rfl) (k H locs lsA hZ hR hS hl)
theorem g_astore_4 {a0 a1 a2 a3 az : Option Value} {r : List (Option Value)} {x : Nat} (E : q_Ev C cc nL own al ad FR LO) (hd : decode cc pc = .ok (.astore 4, 2)) (hi : 4 < nL) (hn : q_nl (a0 :: a1 :: a2 :: a3 :: az :: r) 4 = true) (k : gg C ty nL kc ks al ad (pc + 2) (a0 :: a1 :: a2 :: a3 :: some (.ref x) :: r) st h) : gg C ty nL kc ks al ad pc (a0 :: a1 :: a2 :: a3 :: az :: r) (.ref x :: st) h := by
  obtain ⟨⟨p, l, e, R, s⟩, ⟨m, args, below, meth, c⟩, ⟨D, ca, A, Q⟩⟩ := C
  exact fun H locs lsA hZ hR hS hl => lv_astore E.1 E.2.1 hd hl hi rfl (fun ls2 hl2 => k H locs ls2 hZ hR hS (q_L.set1 (v := .ref x) hn hl2))
theorem g_iinc_4 {a0 a1 a2 a3 : Option Value} {r : List (Option Value)} {x u : Int32} {n : Int} (E : q_Ev C cc nL own al ad FR LO) (hd : decode cc pc = .ok (.iinc 4 n, 3)) (hv : Int32.ofInt n = u) (hi : 4 < nL) (hn : q_nl (a0 :: a1 :: a2 :: a3 :: some (.int x) :: r) 4 = true) (k : gg C ty nL kc ks al ad (pc + 3) (a0 :: a1 :: a2 :: a3 :: some (.int (x + u)) :: r) st h) : gg C ty nL kc ks al ad pc (a0 :: a1 :: a2 :: a3 :: some (.int x) :: r) st h := by
  obtain ⟨⟨p, l, e, R, s⟩, ⟨m, args, below, meth, c⟩, ⟨D, ca, A, Q⟩⟩ := C
  intro H locs lsA hZ hR hS hl
  obtain ⟨kk, hk⟩ := List.getElem?_of_mem (q_prs_mem.mpr ⟨4, .int x, by simp, rfl, rfl⟩ : (4, q_cv ad (.int x)) ∈ q_prs ad 0 (a0 :: a1 :: a2 :: a3 :: some (.int x) :: r))
  exact lv_iinc E.1 E.2.1 hd hl hk (by rw [hv]) hi rfl (fun ls2 hl2 => k H locs ls2 hZ hR hS (q_L.set1 (v := .int (x + u)) hn hl2))
theorem g_iload_5 {a0 a1 a2 a3 a4 : Option Value} {r : List (Option Value)} {x : Int32} (E : q_Ev C cc nL own al ad FR LO) (hd : decode cc pc = .ok (.iload 5, 2)) (k : gg C ty nL kc ks al ad (pc + 2) (a0 :: a1 :: a2 :: a3 :: a4 :: some (.int x) :: r) (.int x :: st) h) : gg C ty nL kc ks al ad pc (a0 :: a1 :: a2 :: a3 :: a4 :: some (.int x) :: r) st h := by
  obtain ⟨⟨p, l, e, R, s⟩, ⟨m, args, below, meth, c⟩, ⟨D, ca, A, Q⟩⟩ := C
  exact fun H locs lsA hZ hR hS hl => lv_iload E.1 E.2.1 hd (q_L.get hl (i := 5) rfl) (k H locs lsA hZ hR hS hl)
theorem g_istore_5 {a0 a1 a2 a3 a4 az : Option Value} {r : List (Option Value)} {x : Int32} (E : q_Ev C cc nL own al ad FR LO) (hd : decode cc pc = .ok (.istore 5, 2)) (hi : 5 < nL) (hn : q_nl (a0 :: a1 :: a2 :: a3 :: a4 :: az :: r) 5 = true) (k : gg C ty nL kc ks al ad (pc + 2) (a0 :: a1 :: a2 :: a3 :: a4 :: some (.int x) :: r) st h) : gg C ty nL kc ks al ad pc (a0 :: a1 :: a2 :: a3 :: a4 :: az :: r) (.int x :: st) h := by
  obtain ⟨⟨p, l, e, R, s⟩, ⟨m, args, below, meth, c⟩, ⟨D, ca, A, Q⟩⟩ := C
  exact fun H locs lsA hZ hR hS hl => lv_istore E.1 E.2.1 hd hl hi rfl (fun ls2 hl2 => k H locs ls2 hZ hR hS (q_L.set1 (v := .int x) hn hl2))
theorem g_lload_5 {a0 a1 a2 a3 a4 : Option Value} {r : List (Option Value)} {x : Int64} (E : q_Ev C cc nL own al ad FR LO) (hd : decode cc pc = .ok (.lload 5, 2)) (k : gg C ty nL kc ks al ad (pc + 2) (a0 :: a1 :: a2 :: a3 :: a4 :: some (.long x) :: r) (.long x :: st) h) : gg C ty nL kc ks al ad pc (a0 :: a1 :: a2 :: a3 :: a4 :: some (.long x) :: r) st h := by
  obtain ⟨⟨p, l, e, R, s⟩, ⟨m, args, below, meth, c⟩, ⟨D, ca, A, Q⟩⟩ := C
  exact fun H locs lsA hZ hR hS hl => lv_lload E.1 E.2.1 hd (q_L.get hl (i := 5) rfl) (k H locs lsA hZ hR hS hl)
theorem g_lstore_5 {a0 a1 a2 a3 a4 az ay : Option Value} {r : List (Option Value)} {x : Int64} (E : q_Ev C cc nL own al ad FR LO) (hd : decode cc pc = .ok (.lstore 5, 2)) (hi : 5 + 1 < nL) (hn : q_nl (a0 :: a1 :: a2 :: a3 :: a4 :: az :: ay :: r) 5 = true) (k : gg C ty nL kc ks al ad (pc + 2) (a0 :: a1 :: a2 :: a3 :: a4 :: some (.long x) :: none :: r) st h) : gg C ty nL kc ks al ad pc (a0 :: a1 :: a2 :: a3 :: a4 :: az :: ay :: r) (.long x :: st) h := by
  obtain ⟨⟨p, l, e, R, s⟩, ⟨m, args, below, meth, c⟩, ⟨D, ca, A, Q⟩⟩ := C
  exact fun H locs lsA hZ hR hS hl => lv_lstore E.1 E.2.1 hd hl hi rfl (fun ls2 hl2 => k H locs ls2 hZ hR hS (q_L.set2 (v := .long x) hn hl2))
theorem g_aload_5 {a0 a1 a2 a3 a4 : Option Value} {r : List (Option Value)} {x : Nat} (E : q_Ev C cc nL own al ad FR LO) (hd : decode cc pc = .ok (.aload 5, 2)) (k : gg C ty nL kc ks al ad (pc + 2) (a0 :: a1 :: a2 :: a3 :: a4 :: some (.ref x) :: r) (.ref x :: st) h) : gg C ty nL kc ks al ad pc (a0 :: a1 :: a2 :: a3 :: a4 :: some (.ref x) :: r) st h := by
  obtain ⟨⟨p, l, e, R, s⟩, ⟨m, args, below, meth, c⟩, ⟨D, ca, A, Q⟩⟩ := C
  exact fun H locs lsA hZ hR hS hl => lv_aload E.1 E.2.1 hd (q_L.get hl (i := 5) rfl) (k H locs lsA hZ hR hS hl)
theorem g_astore_5 {a0 a1 a2 a3 a4 az : Option Value} {r : List (Option Value)} {x : Nat} (E : q_Ev C cc nL own al ad FR LO) (hd : decode cc pc = .ok (.astore 5, 2)) (hi : 5 < nL) (hn : q_nl (a0 :: a1 :: a2 :: a3 :: a4 :: az :: r) 5 = true) (k : gg C ty nL kc ks al ad (pc + 2) (a0 :: a1 :: a2 :: a3 :: a4 :: some (.ref x) :: r) st h) : gg C ty nL kc ks al ad pc (a0 :: a1 :: a2 :: a3 :: a4 :: az :: r) (.ref x :: st) h := by
  obtain ⟨⟨p, l, e, R, s⟩, ⟨m, args, below, meth, c⟩, ⟨D, ca, A, Q⟩⟩ := C
  exact fun H locs lsA hZ hR hS hl => lv_astore E.1 E.2.1 hd hl hi rfl (fun ls2 hl2 => k H locs ls2 hZ hR hS (q_L.set1 (v := .ref x) hn hl2))
theorem g_iinc_5 {a0 a1 a2 a3 a4 : Option Value} {r : List (Option Value)} {x u : Int32} {n : Int} (E : q_Ev C cc nL own al ad FR LO) (hd : decode cc pc = .ok (.iinc 5 n, 3)) (hv : Int32.ofInt n = u) (hi : 5 < nL) (hn : q_nl (a0 :: a1 :: a2 :: a3 :: a4 :: some (.int x) :: r) 5 = true) (k : gg C ty nL kc ks al ad (pc + 3) (a0 :: a1 :: a2 :: a3 :: a4 :: some (.int (x + u)) :: r) st h) : gg C ty nL kc ks al ad pc (a0 :: a1 :: a2 :: a3 :: a4 :: some (.int x) :: r) st h := by
  obtain ⟨⟨p, l, e, R, s⟩, ⟨m, args, below, meth, c⟩, ⟨D, ca, A, Q⟩⟩ := C
  intro H locs lsA hZ hR hS hl
  obtain ⟨kk, hk⟩ := List.getElem?_of_mem (q_prs_mem.mpr ⟨5, .int x, by simp, rfl, rfl⟩ : (5, q_cv ad (.int x)) ∈ q_prs ad 0 (a0 :: a1 :: a2 :: a3 :: a4 :: some (.int x) :: r))
  exact lv_iinc E.1 E.2.1 hd hl hk (by rw [hv]) hi rfl (fun ls2 hl2 => k H locs ls2 hZ hR hS (q_L.set1 (v := .int (x + u)) hn hl2))
theorem g_iload_6 {a0 a1 a2 a3 a4 a5 : Option Value} {r : List (Option Value)} {x : Int32} (E : q_Ev C cc nL own al ad FR LO) (hd : decode cc pc = .ok (.iload 6, 2)) (k : gg C ty nL kc ks al ad (pc + 2) (a0 :: a1 :: a2 :: a3 :: a4 :: a5 :: some (.int x) :: r) (.int x :: st) h) : gg C ty nL kc ks al ad pc (a0 :: a1 :: a2 :: a3 :: a4 :: a5 :: some (.int x) :: r) st h := by
  obtain ⟨⟨p, l, e, R, s⟩, ⟨m, args, below, meth, c⟩, ⟨D, ca, A, Q⟩⟩ := C
  exact fun H locs lsA hZ hR hS hl => lv_iload E.1 E.2.1 hd (q_L.get hl (i := 6) rfl) (k H locs lsA hZ hR hS hl)
theorem g_istore_6 {a0 a1 a2 a3 a4 a5 az : Option Value} {r : List (Option Value)} {x : Int32} (E : q_Ev C cc nL own al ad FR LO) (hd : decode cc pc = .ok (.istore 6, 2)) (hi : 6 < nL) (hn : q_nl (a0 :: a1 :: a2 :: a3 :: a4 :: a5 :: az :: r) 6 = true) (k : gg C ty nL kc ks al ad (pc + 2) (a0 :: a1 :: a2 :: a3 :: a4 :: a5 :: some (.int x) :: r) st h) : gg C ty nL kc ks al ad pc (a0 :: a1 :: a2 :: a3 :: a4 :: a5 :: az :: r) (.int x :: st) h := by
  obtain ⟨⟨p, l, e, R, s⟩, ⟨m, args, below, meth, c⟩, ⟨D, ca, A, Q⟩⟩ := C
  exact fun H locs lsA hZ hR hS hl => lv_istore E.1 E.2.1 hd hl hi rfl (fun ls2 hl2 => k H locs ls2 hZ hR hS (q_L.set1 (v := .int x) hn hl2))
theorem g_lload_6 {a0 a1 a2 a3 a4 a5 : Option Value} {r : List (Option Value)} {x : Int64} (E : q_Ev C cc nL own al ad FR LO) (hd : decode cc pc = .ok (.lload 6, 2)) (k : gg C ty nL kc ks al ad (pc + 2) (a0 :: a1 :: a2 :: a3 :: a4 :: a5 :: some (.long x) :: r) (.long x :: st) h) : gg C ty nL kc ks al ad pc (a0 :: a1 :: a2 :: a3 :: a4 :: a5 :: some (.long x) :: r) st h := by
  obtain ⟨⟨p, l, e, R, s⟩, ⟨m, args, below, meth, c⟩, ⟨D, ca, A, Q⟩⟩ := C
  exact fun H locs lsA hZ hR hS hl => lv_lload E.1 E.2.1 hd (q_L.get hl (i := 6) rfl) (k H locs lsA hZ hR hS hl)
theorem g_lstore_6 {a0 a1 a2 a3 a4 a5 az ay : Option Value} {r : List (Option Value)} {x : Int64} (E : q_Ev C cc nL own al ad FR LO) (hd : decode cc pc = .ok (.lstore 6, 2)) (hi : 6 + 1 < nL) (hn : q_nl (a0 :: a1 :: a2 :: a3 :: a4 :: a5 :: az :: ay :: r) 6 = true) (k : gg C ty nL kc ks al ad (pc + 2) (a0 :: a1 :: a2 :: a3 :: a4 :: a5 :: some (.long x) :: none :: r) st h) : gg C ty nL kc ks al ad pc (a0 :: a1 :: a2 :: a3 :: a4 :: a5 :: az :: ay :: r) (.long x :: st) h := by
  obtain ⟨⟨p, l, e, R, s⟩, ⟨m, args, below, meth, c⟩, ⟨D, ca, A, Q⟩⟩ := C
  exact fun H locs lsA hZ hR hS hl => lv_lstore E.1 E.2.1 hd hl hi rfl (fun ls2 hl2 => k H locs ls2 hZ hR hS (q_L.set2 (v := .long x) hn hl2))
theorem g_aload_6 {a0 a1 a2 a3 a4 a5 : Option Value} {r : List (Option Value)} {x : Nat} (E : q_Ev C cc nL own al ad FR LO) (hd : decode cc pc = .ok (.aload 6, 2)) (k : gg C ty nL kc ks al ad (pc + 2) (a0 :: a1 :: a2 :: a3 :: a4 :: a5 :: some (.ref x) :: r) (.ref x :: st) h) : gg C ty nL kc ks al ad pc (a0 :: a1 :: a2 :: a3 :: a4 :: a5 :: some (.ref x) :: r) st h := by
  obtain ⟨⟨p, l, e, R, s⟩, ⟨m, args, below, meth, c⟩, ⟨D, ca, A, Q⟩⟩ := C
  exact fun H locs lsA hZ hR hS hl => lv_aload E.1 E.2.1 hd (q_L.get hl (i := 6) rfl) (k H locs lsA hZ hR hS hl)
theorem g_astore_6 {a0 a1 a2 a3 a4 a5 az : Option Value} {r : List (Option Value)} {x : Nat} (E : q_Ev C cc nL own al ad FR LO) (hd : decode cc pc = .ok (.astore 6, 2)) (hi : 6 < nL) (hn : q_nl (a0 :: a1 :: a2 :: a3 :: a4 :: a5 :: az :: r) 6 = true) (k : gg C ty nL kc ks al ad (pc + 2) (a0 :: a1 :: a2 :: a3 :: a4 :: a5 :: some (.ref x) :: r) st h) : gg C ty nL kc ks al ad pc (a0 :: a1 :: a2 :: a3 :: a4 :: a5 :: az :: r) (.ref x :: st) h := by
  obtain ⟨⟨p, l, e, R, s⟩, ⟨m, args, below, meth, c⟩, ⟨D, ca, A, Q⟩⟩ := C
  exact fun H locs lsA hZ hR hS hl => lv_astore E.1 E.2.1 hd hl hi rfl (fun ls2 hl2 => k H locs ls2 hZ hR hS (q_L.set1 (v := .ref x) hn hl2))
theorem g_iinc_6 {a0 a1 a2 a3 a4 a5 : Option Value} {r : List (Option Value)} {x u : Int32} {n : Int} (E : q_Ev C cc nL own al ad FR LO) (hd : decode cc pc = .ok (.iinc 6 n, 3)) (hv : Int32.ofInt n = u) (hi : 6 < nL) (hn : q_nl (a0 :: a1 :: a2 :: a3 :: a4 :: a5 :: some (.int x) :: r) 6 = true) (k : gg C ty nL kc ks al ad (pc + 3) (a0 :: a1 :: a2 :: a3 :: a4 :: a5 :: some (.int (x + u)) :: r) st h) : gg C ty nL kc ks al ad pc (a0 :: a1 :: a2 :: a3 :: a4 :: a5 :: some (.int x) :: r) st h := by
  obtain ⟨⟨p, l, e, R, s⟩, ⟨m, args, below, meth, c⟩, ⟨D, ca, A, Q⟩⟩ := C
  intro H locs lsA hZ hR hS hl
  obtain ⟨kk, hk⟩ := List.getElem?_of_mem (q_prs_mem.mpr ⟨6, .int x, by simp, rfl, rfl⟩ : (6, q_cv ad (.int x)) ∈ q_prs ad 0 (a0 :: a1 :: a2 :: a3 :: a4 :: a5 :: some (.int x) :: r))
  exact lv_iinc E.1 E.2.1 hd hl hk (by rw [hv]) hi rfl (fun ls2 hl2 => k H locs ls2 hZ hR hS (q_L.set1 (v := .int (x + u)) hn hl2))
theorem g_iload_7 {a0 a1 a2 a3 a4 a5 a6 : Option Value} {r : List (Option Value)} {x : Int32} (E : q_Ev C cc nL own al ad FR LO) (hd : decode cc pc = .ok (.iload 7, 2)) (k : gg C ty nL kc ks al ad (pc + 2) (a0 :: a1 :: a2 :: a3 :: a4 :: a5 :: a6 :: some (.int x) :: r) (.int x :: st) h) : gg C ty nL kc ks al ad pc (a0 :: a1 :: a2 :: a3 :: a4 :: a5 :: a6 :: some (.int x) :: r) st h := by
  obtain ⟨⟨p, l, e, R, s⟩, ⟨m, args, below, meth, c⟩, ⟨D, ca, A, Q⟩⟩ := C
  exact fun H locs lsA hZ hR hS hl => lv_iload E.1 E.2.1 hd (q_L.get hl (i := 7) rfl) (k H locs lsA hZ hR hS hl)
theorem g_istore_7 {a0 a1 a2 a3 a4 a5 a6 az : Option Value} {r : List (Option Value)} {x : Int32} (E : q_Ev C cc nL own al ad FR LO) (hd : decode cc pc = .ok (.istore 7, 2)) (hi : 7 < nL) (hn : q_nl (a0 :: a1 :: a2 :: a3 :: a4 :: a5 :: a6 :: az :: r) 7 = true) (k : gg C ty nL kc ks al ad (pc + 2) (a0 :: a1 :: a2 :: a3 :: a4 :: a5 :: a6 :: some (.int x) :: r) st h) : gg C ty nL kc ks al ad pc (a0 :: a1 :: a2 :: a3 :: a4 :: a5 :: a6 :: az :: r) (.int x :: st) h := by
  obtain ⟨⟨p, l, e, R, s⟩, ⟨m, args, below, meth, c⟩, ⟨D, ca, A, Q⟩⟩ := C
  exact fun H locs lsA hZ hR hS hl => lv_istore E.1 E.2.1 hd hl hi rfl (fun ls2 hl2 => k H locs ls2 hZ hR hS (q_L.set1 (v := .int x) hn hl2))
theorem g_lload_7 {a0 a1 a2 a3 a4 a5 a6 : Option Value} {r : List (Option Value)} {x : Int64} (E : q_Ev C cc nL own al ad FR LO) (hd : decode cc pc = .ok (.lload 7, 2)) (k : gg C ty nL kc ks al ad (pc + 2) (a0 :: a1 :: a2 :: a3 :: a4 :: a5 :: a6 :: some (.long x) :: r) (.long x :: st) h) : gg C ty nL kc ks al ad pc (a0 :: a1 :: a2 :: a3 :: a4 :: a5 :: a6 :: some (.long x) :: r) st h := by
  obtain ⟨⟨p, l, e, R, s⟩, ⟨m, args, below, meth, c⟩, ⟨D, ca, A, Q⟩⟩ := C
  exact fun H locs lsA hZ hR hS hl => lv_lload E.1 E.2.1 hd (q_L.get hl (i := 7) rfl) (k H locs lsA hZ hR hS hl)
theorem g_lstore_7 {a0 a1 a2 a3 a4 a5 a6 az ay : Option Value} {r : List (Option Value)} {x : Int64} (E : q_Ev C cc nL own al ad FR LO) (hd : decode cc pc = .ok (.lstore 7, 2)) (hi : 7 + 1 < nL) (hn : q_nl (a0 :: a1 :: a2 :: a3 :: a4 :: a5 :: a6 :: az :: ay :: r) 7 = true) (k : gg C ty nL kc ks al ad (pc + 2) (a0 :: a1 :: a2 :: a3 :: a4 :: a5 :: a6 :: some (.long x) :: none :: r) st h) : gg C ty nL kc ks al ad pc (a0 :: a1 :: a2 :: a3 :: a4 :: a5 :: a6 :: az :: ay :: r) (.long x :: st) h := by
  obtain ⟨⟨p, l, e, R, s⟩, ⟨m, args, below, meth, c⟩, ⟨D, ca, A, Q⟩⟩ := C
  exact fun H locs lsA hZ hR hS hl => lv_lstore E.1 E.2.1 hd hl hi rfl (fun ls2 hl2 => k H locs ls2 hZ hR hS (q_L.set2 (v := .long x) hn hl2))
theorem g_aload_7 {a0 a1 a2 a3 a4 a5 a6 : Option Value} {r : List (Option Value)} {x : Nat} (E : q_Ev C cc nL own al ad FR LO) (hd : decode cc pc = .ok (.aload 7, 2)) (k : gg C ty nL kc ks al ad (pc + 2) (a0 :: a1 :: a2 :: a3 :: a4 :: a5 :: a6 :: some (.ref x) :: r) (.ref x :: st) h) : gg C ty nL kc ks al ad pc (a0 :: a1 :: a2 :: a3 :: a4 :: a5 :: a6 :: some (.ref x) :: r) st h := by
  obtain ⟨⟨p, l, e, R, s⟩, ⟨m, args, below, meth, c⟩, ⟨D, ca, A, Q⟩⟩ := C
  exact fun H locs lsA hZ hR hS hl => lv_aload E.1 E.2.1 hd (q_L.get hl (i := 7) rfl) (k H locs lsA hZ hR hS hl)
theorem g_astore_7 {a0 a1 a2 a3 a4 a5 a6 az : Option Value} {r : List (Option Value)} {x : Nat} (E : q_Ev C cc nL own al ad FR LO) (hd : decode cc pc = .ok (.astore 7, 2)) (hi : 7 < nL) (hn : q_nl (a0 :: a1 :: a2 :: a3 :: a4 :: a5 :: a6 :: az :: r) 7 = true) (k : gg C ty nL kc ks al ad (pc + 2) (a0 :: a1 :: a2 :: a3 :: a4 :: a5 :: a6 :: some (.ref x) :: r) st h) : gg C ty nL kc ks al ad pc (a0 :: a1 :: a2 :: a3 :: a4 :: a5 :: a6 :: az :: r) (.ref x :: st) h := by
  obtain ⟨⟨p, l, e, R, s⟩, ⟨m, args, below, meth, c⟩, ⟨D, ca, A, Q⟩⟩ := C
  exact fun H locs lsA hZ hR hS hl => lv_astore E.1 E.2.1 hd hl hi rfl (fun ls2 hl2 => k H locs ls2 hZ hR hS (q_L.set1 (v := .ref x) hn hl2))
theorem g_iinc_7 {a0 a1 a2 a3 a4 a5 a6 : Option Value} {r : List (Option Value)} {x u : Int32} {n : Int} (E : q_Ev C cc nL own al ad FR LO) (hd : decode cc pc = .ok (.iinc 7 n, 3)) (hv : Int32.ofInt n = u) (hi : 7 < nL) (hn : q_nl (a0 :: a1 :: a2 :: a3 :: a4 :: a5 :: a6 :: some (.int x) :: r) 7 = true) (k : gg C ty nL kc ks al ad (pc + 3) (a0 :: a1 :: a2 :: a3 :: a4 :: a5 :: a6 :: some (.int (x + u)) :: r) st h) : gg C ty nL kc ks al ad pc (a0 :: a1 :: a2 :: a3 :: a4 :: a5 :: a6 :: some (.int x) :: r) st h := by
  obtain ⟨⟨p, l, e, R, s⟩, ⟨m, args, below, meth, c⟩, ⟨D, ca, A, Q⟩⟩ := C
  intro H locs lsA hZ hR hS hl
  obtain ⟨kk, hk⟩ := List.getElem?_of_mem (q_prs_mem.mpr ⟨7, .int x, by simp, rfl, rfl⟩ : (7, q_cv ad (.int x)) ∈ q_prs ad 0 (a0 :: a1 :: a2 :: a3 :: a4 :: a5 :: a6 :: some (.int x) :: r))
  exact lv_iinc E.1 E.2.1 hd hl hk (by rw [hv]) hi rfl (fun ls2 hl2 => k H locs ls2 hZ hR hS (q_L.set1 (v := .int (x + u)) hn hl2))
theorem g_iload_8 {a0 a1 a2 a3 a4 a5 a6 a7 : Option Value} {r : List (Option Value)} {x : Int32} (E : q_Ev C cc nL own al ad FR LO) (hd : decode cc pc = .ok (.iload 8, 2)) (k : gg C ty nL kc ks al ad (pc + 2) (a0 :: a1 :: a2 :: a3 :: a4 :: a5 :: a6 :: a7 :: some (.int x) :: r) (.int x :: st) h) : gg C ty nL kc ks al ad pc (a0 :: a1 :: a2 :: a3 :: a4 :: a5 :: a6 :: a7 :: some (.int x) :: r) st h := by
  obtain ⟨⟨p, l, e, R, s⟩, ⟨m, args, below, meth, c⟩, ⟨D, ca, A, Q⟩⟩ := C
  exact fun H locs lsA hZ hR hS hl => lv_iload E.1 E.2.1 hd (q_L.get hl (i := 8) rfl) (k H locs lsA hZ hR hS hl)
theorem g_istore_8 {a0 a1 a2 a3 a4 a5 a6 a7 az : Option Value} {r : List (Option Value)} {x : Int32} (E : q_Ev C cc nL own al ad FR LO) (hd : decode cc pc = .ok (.istore 8, 2)) (hi : 8 < nL) (hn : q_nl (a0 :: a1 :: a2 :: a3 :: a4 :: a5 :: a6 :: a7 :: az :: r) 8 = true) (k : gg C ty nL kc ks al ad (pc + 2) (a0 :: a1 :: a2 :: a3 :: a4 :: a5 :: a6 :: a7 :: some (.int x) :: r) st h) : gg C ty nL kc ks al ad pc (a0 :: a1 :: a2 :: a3 :: a4 :: a5 :: a6 :: a7 :: az :: r) (.int x :: st) h := by
  obtain ⟨⟨p, l, e, R, s⟩, ⟨m, args, below, meth, c⟩, ⟨D, ca, A, Q⟩⟩ := C
  exact fun H locs lsA hZ hR hS hl => lv_istore E.1 E.2.1 hd hl hi rfl (fun ls2 hl2 => k H locs ls2 hZ hR hS (q_L.set1 (v := .int x) hn hl2))
theorem g_lload_8 {a0 a1 a2 a3 a4 a5 a6 a7 : Option Value} {r : List (Option Value)} {x : Int64} (E : q_Ev C cc nL own al ad FR LO) (hd : decode cc pc = .ok (.lload 8, 2)) (k : gg C ty nL kc ks al ad (pc + 2) (a0 :: a1 :: a2 :: a3 :: a4 :: a5 :: a6 :: a7 :: some (.long x) :: r) (.long x :: st) h) : gg C ty nL kc ks al ad pc (a0 :: a1 :: a2 :: a3 :: a4 :: a5 :: a6 :: a7 :: some (.long x) :: r) st h := by
  obtain ⟨⟨p, l, e, R, s⟩, ⟨m, args, below, meth, c⟩, ⟨D, ca, A, Q⟩⟩ := C
  exact fun H locs lsA hZ hR hS hl => lv_lload E.1 E.2.1 hd (q_L.get hl (i := 8) rfl) (k H locs lsA hZ hR hS hl)
theorem g_lstore_8 {a0 a1 a2 a3 a4 a5 a6 a7 az ay : Option Value} {r : List (Option Value)} {x : Int64} (E : q_Ev C cc nL own al ad FR LO) (hd : decode cc pc = .ok (.lstore 8, 2)) (hi : 8 + 1 < nL) (hn : q_nl (a0 :: a1 :: a2 :: a3 :: a4 :: a5 :: a6 :: a7 :: az :: ay :: r) 8 = true) (k : gg C ty nL kc ks al ad (pc + 2) (a0 :: a1 :: a2 :: a3 :: a4 :: a5 :: a6 :: a7 :: some (.long x) :: none :: r) st h) : gg C ty nL kc ks al ad pc (a0 :: a1 :: a2 :: a3 :: a4 :: a5 :: a6 :: a7 :: az :: ay :: r) (.long x :: st) h := by
  obtain ⟨⟨p, l, e, R, s⟩, ⟨m, args, below, meth, c⟩, ⟨D, ca, A, Q⟩⟩ := C
  exact fun H locs lsA hZ hR hS hl => lv_lstore E.1 E.2.1 hd hl hi rfl (fun ls2 hl2 => k H locs ls2 hZ hR hS (q_L.set2 (v := .long x) hn hl2))
theorem g_aload_8 {a0 a1 a2 a3 a4 a5 a6 a7 : Option Value} {r : List (Option Value)} {x : Nat} (E : q_Ev C cc nL own al ad FR LO) (hd : decode cc pc = .ok (.aload 8, 2)) (k : gg C ty nL kc ks al ad (pc + 2) (a0 :: a1 :: a2 :: a3 :: a4 :: a5 :: a6 :: a7 :: some (.ref x) :: r) (.ref x :: st) h) : gg C ty nL kc ks al ad pc (a0 :: a1 :: a2 :: a3 :: a4 :: a5 :: a6 :: a7 :: some (.ref x) :: r) st h := by
  obtain ⟨⟨p, l, e, R, s⟩, ⟨m, args, below, meth, c⟩, ⟨D, ca, A, Q⟩⟩ := C
  exact fun H locs lsA hZ hR hS hl => lv_aload E.1 E.2.1 hd (q_L.get hl (i := 8) rfl) (k H locs lsA hZ hR hS hl)
theorem g_astore_8 {a0 a1 a2 a3 a4 a5 a6 a7 az : Option Value} {r : List (Option Value)} {x : Nat} (E : q_Ev C cc nL own al ad FR LO) (hd : decode cc pc = .ok (.astore 8, 2)) (hi : 8 < nL) (hn : q_nl (a0 :: a1 :: a2 :: a3 :: a4 :: a5 :: a6 :: a7 :: az :: r) 8 = true) (k : gg C ty nL kc ks al ad (pc + 2) (a0 :: a1 :: a2 :: a3 :: a4 :: a5 :: a6 :: a7 :: some (.ref x) :: r) st h) : gg C ty nL kc ks al ad pc (a0 :: a1 :: a2 :: a3 :: a4 :: a5 :: a6 :: a7 :: az :: r) (.ref x :: st) h := by
  obtain ⟨⟨p, l, e, R, s⟩, ⟨m, args, below, meth, c⟩, ⟨D, ca, A, Q⟩⟩ := C
  exact fun H locs lsA hZ hR hS hl => lv_astore E.1 E.2.1 hd hl hi rfl (fun ls2 hl2 => k H locs ls2 hZ hR hS (q_L.set1 (v := .ref x) hn hl2))
theorem g_iinc_8 {a0 a1 a2 a3 a4 a5 a6 a7 : Option Value} {r : List (Option Value)} {x u : Int32} {n : Int} (E : q_Ev C cc nL own al ad FR LO) (hd : decode cc pc = .ok (.iinc 8 n, 3)) (hv : Int32.ofInt n = u) (hi : 8 < nL) (hn : q_nl (a0 :: a1 :: a2 :: a3 :: a4 :: a5 :: a6 :: a7 :: some (.int x) :: r) 8 = true) (k : gg C ty nL kc ks al ad (pc + 3) (a0 :: a1 :: a2 :: a3 :: a4 :: a5 :: a6 :: a7 :: some (.int (x + u)) :: r) st h) : gg C ty nL kc ks al ad pc (a0 :: a1 :: a2 :: a3 :: a4 :: a5 :: a6 :: a7 :: some (.int x) :: r) st h := by
  obtain ⟨⟨p, l, e, R, s⟩, ⟨m, args, below, meth, c⟩, ⟨D, ca, A, Q⟩⟩ := C
  intro H locs lsA hZ hR hS hl
  obtain ⟨kk, hk⟩ := List.getElem?_of_mem (q_prs_mem.mpr ⟨8, .int x, by simp, rfl, rfl⟩ : (8, q_cv ad (.int x)) ∈ q_prs ad 0 (a0 :: a1 :: a2 :: a3 :: a4 :: a5 :: a6 :: a7 :: some (.int x) :: r))
  exact lv_iinc E.1 E.2.1 hd hl hk (by rw [hv]) hi rfl (fun ls2 hl2 => k H locs ls2 hZ hR hS (q_L.set1 (v := .int (x + u)) hn hl2))
theorem g_iload_9 {a0 a1 a2 a3 a4 a5 a6 a7 a8 : Option Value} {r : List (Option Value)} {x : Int32} (E : q_Ev C cc nL own al ad FR LO) (hd : decode cc pc = .ok (.iload 9, 2)) (k : gg C ty nL kc ks al ad (pc + 2) (a0 :: a1 :: a2 :: a3 :: a4 :: a5 :: a6 :: a7 :: a8 :: some (.int x) :: r) (.int x :: st) h) : gg C ty nL kc ks al ad pc (a0 :: a1 :: a2 :: a3 :: a4 :: a5 :: a6 :: a7 :: a8 :: some (.int x) :: r) st h := by
  obtain ⟨⟨p, l, e, R, s⟩, ⟨m, args, below, meth, c⟩, ⟨D, ca, A, Q⟩⟩ := C
  exact fun H locs lsA hZ hR hS hl => lv_iload E.1 E.2.1 hd (q_L.get hl (i := 9) rfl) (k H locs lsA hZ hR hS hl)
theorem g_istore_9 {a0 a1 a2 a3 a4 a5 a6 a7 a8 az : Option Value} {r : List (Option Value)} {x : Int32} (E : q_Ev C cc nL own al ad FR LO) (hd : decode cc pc = .ok (.istore 9, 2)) (hi : 9 < nL) (hn : q_nl (a0 :: a1 :: a2 :: a3 :: a4 :: a5 :: a6 :: a7 :: a8 :: az :: r) 9 = true) (k : gg C ty nL kc ks al ad (pc + 2) (a0 :: a1 :: a2 :: a3 :: a4 :: a5 :: a6 :: a7 :: a8 :: some (.int x) :: r) st h) : gg C ty nL kc ks al ad pc (a0 :: a1 :: a2 :: a3 :: a4 :: a5 :: a6 :: a7 :: a8 :: az :: r) (.int x :: st) h := by
  obtain ⟨⟨p, l, e, R, s⟩, ⟨m, args, below, meth, c⟩, ⟨D, ca, A, Q⟩⟩ := C
  exact fun H locs lsA hZ hR hS hl => lv_istore E.1 E.2.1 hd hl hi rfl (fun ls2 hl2 => k H locs ls2 hZ hR hS (q_L.set1 (v := .int x) hn hl2))
theorem g_lload_9 {a0 a1 a2 a3 a4 a5 a6 a7 a8 : Option Value} {r : List (Option Value)} {x : Int64} (E : q_Ev C cc nL own al ad FR LO) (hd : decode cc pc = .ok (.lload 9, 2)) (k : gg C ty nL kc ks al ad (pc + 2) (a0 :: a1 :: a2 :: a3 :: a4 :: a5 :: a6 :: a7 :: a8 :: some (.long x) :: r) (.long x :: st) h) : gg C ty nL kc ks al ad pc (a0 :: a1 :: a2 :: a3 :: a4 :: a5 :: a6 :: a7 :: a8 :: some (.long x) :: r) st h := by
  obtain ⟨⟨p, l, e, R, s⟩, ⟨m, args, below, meth, c⟩, ⟨D, ca, A, Q⟩⟩ := C
  exact fun H locs lsA hZ hR hS hl => lv_lload E.1 E.2.1 hd (q_L.get hl (i := 9) rfl) (k H locs lsA hZ hR hS hl)
theorem g_lstore_9 {a0 a1 a2 a3 a4 a5 a6 a7 a8 az ay : Option Value} {r : List (Option Value)} {x : Int64} (E : q_Ev C cc nL own al ad FR LO) (hd : decode cc pc = .ok (.lstore 9, 2)) (hi : 9 + 1 < nL) (hn : q_nl (a0 :: a1 :: a2 :: a3 :: a4 :: a5 :: a6 :: a7 :: a8 :: az :: ay :: r) 9 = true) (k : gg C ty nL kc ks al ad (pc + 2) (a0 :: a1 :: a2 :: a3 :: a4 :: a5 :: a6 :: a7 :: a8 :: some (.long x) :: none :: r) st h) : gg C ty nL kc ks al ad pc (a0 :: a1 :: a2 :: a3 :: a4 :: a5 :: a6 :: a7 :: a8 :: az :: ay :: r) (.long x :: st) h := by
  obtain ⟨⟨p, l, e, R, s⟩, ⟨m, args, below, meth, c⟩, ⟨D, ca, A, Q⟩⟩ := C
  exact fun H locs lsA hZ hR hS hl => lv_lstore E.1 E.2.1 hd hl hi rfl (fun ls2 hl2 => k H locs ls2 hZ hR hS (q_L.set2 (v := .long x) hn hl2))
theorem g_aload_9 {a0 a1 a2 a3 a4 a5 a6 a7 a8 : Option Value} {r : List (Option Value)} {x : Nat} (E : q_Ev C cc nL own al ad FR LO) (hd : decode cc pc = .ok (.aload 9, 2)) (k : gg C ty nL kc ks al ad (pc + 2) (a0 :: a1 :: a2 :: a3 :: a4 :: a5 :: a6 :: a7 :: a8 :: some (.ref x) :: r) (.ref x :: st) h) : gg C ty nL kc ks al ad pc (a0 :: a1 :: a2 :: a3 :: a4 :: a5 :: a6 :: a7 :: a8 :: some (.ref x) :: r) st h := by
  obtain ⟨⟨p, l, e, R, s⟩, ⟨m, args, below, meth, c⟩, ⟨D, ca, A, Q⟩⟩ := C
  exact fun H locs lsA hZ hR hS hl => lv_aload E.1 E.2.1 hd (q_L.get hl (i := 9) rfl) (k H locs lsA hZ hR hS hl)
theorem g_astore_9 {a0 a1 a2 a3 a4 a5 a6 a7 a8 az : Option Value} {r : List (Option Value)} {x : Nat} (E : q_Ev C cc nL own al ad FR LO) (hd : decode cc pc = .ok (.astore 9, 2)) (hi : 9 < nL) (hn : q_nl (a0 :: a1 :: a2 :: a3 :: a4 :: a5 :: a6 :: a7 :: a8 :: az :: r) 9 = true) (k : gg C ty nL kc ks al ad (pc + 2) (a0 :: a1 :: a2 :: a3 :: a4 :: a5 :: a6 :: a7 :: a8 :: some (.ref x) :: r) st h) : gg C ty nL kc ks al ad pc (a0 :: a1 :: a2 :: a3 :: a4 :: a5 :: a6 :: a7 :: a8 :: az :: r) (.ref x :: st) h := by
  obtain ⟨⟨p, l, e, R, s⟩, ⟨m, args, below, meth, c⟩, ⟨D, ca, A, Q⟩⟩ := C
  exact fun H locs lsA hZ hR hS hl => lv_astore E.1 E.2.1 hd hl hi rfl (fun ls2 hl2 => k H locs ls2 hZ hR hS (q_L.set1 (v := .ref x) hn hl2))
theorem g_iinc_9 {a0 a1 a2 a3 a4 a5 a6 a7 a8 : Option Value} {r : List (Option Value)} {x u : Int32} {n : Int} (E : q_Ev C cc nL own al ad FR LO) (hd : decode cc pc = .ok (.iinc 9 n, 3)) (hv : Int32.ofInt n = u) (hi : 9 < nL) (hn : q_nl (a0 :: a1 :: a2 :: a3 :: a4 :: a5 :: a6 :: a7 :: a8 :: some (.int x) :: r) 9 = true) (k : gg C ty nL kc ks al ad (pc + 3) (a0 :: a1 :: a2 :: a3 :: a4 :: a5 :: a6 :: a7 :: a8 :: some (.int (x + u)) :: r) st h) : gg C ty nL kc ks al ad pc (a0 :: a1 :: a2 :: a3 :: a4 :: a5 :: a6 :: a7 :: a8 :: some (.int x) :: r) st h := by
  obtain ⟨⟨p, l, e, R, s⟩, ⟨m, args, below, meth, c⟩, ⟨D, ca, A, Q⟩⟩ := C
  intro H locs lsA hZ hR hS hl
  obtain ⟨kk, hk⟩ := List.getElem?_of_mem (q_prs_mem.mpr ⟨9, .int x, by simp, rfl, rfl⟩ : (9, q_cv ad (.int x)) ∈ q_prs ad 0 (a0 :: a1 :: a2 :: a3 :: a4 :: a5 :: a6 :: a7 :: a8 :: some (.int x) :: r))
  exact lv_iinc E.1 E.2.1 hd hl hk (by rw [hv]) hi rfl (fun ls2 hl2 => k H locs ls2 hZ hR hS (q_L.set1 (v := .int (x + u)) hn hl2))
theorem g_iload_10 {a0 a1 a2 a3 a4 a5 a6 a7 a8 a9 : Option Value} {r : List (Option Value)} {x : Int32} (E : q_Ev C cc nL own al ad FR LO) (hd : decode cc pc = .ok (.iload 10, 2)) (k : gg C ty nL kc ks al ad (pc + 2) (a0 :: a1 :: a2 :: a3 :: a4 :: a5 :: a6 :: a7 :: a8 :: a9 :: some (.int x) :: r) (.int x :: st) h) : gg C ty nL kc ks al ad pc (a0 :: a1 :: a2 :: a3 :: a4 :: a5 :: a6 :: a7 :: a8 :: a9 :: some (.int x) :: r) st h := by
  obtain ⟨⟨p, l, e, R, s⟩, ⟨m, args, below, meth, c⟩, ⟨D, ca, A, Q⟩⟩ := C
  exact fun H locs lsA hZ hR hS hl => lv_iload E.1 E.2.1 hd (q_L.get hl (i := 10) rfl) (k H locs lsA hZ hR hS hl)
theorem g_istore_10 {a0 a1 a2 a3 a4 a5 a6 a7 a8 a9 az : Option Value} {r : List (Option Value)} {x : Int32} (E : q_Ev C cc nL own al ad FR LO) (hd : decode cc pc = .ok (.istore 10, 2)) (hi : 10 < nL) (hn : q_nl (a0 :: a1 :: a2 :: a3 :: a4 :: a5 :: a6 :: a7 :: a8 :: a9 :: az :: r) 10 = true) (k : gg C ty nL kc ks al ad (pc + 2) (a0 :: a1 :: a2 :: a3 :: a4 :: a5 :: a6 :: a7 :: a8 :: a9 :: some (.int x) :: r) st h) : gg C ty nL kc ks al ad pc (a0 :: a1 :: a2 :: a3 :: a4 :: a5 :: a6 :: a7 :: a8 :: a9 :: az :: r) (.int x :: st) h := by
  obtain ⟨⟨p, l, e, R, s⟩, ⟨m, args, below, meth, c⟩, ⟨D, ca, A, Q⟩⟩ := C
  exact fun H locs lsA hZ hR hS hl => lv_istore E.1 E.2.1 hd hl hi rfl (fun ls2 hl2 => k H locs ls2 hZ hR hS (q_L.set1 (v := .int x) hn hl2))
theorem g_lload_10 {a0 a1 a2 a3 a4 a5 a6 a7 a8 a9 : Option Value} {r : List (Option Value)} {x : Int64} (E : q_Ev C cc nL own al ad FR LO) (hd : decode cc pc = .ok (.lload 10, 2)) (k : gg C ty nL kc ks al ad (pc + 2) (a0 :: a1 :: a2 :: a3 :: a4 :: a5 :: a6 :: a7 :: a8 :: a9 :: some (.long x) :: r) (.long x :: st) h) : gg C ty nL kc ks al ad pc (a0 :: a1 :: a2 :: a3 :: a4 :: a5 :: a6 :: a7 :: a8 :: a9 :: some (.long x) :: r) st h := by
  obtain ⟨⟨p, l, e, R, s⟩, ⟨m, args, below, meth, c⟩, ⟨D, ca, A, Q⟩⟩ := C
  exact fun H locs lsA hZ hR hS hl => lv_lload E.1 E.2.1 hd (q_L.get hl (i := 10) rfl) (k H locs lsA hZ hR hS hl)
theorem g_lstore_10 {a0 a1 a2 a3 a4 a5 a6 a7 a8 a9 az ay : Option Value} {r : List (Option Value)} {x : Int64} (E : q_Ev C cc nL own al ad FR LO) (hd : decode cc pc = .ok (.lstore 10, 2)) (hi : 10 + 1 < nL) (hn : q_nl (a0 :: a1 :: a2 :: a3 :: a4 :: a5 :: a6 :: a7 :: a8 :: a9 :: az :: ay :: r) 10 = true) (k : gg C ty nL kc ks al ad (pc + 2) (a0 :: a1 :: a2 :: a3 :: a4 :: a5 :: a6 :: a7 :: a8 :: a9 :: some (.long x) :: none :: r) st h) : gg C ty nL kc ks al ad pc (a0 :: a1 :: a2 :: a3 :: a4 :: a5 :: a6 :: a7 :: a8 :: a9 :: az :: ay :: r) (.long x :: st) h := by
  obtain ⟨⟨p, l, e, R, s⟩, ⟨m, args, below, meth, c⟩, ⟨D, ca, A, Q⟩⟩ := C
  exact fun H locs lsA hZ hR hS hl => lv_lstore E.1 E.2.1 hd hl hi rfl (fun ls2 hl2 => k H locs ls2 hZ hR hS (q_L.set2 (v := .long x) hn hl2))
theorem g_aload_10 {a0 a1 a2 a3 a4 a5 a6 a7 a8 a9 : Option Value} {r : List (Option Value)} {x : Nat} (E : q_Ev C cc nL own al ad FR LO) (hd : decode cc pc = .ok (.aload 10, 2)) (k : gg C ty nL kc ks al ad (pc + 2) (a0 :: a1 :: a2 :: a3 :: a4 :: a5 :: a6 :: a7 :: a8 :: a9 :: some (.ref x) :: r) (.ref x :: st) h) : gg C ty nL kc ks al ad pc (a0 :: a1 :: a2 :: a3 :: a4 :: a5 :: a6 :: a7 :: a8 :: a9 :: some (.ref x) :: r) st h := by
  obtain ⟨⟨p, l, e, R, s⟩, ⟨m, args, below, meth, c⟩, ⟨D, ca, A, Q⟩⟩ := C
  exact fun H locs lsA hZ hR hS hl => lv_aload E.1 E.2.1 hd (q_L.get hl (i := 10) rfl) (k H locs lsA hZ hR hS hl)
theorem g_astore_10 {a0 a1 a2 a3 a4 a5 a6 a7 a8 a9 az : Option Value} {r : List (Option Value)} {x : Nat} (E : q_Ev C cc nL own al ad FR LO) (hd : decode cc pc = .ok (.astore 10, 2)) (hi : 10 < nL) (hn : q_nl (a0 :: a1 :: a2 :: a3 :: a4 :: a5 :: a6 :: a7 :: a8 :: a9 :: az :: r) 10 = true) (k : gg C ty nL kc ks al ad (pc + 2) (a0 :: a1 :: a2 :: a3 :: a4 :: a5 :: a6 :: a7 :: a8 :: a9 :: some (.ref x) :: r) st h) : gg C ty nL kc ks al ad pc (a0 :: a1 :: a2 :: a3 :: a4 :: a5 :: a6 :: a7 :: a8 :: a9 :: az :: r) (.ref x :: st) h := by
  obtain ⟨⟨p, l, e, R, s⟩, ⟨m, args, below, meth, c⟩, ⟨D, ca, A, Q⟩⟩ := C
  exact fun H locs lsA hZ hR hS hl => lv_astore E.1 E.2.1 hd hl hi rfl (fun ls2 hl2 => k H locs ls2 hZ hR hS (q_L.set1 (v := .ref x) hn hl2))
theorem g_iinc_10 {a0 a1 a2 a3 a4 a5 a6 a7 a8 a9 : Option Value} {r : List (Option Value)} {x u : Int32} {n : Int} (E : q_Ev C cc nL own al ad FR LO) (hd : decode cc pc = .ok (.iinc 10 n, 3)) (hv : Int32.ofInt n = u) (hi : 10 < nL) (hn : q_nl (a0 :: a1 :: a2 :: a3 :: a4 :: a5 :: a6 :: a7 :: a8 :: a9 :: some (.int x) :: r) 10 = true) (k : gg C ty nL kc ks al ad (pc + 3) (a0 :: a1 :: a2 :: a3 :: a4 :: a5 :: a6 :: a7 :: a8 :: a9 :: some (.int (x + u)) :: r) st h) : gg C ty nL kc ks al ad pc (a0 :: a1 :: a2 :: a3 :: a4 :: a5 :: a6 :: a7 :: a8 :: a9 :: some (.int x) :: r) st h := by
  obtain ⟨⟨p, l, e, R, s⟩, ⟨m, args, below, meth, c⟩, ⟨D, ca, A, Q⟩⟩ := C
  intro H locs lsA hZ hR hS hl
  obtain ⟨kk, hk⟩ := List.getElem?_of_mem (q_prs_mem.mpr ⟨10, .int x, by simp, rfl, rfl⟩ : (10, q_cv ad (.int x)) ∈ q_prs ad 0 (a0 :: a1 :: a2 :: a3 :: a4 :: a5 :: a6 :: a7 :: a8 :: a9 :: some (.int x) :: r))
  exact lv_iinc E.1 E.2.1 hd hl hk (by rw [hv]) hi rfl (fun ls2 hl2 => k H locs ls2 hZ hR hS (q_L.set1 (v := .int (x + u)) hn hl2))
theorem g_iload_11 {a0 a1 a2 a3 a4 a5 a6 a7 a8 a9 a10 : Option Value} {r : List (Option Value)} {x : Int32} (E : q_Ev C cc nL own al ad FR LO) (hd : decode cc pc = .ok (.iload 11, 2)) (k : gg C ty nL kc ks al ad (pc + 2) (a0 :: a1 :: a2 :: a3 :: a4 :: a5 :: a6 :: a7 :: a8 :: a9 :: a10 :: some (.int x) :: r) (.int x :: st) h) : gg C ty nL kc ks al ad pc (a0 :: a1 :: a2 :: a3 :: a4 :: a5 :: a6 :: a7 :: a8 :: a9 :: a10 :: some (.int x) :: r) st h := by
  obtain ⟨⟨p, l, e, R, s⟩, ⟨m, args, below, meth, c⟩, ⟨D, ca, A, Q⟩⟩ := C
  exact fun H locs lsA hZ hR hS hl => lv_iload E.1 E.2.1 hd (q_L.get hl (i := 11) rfl) (k H locs lsA hZ hR hS hl)
theorem g_istore_11 {a0 a1 a2 a3 a4 a5 a6 a7 a8 a9 a10 az : Option Value} {r : List (Option Value)} {x : Int32} (E : q_Ev C cc nL own al ad FR LO) (hd : decode cc pc = .ok (.istore 11, 2)) (hi : 11 < nL) (hn : q_nl (a0 :: a1 :: a2 :: a3 :: a4 :: a5 :: a6 :: a7 :: a8 :: a9 :: a10 :: az :: r) 11 = true) (k : gg C ty nL kc ks al ad (pc + 2) (a0 :: a1 :: a2 :: a3 :: a4 :: a5 :: a6 :: a7 :: a8 :: a9 :: a10 :: some (.int x) :: r) st h) : gg C ty nL kc ks al ad pc (a0 :: a1 :: a2 :: a3 :: a4 :: a5 :: a6 :: a7 :: a8 :: a9 :: a10 :: az :: r) (.int x :: st) h := by
  obtain ⟨⟨p, l, e, R, s⟩, ⟨m, args, below, meth, c⟩, ⟨D, ca, A, Q⟩⟩ := C
  exact fun H locs lsA hZ hR hS hl => lv_istore E.1 E.2.1 hd hl hi rfl (fun ls2 hl2 => k H locs ls2 hZ hR hS (q_L.set1 (v := .int x) hn hl2))
theorem g_lload_11 {a0 a1 a2 a3 a4 a5 a6 a7 a8 a9 a10 : Option Value} {r : List (Option Value)} {x : Int64} (E : q_Ev C cc nL own al ad FR LO) (hd : decode cc pc = .ok (.lload 11, 2)) (k : gg C ty nL kc ks al ad (pc + 2) (a0 :: a1 :: a2 :: a3 :: a4 :: a5 :: a6 :: a7 :: a8 :: a9 :: a10 :: some (.long x) :: r) (.long x :: st) h) : gg C ty nL kc ks al ad pc (a0 :: a1 :: a2 :: a3 :: a4 :: a5 :: a6 :: a7 :: a8 :: a9 :: a10 :: some (.long x) :: r) st h := by
  obtain ⟨⟨p, l, e, R, s⟩, ⟨m, args, below, meth, c⟩, ⟨D, ca, A, Q⟩⟩ := C
  exact fun H locs lsA hZ hR hS hl => lv_lload E.1 E.2.1 hd (q_L.get hl (i := 11) rfl) (k H locs lsA hZ hR hS hl)
theorem g_lstore_11 {a0 a1 a2 a3 a4 a5 a6 a7 a8 a9 a10 az ay : Option Value} {r : List (Option Value)} {x : Int64} (E : q_Ev C cc nL own al ad FR LO) (hd : decode cc pc = .ok (.lstore 11, 2)) (hi : 11 + 1 < nL) (hn : q_nl (a0 :: a1 :: a2 :: a3 :: a4 :: a5 :: a6 :: a7 :: a8 :: a9 :: a10 :: az :: ay :: r) 11 = true) (k : gg C ty nL kc ks al ad (pc + 2) (a0 :: a1 :: a2 :: a3 :: a4 :: a5 :: a6 :: a7 :: a8 :: a9 :: a10 :: some (.long x) :: none :: r) st h) : gg C ty nL kc ks al ad pc (a0 :: a1 :: a2 :: a3 :: a4 :: a5 :: a6 :: a7 :: a8 :: a9 :: a10 :: az :: ay :: r) (.long x :: st) h := by
  obtain ⟨⟨p, l, e, R, s⟩, ⟨m, args, below, meth, c⟩, ⟨D, ca, A, Q⟩⟩ := C
  exact fun H locs lsA hZ hR hS hl => lv_lstore E.1 E.2.1 hd hl hi rfl (fun ls2 hl2 => k H locs ls2 hZ hR hS (q_L.set2 (v := .long x) hn hl2))
theorem g_aload_11 {a0 a1 a2 a3 a4 a5 a6 a7 a8 a9 a10 : Option Value} {r : List (Option Value)} {x : Nat} (E : q_Ev C cc nL own al ad FR LO) (hd : decode cc pc = .ok (.aload 11, 2)) (k : gg C ty nL kc ks al ad (pc + 2) (a0 :: a1 :: a2 :: a3 :: a4 :: a5 :: a6 :: a7 :: a8 :: a9 :: a10 :: some (.ref x) :: r) (.ref x :: st) h) : gg C ty nL kc ks al ad pc (a0 :: a1 :: a2 :: a3 :: a4 :: a5 :: a6 :: a7 :: a8 :: a9 :: a10 :: some (.ref x) :: r) st h := by
  obtain ⟨⟨p, l, e, R, s⟩, ⟨m, args, below, meth, c⟩, ⟨D, ca, A, Q⟩⟩ := C
  exact fun H locs lsA hZ hR hS hl => lv_aload E.1 E.2.1 hd (q_L.get hl (i := 11) rfl) (k H locs lsA hZ hR hS hl)
theorem g_astore_11 {a0 a1 a2 a3 a4 a5 a6 a7 a8 a9 a10 az : Option Value} {r : List (Option Value)} {x : Nat} (E : q_Ev C cc nL own al ad FR LO) (hd : decode cc pc = .ok (.astore 11, 2)) (hi : 11 < nL) (hn : q_nl (a0 :: a1 :: a2 :: a3 :: a4 :: a5 :: a6 :: a7 :: a8 :: a9 :: a10 :: az :: r) 11 = true) (k : gg C ty nL kc ks al ad (pc + 2) (a0 :: a1 :: a2 :: a3 :: a4 :: a5 :: a6 :: a7 :: a8 :: a9 :: a10 :: some (.ref x) :: r) st h) : gg C ty nL kc ks al ad pc (a0 :: a1 :: a2 :: a3 :: a4 :: a5 :: a6 :: a7 :: a8 :: a9 :: a10 :: az :: r) (.ref x :: st) h := by
  obtain ⟨⟨p, l, e, R, s⟩, ⟨m, args, below, meth, c⟩, ⟨D, ca, A, Q⟩⟩ := C
  exact fun H locs lsA hZ hR hS hl => lv_astore E.1 E.2.1 hd hl hi rfl (fun ls2 hl2 => k H locs ls2 hZ hR hS (q_L.set1 (v := .ref x) hn hl2))
theorem g_iinc_11 {a0 a1 a2 a3 a4 a5 a6 a7 a8 a9 a10 : Option Value} {r : List (Option Value)} {x u : Int32} {n : Int} (E : q_Ev C cc nL own al ad FR LO) (hd : decode cc pc = .ok (.iinc 11 n, 3)) (hv : Int32.ofInt n = u) (hi : 11 < nL) (hn : q_nl (a0 :: a1 :: a2 :: a3 :: a4 :: a5 :: a6 :: a7 :: a8 :: a9 :: a10 :: some (.int x) :: r) 11 = true) (k : gg C ty nL kc ks al ad (pc + 3) (a0 :: a1 :: a2 :: a3 :: a4 :: a5 :: a6 :: a7 :: a8 :: a9 :: a10 :: some (.int (x + u)) :: r) st h) : gg C ty nL kc ks al ad pc (a0 :: a1 :: a2 :: a3 :: a4 :: a5 :: a6 :: a7 :: a8 :: a9 :: a10 :: some (.int x) :: r) st h := by
  obtain ⟨⟨p, l, e, R, s⟩, ⟨m, args, below, meth, c⟩, ⟨D, ca, A, Q⟩⟩ := C
  intro H locs lsA hZ hR hS hl
  obtain ⟨kk, hk⟩ := List.getElem?_of_mem (q_prs_mem.mpr ⟨11, .int x, by simp, rfl, rfl⟩ : (11, q_cv ad (.int x)) ∈ q_prs ad 0 (a0 :: a1 :: a2 :: a3 :: a4 :: a5 :: a6 :: a7 :: a8 :: a9 :: a10 :: some (.int x) :: r))
  exact lv_iinc E.1 E.2.1 hd hl hk (by rw [hv]) hi rfl (fun ls2 hl2 => k H locs ls2 hZ hR hS (q_L.set1 (v := .int (x + u)) hn hl2))
theorem g_iload_12 {a0 a1 a2 a3 a4 a5 a6 a7 a8 a9 a10 a11 : Option Value} {r : List (Option Value)} {x : Int32} (E : q_Ev C cc nL own al ad FR LO) (hd : decode cc pc = .ok (.iload 12, 2)) (k : gg C ty nL kc ks al ad (pc + 2) (a0 :: a1 :: a2 :: a3 :: a4 :: a5 :: a6 :: a7 :: a8 :: a9 :: a10 :: a11 :: some (.int x) :: r) (.int x :: st) h) : gg C ty nL kc ks al ad pc (a0 :: a1 :: a2 :: a3 :: a4 :: a5 :: a6 :: a7 :: a8 :: a9 :: a10 :: a11 :: some (.int x) :: r) st h := by
  obtain ⟨⟨p, l, e, R, s⟩, ⟨m, args, below, meth, c⟩, ⟨D, ca, A, Q⟩⟩ := C
  exact fun H locs lsA hZ hR hS hl => lv_iload E.1 E.2.1 hd (q_L.get hl (i := 12) rfl) (k H locs lsA hZ hR hS hl)
theorem g_istore_12 {a0 a1 a2 a3 a4 a5 a6 a7 a8 a9 a10 a11 az : Option Value} {r : List (Option Value)} {x : Int32} (E : q_Ev C cc nL own al ad FR LO) (hd : decode cc pc = .ok (.istore 12, 2)) (hi : 12 < nL) (hn : q_nl (a0 :: a1 :: a2 :: a3 :: a4 :: a5 :: a6 :: a7 :: a8 :: a9 :: a10 :: a11 :: az :: r) 12 = true) (k : gg C ty nL kc ks al ad (pc + 2) (a0 :: a1 :: a2 :: a3 :: a4 :: a5 :: a6 :: a7 :: a8 :: a9 :: a10 :: a11 :: some (.int x) :: r) st h) : gg C ty nL kc ks al ad pc (a0 :: a1 :: a2 :: a3 :: a4 :: a5 :: a6 :: a7 :: a8 :: a9 :: a10 :: a11 :: az :: r) (.int x :: st) h := by
  obtain ⟨⟨p, l, e, R, s⟩, ⟨m, args, below, meth, c⟩, ⟨D, ca, A, Q⟩⟩ := C
  exact fun H locs lsA hZ hR hS hl => lv_istore E.1 E.2.1 hd hl hi rfl (fun ls2 hl2 => k H locs ls2 hZ hR hS (q_L.set1 (v := .int x) hn hl2))
theorem g_lload_12 {a0 a1 a2 a3 a4 a5 a6 a7 a8 a9 a10 a11 : Option Value} {r : List (Option Value)} {x : Int64} (E : q_Ev C cc nL own al ad FR LO) (hd : decode cc pc = .ok (.lload 12, 2)) (k : gg C ty nL kc ks al ad (pc + 2) (a0 :: a1 :: a2 :: a3 :: a4 :: a5 :: a6 :: a7 :: a8 :: a9 :: a10 :: a11 :: some (.long x) :: r) (.long x :: st) h) : gg C ty nL kc ks al ad pc (a0 :: a1 :: a2 :: a3 :: a4 :: a5 :: a6 :: a7 :: a8 :: a9 :: a10 :: a11 :: some (.long x) :: r) st h := by
  obtain ⟨⟨p, l, e, R, s⟩, ⟨m, args, below, meth, c⟩, ⟨D, ca, A, Q⟩⟩ := C
  exact fun H locs lsA hZ hR hS hl => lv_lload E.1 E.2.1 hd (q_L.get hl (i := 12) rfl) (k H locs lsA hZ hR hS hl)
theorem g_lstore_12 {a0 a1 a2 a3 a4 a5 a6 a7 a8 a9 a10 a11 az ay : Option Value} {r : List (Option Value)} {x : Int64} (E : q_Ev C cc nL own al ad FR LO) (hd : decode cc pc = .ok (.lstore 12, 2)) (hi : 12 + 1 < nL) (hn : q_nl (a0 :: a1 :: a2 :: a3 :: a4 :: a5 :: a6 :: a7 :: a8 :: a9 :: a10 :: a11 :: az :: ay :: r) 12 = true) (k : gg C ty nL kc ks al ad (pc + 2) (a0 :: a1 :: a2 :: a3 :: a4 :: a5 :: a6 :: a7 :: a8 :: a9 :: a10 :: a11 :: some (.long x) :: none :: r) st h) : gg C ty nL kc ks al ad pc (a0 :: a1 :: a2 :: a3 :: a4 :: a5 :: a6 :: a7 :: a8 :: a9 :: a10 :: a11 :: az :: ay :: r) (.long x :: st) h := by
  obtain ⟨⟨p, l, e, R, s⟩, ⟨m, args, below, meth, c⟩, ⟨D, ca, A, Q⟩⟩ := C
  exact fun H locs lsA hZ hR hS hl => lv_lstore E.1 E.2.1 hd hl hi rfl (fun ls2 hl2 => k H locs ls2 hZ hR hS (q_L.set2 (v := .long x) hn hl2))
theorem g_aload_12 {a0 a1 a2 a3 a4 a5 a6 a7 a8 a9 a10 a11 : Option Value} {r : List (Option Value)} {x : Nat} (E : q_Ev C cc nL own al ad FR LO) (hd : decode cc pc = .ok (.aload 12, 2)) (k : gg C ty nL kc ks al ad (pc + 2) (a0 :: a1 :: a2 :: a3 :: a4 :: a5 :: a6 :: a7 :: a8 :: a9 :: a10 :: a11 :: some (.ref x) :: r) (.ref x :: st) h) : gg C ty nL kc ks al ad pc (a0 :: a1 :: a2 :: a3 :: a4 :: a5 :: a6 :: a7 :: a8 :: a9 :: a10 :: a11 :: some (.ref x) :: r) st h := by
  obtain ⟨⟨p, l, e, R, s⟩, ⟨m, args, below, meth, c⟩, ⟨D, ca, A, Q⟩⟩ := C
  exact fun H locs lsA hZ hR hS hl => lv_aload E.1 E.2.1 hd (q_L.get hl (i := 12) rfl) (k H locs lsA hZ hR hS hl)
theorem g_astore_12 {a0 a1 a2 a3 a4 a5 a6 a7 a8 a9 a10 a11 az : Option Value} {r : List (Option Value)} {x : Nat} (E : q_Ev C cc nL own al ad FR LO) (hd : decode cc pc = .ok (.astore 12, 2)) (hi : 12 < nL) (hn : q_nl (a0 :: a1 :: a2 :: a3 :: a4 :: a5 :: a6 :: a7 :: a8 :: a9 :: a10 :: a11 :: az :: r) 12 = true) (k : gg C ty nL kc ks al ad (pc + 2) (a0 :: a1 :: a2 :: a3 :: a4 :: a5 :: a6 :: a7 :: a8 :: a9 :: a10 :: a11 :: some (.ref x) :: r) st h) : gg C ty nL kc ks al ad pc (a0 :: a1 :: a2 :: a3 :: a4 :: a5 :: a6 :: a7 :: a8 :: a9 :: a10 :: a11 :: az :: r) (.ref x :: st) h := by
  obtain ⟨⟨p, l, e, R, s⟩, ⟨m, args, below, meth, c⟩, ⟨D, ca, A, Q⟩⟩ := C
  exact fun H locs lsA hZ hR hS hl => lv_astore E.1 E.2.1 hd hl hi rfl (fun ls2 hl2 => k H locs ls2 hZ hR hS (q_L.set1 (v := .ref x) hn hl2))
theorem g_iinc_12 {a0 a1 a2 a3 a4 a5 a6 a7 a8 a9 a10 a11 : Option Value} {r : List (Option Value)} {x u : Int32} {n : Int} (E : q_Ev C cc nL own al ad FR LO) (hd : decode cc pc = .ok (.iinc 12 n, 3)) (hv : Int32.ofInt n = u) (hi : 12 < nL) (hn : q_nl (a0 :: a1 :: a2 :: a3 :: a4 :: a5 :: a6 :: a7 :: a8 :: a9 :: a10 :: a11 :: some (.int x) :: r) 12 = true) (k : gg C ty nL kc ks al ad (pc + 3) (a0 :: a1 :: a2 :: a3 :: a4 :: a5 :: a6 :: a7 :: a8 :: a9 :: a10 :: a11 :: some (.int (x + u)) :: r) st h) : gg C ty nL kc ks al ad pc (a0 :: a1 :: a2 :: a3 :: a4 :: a5 :: a6 :: a7 :: a8 :: a9 :: a10 :: a11 :: some (.int x) :: r) st h := by
  obtain ⟨⟨p, l, e, R, s⟩, ⟨m, args, below, meth, c⟩, ⟨D, ca, A, Q⟩⟩ := C
  intro H locs lsA hZ hR hS hl
  obtain ⟨kk, hk⟩ := List.getElem?_of_mem (q_prs_mem.mpr ⟨12, .int x, by simp, rfl, rfl⟩ : (12, q_cv ad (.int x)) ∈ q_prs ad 0 (a0 :: a1 :: a2 :: a3 :: a4 :: a5 :: a6 :: a7 :: a8 :: a9 :: a10 :: a11 :: some (.int x) :: r))
  exact lv_iinc E.1 E.2.1 hd hl hk (by rw [hv]) hi rfl (fun ls2 hl2 => k H locs ls2 hZ hR hS (q_L.set1 (v := .int (x + u)) hn hl2))
theorem g_iload_13 {a0 a1 a2 a3 a4 a5 a6 a7 a8 a9 a10 a11 a12 : Option Value} {r : List (Option Value)} {x : Int32} (E : q_Ev C cc nL own al ad FR LO) (hd : decode cc pc = .ok (.iload 13, 2)) (k : gg C ty nL kc ks al ad (pc + 2) (a0 :: a1 :: a2 :: a3 :: a4 :: a5 :: a6 :: a7 :: a8 :: a9 :: a10 :: a11 :: a12 :: some (.int x) :: r) (.int x :: st) h) : gg C ty nL kc ks al ad pc (a0 :: a1 :: a2 :: a3 :: a4 :: a5 :: a6 :: a7 :: a8 :: a9 :: a10 :: a11 :: a12 :: some (.int x) :: r) st h := by
  obtain ⟨⟨p, l, e, R, s⟩, ⟨m, args, below, meth, c⟩, ⟨D, ca, A, Q⟩⟩ := C
  exact fun H locs lsA hZ hR hS hl => lv_iload E.1 E.2.1 hd (q_L.get hl (i := 13) rfl) (k H locs lsA hZ hR hS hl)
theorem g_istore_13 {a0 a1 a2 a3 a4 a5 a6 a7 a8 a9 a10 a11 a12 az : Option Value} {r : List (Option Value)} {x : Int32} (E : q_Ev C cc nL own al ad FR LO) (hd : decode cc pc = .ok (.istore 13, 2)) (hi : 13 < nL) (hn : q_nl (a0 :: a1 :: a2 :: a3 :: a4 :: a5 :: a6 :: a7 :: a8 :: a9 :: a10 :: a11 :: a12 :: az :: r) 13 = true) (k : gg C ty nL kc ks al ad (pc + 2) (a0 :: a1 :: a2 :: a3 :: a4 :: a5 :: a6 :: a7 :: a8 :: a9 :: a10 :: a11 :: a12 :: some (.int x) :: r) st h) : gg C ty nL kc ks al ad pc (a0 :: a1 :: a2 :: a3 :: a4 :: a5 :: a6 :: a7 :: a8 :: a9 :: a10 :: a11 :: a12 :: az :: r) (.int x :: st) h := by
  obtain ⟨⟨p, l, e, R, s⟩, ⟨m, args, below, meth, c⟩, ⟨D, ca, A, Q⟩⟩ := C
  exact fun H locs lsA hZ hR hS hl => lv_istore E.1 E.2.1 hd hl hi rfl (fun ls2 hl2 => k H locs ls2 hZ hR hS (q_L.set1 (v := .int x) hn hl2))
theorem g_lload_13 {a0 a1 a2 a3 a4 a5 a6 a7 a8 a9 a10 a11 a12 : Option Value} {r : List (Option Value)} {x : Int64} (E : q_Ev C cc nL own al ad FR LO) (hd : decode cc pc = .ok (.lload 13, 2)) (k : gg C ty nL kc ks al ad (pc + 2) (a0 :: a1 :: a2 :: a3 :: a4 :: a5 :: a6 :: a7 :: a8 :: a9 :: a10 :: a11 :: a12 :: some (.long x) :: r) (.long x :: st) h) : gg C ty nL kc ks al ad pc (a0 :: a1 :: a2 :: a3 :: a4 :: a5 :: a6 :: a7 :: a8 :: a9 :: a10 :: a11 :: a12 :: some (.long x) :: r) st h := by
  obtain ⟨⟨p, l, e, R, s⟩, ⟨m, args, below, meth, c⟩, ⟨D, ca, A, Q⟩⟩ := C
  exact fun H locs lsA hZ hR hS hl => lv_lload E.1 E.2.1 hd (q_L.get hl (i := 13) rfl) (k H locs lsA hZ hR hS hl)
theorem g_lstore_13 {a0 a1 a2 a3 a4 a5 a6 a7 a8 a9 a10 a11 a12 az ay : Option Value} {r : List (Option Value)} {x : Int64} (E : q_Ev C cc nL own al ad FR LO) (hd : decode cc pc = .ok (.lstore 13, 2)) (hi : 13 + 1 < nL) (hn : q_nl (a0 :: a1 :: a2 :: a3 :: a4 :: a5 :: a6 :: a7 :: a8 :: a9 :: a10 :: a11 :: a12 :: az :: ay :: r) 13 = true) (k : gg C ty nL kc ks al ad (pc + 2) (a0 :: a1 :: a2 :: a3 :: a4 :: a5 :: a6 :: a7 :: a8 :: a9 :: a10 :: a11 :: a12 :: some (.long x) :: none :: r) st h) : gg C ty nL kc ks al ad pc (a0 :: a1 :: a2 :: a3 :: a4 :: a5 :: a6 :: a7 :: a8 :: a9 :: a10 :: a11 :: a12 :: az :: ay :: r) (.long x :: st) h := by
  obtain ⟨⟨p, l, e, R, s⟩, ⟨m, args, below, meth, c⟩, ⟨D, ca, A, Q⟩⟩ := C
  exact fun H locs lsA hZ hR hS hl => lv_lstore E.1 E.2.1 hd hl hi rfl (fun ls2 hl2 => k H locs ls2 hZ hR hS (q_L.set2 (v := .long x) hn hl2))
theorem g_aload_13 {a0 a1 a2 a3 a4 a5 a6 a7 a8 a9 a10 a11 a12 : Option Value} {r : List (Option Value)} {x : Nat} (E : q_Ev C cc nL own al ad FR LO) (hd : decode cc pc = .ok (.aload 13, 2)) (k : gg C ty nL kc ks al ad (pc + 2) (a0 :: a1 :: a2 :: a3 :: a4 :: a5 :: a6 :: a7 :: a8 :: a9 :: a10 :: a11 :: a12 :: some (.ref x) :: r) (.ref x :: st) h) : gg C ty nL kc ks al ad pc (a0 :: a1 :: a2 :: a3 :: a4 :: a5 :: a6 :: a7 :: a8 :: a9 :: a10 :: a11 :: a12 :: some (.ref x) :: r) st h := by
  obtain ⟨⟨p, l, e, R, s⟩, ⟨m, args, below, meth, c⟩, ⟨D, ca, A, Q⟩⟩ := C
  exact fun H locs lsA hZ hR hS hl => lv_aload E.1 E.2.1 hd (q_L.get hl (i := 13) rfl) (k H locs lsA hZ hR hS hl)
theorem g_astore_13 {a0 a1 a2 a3 a4 a5 a6 a7 a8 a9 a10 a11 a12 az : Option Value} {r : List (Option Value)} {x : Nat} (E : q_Ev C cc nL own al ad FR LO) (hd : decode cc pc = .ok (.astore 13, 2)) (hi : 13 < nL) (hn : q_nl (a0 :: a1 :: a2 :: a3 :: a4 :: a5 :: a6 :: a7 :: a8 :: a9 :: a10 :: a11 :: a12 :: az :: r) 13 = true) (k : gg C ty nL kc ks al ad (pc + 2) (a0 :: a1 :: a2 :: a3 :: a4 :: a5 :: a6 :: a7 :: a8 :: a9 :: a10 :: a11 :: a12 :: some (.ref x) :: r) st h) : gg C ty nL kc ks al ad pc (a0 :: a1 :: a2 :: a3 :: a4 :: a5 :: a6 :: a7 :: a8 :: a9 :: a10 :: a11 :: a12 :: az :: r) (.ref x :: st) h := by
  obtain ⟨⟨p, l, e, R, s⟩, ⟨m, args, below, meth, c⟩, ⟨D, ca, A, Q⟩⟩ := C
  exact fun H locs lsA hZ hR hS hl => lv_astore E.1 E.2.1 hd hl hi rfl (fun ls2 hl2 => k H locs ls2 hZ hR hS (q_L.set1 (v := .ref x) hn hl2))
theorem g_iinc_13 {a0 a1 a2 a3 a4 a5 a6 a7 a8 a9 a10 a11 a12 : Option Value} {r : List (Option Value)} {x u : Int32} {n : Int} (E : q_Ev C cc nL own al ad FR LO) (hd : decode cc pc = .ok (.iinc 13 n, 3)) (hv : Int32.ofInt n = u) (hi : 13 < nL) (hn : q_nl (a0 :: a1 :: a2 :: a3 :: a4 :: a5 :: a6 :: a7 :: a8 :: a9 :: a10 :: a11 :: a12 :: some (.int x) :: r) 13 = true) (k : gg C ty nL kc ks al ad (pc + 3) (a0 :: a1 :: a2 :: a3 :: a4 :: a5 :: a6 :: a7 :: a8 :: a9 :: a10 :: a11 :: a12 :: some (.int (x + u)) :: r) st h) : gg C ty nL kc ks al ad pc (a0 :: a1 :: a2 :: a3 :: a4 :: a5 :: a6 :: a7 :: a8 :: a9 :: a10 :: a11 :: a12 :: some (.int x) :: r) st h := by
  obtain ⟨⟨p, l, e, R, s⟩, ⟨m, args, below, meth, c⟩, ⟨D, ca, A, Q⟩⟩ := C
  intro H locs lsA hZ hR hS hl
  obtain ⟨kk, hk⟩ := List.getElem?_of_mem (q_prs_mem.mpr ⟨13, .int x, by simp, rfl, rfl⟩ : (13, q_cv ad (.int x)) ∈ q_prs ad 0 (a0 :: a1 :: a2 :: a3 :: a4 :: a5 :: a6 :: a7 :: a8 :: a9 :: a10 :: a11 :: a12 :: some (.int x) :: r))
  exact lv_iinc E.1 E.2.1 hd hl hk (by rw [hv]) hi rfl (fun ls2 hl2 => k H locs ls2 hZ hR hS (q_L.set1 (v := .int (x + u)) hn hl2))
theorem g_iload_14 {a0 a1 a2 a3 a4 a5 a6 a7 a8 a9 a10 a11 a12 a13 : Option Value} {r : List (Option Value)} {x : Int32} (E : q_Ev C cc nL own al ad FR LO) (hd : decode cc pc = .ok (.iload 14, 2)) (k : gg C ty nL kc ks al ad (pc + 2) (a0 :: a1 :: a2 :: a3 :: a4 :: a5 :: a6 :: a7 :: a8 :: a9 :: a10 :: a11 :: a12 :: a13 :: some (.int x) :: r) (.int x :: st) h) : gg C ty nL kc ks al ad pc (a0 :: a1 :: a2 :: a3 :: a4 :: a5 :: a6 :: a7 :: a8 :: a9 :: a10 :: a11 :: a12 :: a13 :: some (.int x) :: r) st h := by
  obtain ⟨⟨p, l, e, R, s⟩, ⟨m, args, below, meth, c⟩, ⟨D, ca, A, Q⟩⟩ := C
  exact fun H locs lsA hZ hR hS hl => lv_iload E.1 E.2.1 hd (q_L.get hl (i := 14) rfl) (k H locs lsA hZ hR hS hl)
theorem g_istore_14 {a0 a1 a2 a3 a4 a5 a6 a7 a8 a9 a10 a11 a12 a13 az : Option Value} {r : List (Option Value)} {x : Int32} (E : q_Ev C cc nL own al ad FR LO) (hd : decode cc pc = .ok (.istore 14, 2)) (hi : 14 < nL) (hn : q_nl (a0 :: a1 :: a2 :: a3 :: a4 :: a5 :: a6 :: a7 :: a8 :: a9 :: a10 :: a11 :: a12 :: a13 :: az :: r) 14 = true) (k : gg C ty nL kc ks al ad (pc + 2) (a0 :: a1 :: a2 :: a3 :: a4 :: a5 :: a6 :: a7 :: a8 :: a9 :: a10 :: a11 :: a12 :: a13 :: some (.int x) :: r) st h) : gg C ty nL kc ks al ad pc (a0 :: a1 :: a2 :: a3 :: a4 :: a5 :: a6 :: a7 :: a8 :: a9 :: a10 :: a11 :: a12 :: a13 :: az :: r) (.int x :: st) h := by
  obtain ⟨⟨p, l, e, R, s⟩, ⟨m, args, below, meth, c⟩, ⟨D, ca, A, Q⟩⟩ := C
  exact fun H locs lsA hZ hR hS hl => lv_istore E.1 E.2.1 hd hl hi rfl (fun ls2 hl2 => k H locs ls2 hZ hR hS (q_L.set1 (v := .int x) hn hl2))
theorem g_lload_14 {a0 a1 a2 a3 a4 a5 a6 a7 a8 a9 a10 a11 a12 a13 : Option Value} {r : List (Option Value)} {x : Int64} (E : q_Ev C cc nL own al ad FR LO) (hd : decode cc pc = .ok (.lload 14, 2)) (k : gg C ty nL kc ks al ad (pc + 2) (a0 :: a1 :: a2 :: a3 :: a4 :: a5 :: a6 :: a7 :: a8 :: a9 :: a10 :: a11 :: a12 :: a13 :: some (.long x) :: r) (.long x :: st) h) : gg C ty nL kc ks al ad pc (a0 :: a1 :: a2 :: a3 :: a4 :: a5 :: a6 :: a7 :: a8 :: a9 :: a10 :: a11 :: a12 :: a13 :: some (.long x) :: r) st h := by
  obtain ⟨⟨p, l, e, R, s⟩, ⟨m, args, below, meth, c⟩, ⟨D, ca, A, Q⟩⟩ := C
  exact fun H locs lsA hZ hR hS hl => lv_lload E.1 E.2.1 hd (q_L.get hl (i := 14) rfl) (k H locs lsA hZ hR hS hl)
theorem g_lstore_14 {a0 a1 a2 a3 a4 a5 a6 a7 a8 a9 a10 a11 a12 a13 az ay : Option Value} {r : List (Option Value)} {x : Int64} (E : q_Ev C cc nL own al ad FR LO) (hd : decode cc pc = .ok (.lstore 14, 2)) (hi : 14 + 1 < nL) (hn : q_nl (a0 :: a1 :: a2 :: a3 :: a4 :: a5 :: a6 :: a7 :: a8 :: a9 :: a10 :: a11 :: a12 :: a13 :: az :: ay :: r) 14 = true) (k : gg C ty nL kc ks al ad (pc + 2) (a0 :: a1 :: a2 :: a3 :: a4 :: a5 :: a6 :: a7 :: a8 :: a9 :: a10 :: a11 :: a12 :: a13 :: some (.long x) :: none :: r) st h) : gg C ty nL kc ks al ad pc (a0 :: a1 :: a2 :: a3 :: a4 :: a5 :: a6 :: a7 :: a8 :: a9 :: a10 :: a11 :: a12 :: a13 :: az :: ay :: r) (.long x :: st) h := by
  obtain ⟨⟨p, l, e, R, s⟩, ⟨m, args, below, meth, c⟩, ⟨D, ca, A, Q⟩⟩ := C
  exact fun H locs lsA hZ hR hS hl => lv_lstore E.1 E.2.1 hd hl hi rfl (fun ls2 hl2 => k H locs ls2 hZ hR hS (q_L.set2 (v := .long x) hn hl2))
theorem g_aload_14 {a0 a1 a2 a3 a4 a5 a6 a7 a8 a9 a10 a11 a12 a13 : Option Value} {r : List (Option Value)} {x : Nat} (E : q_Ev C cc nL own al ad FR LO) (hd : decode cc pc = .ok (.aload 14, 2)) (k : gg C ty nL kc ks al ad (pc + 2) (a0 :: a1 :: a2 :: a3 :: a4 :: a5 :: a6 :: a7 :: a8 :: a9 :: a10 :: a11 :: a12 :: a13 :: some (.ref x) :: r) (.ref x :: st) h) : gg C ty nL kc ks al ad pc (a0 :: a1 :: a2 :: a3 :: a4 :: a5 :: a6 :: a7 :: a8 :: a9 :: a10 :: a11 :: a12 :: a13 :: some (.ref x) :: r) st h := by
  obtain ⟨⟨p, l, e, R, s⟩, ⟨m, args, below, meth, c⟩, ⟨D, ca, A, Q⟩⟩ := C
  exact fun H locs lsA hZ hR hS hl => lv_aload E.1 E.2.1 hd (q_L.get hl (i := 14) rfl) (k H locs lsA hZ hR hS hl)
theorem g_astore_14 {a0 a1 a2 a3 a4 a5 a6 a7 a8 a9 a10 a11 a12 a13 az : Option Value} {r : List (Option Value)} {x : Nat} (E : q_Ev C cc nL own al ad FR LO) (hd : decode cc pc = .ok (.astore 14, 2)) (hi : 14 < nL) (hn : q_nl (a0 :: a1 :: a2 :: a3 :: a4 :: a5 :: a6 :: a7 :: a8 :: a9 :: a10 :: a11 :: a12 :: a13 :: az :: r) 14 = true) (k : gg C ty nL kc ks al ad (pc + 2) (a0 :: a1 :: a2 :: a3 :: a4 :: a5 :: a6 :: a7 :: a8 :: a9 :: a10 :: a11 :: a12 :: a13 :: some (.ref x) :: r) st h) : gg C ty nL kc ks al ad pc (a0 :: a1 :: a2 :: a3 :: a4 :: a5 :: a6 :: a7 :: a8 :: a9 :: a10 :: a11 :: a12 :: a13 :: az :: r) (.ref x :: st) h := by
  obtain ⟨⟨p, l, e, R, s⟩, ⟨m, args, below, meth, c⟩, ⟨D, ca, A, Q⟩⟩ := C
  exact fun H locs lsA hZ hR hS hl => lv_astore E.1 E.2.1 hd hl hi rfl (fun ls2 hl2 => k H locs ls2 hZ hR hS (q_L.set1 (v := .ref x) hn hl2))
theorem g_iinc_14 {a0 a1 a2 a3 a4 a5 a6 a7 a8 a9 a10 a11 a12 a13 : Option Value} {r : List (Option Value)} {x u : Int32} {n : Int} (E : q_Ev C cc nL own al ad FR LO) (hd : decode cc pc = .ok (.iinc 14 n, 3)) (hv : Int32.ofInt n = u) (hi : 14 < nL) (hn : q_nl (a0 :: a1 :: a2 :: a3 :: a4 :: a5 :: a6 :: a7 :: a8 :: a9 :: a10 :: a11 :: a12 :: a13 :: some (.int x) :: r) 14 = true) (k : gg C ty nL kc ks al ad (pc + 3) (a0 :: a1 :: a2 :: a3 :: a4 :: a5 :: a6 :: a7 :: a8 :: a9 :: a10 :: a11 :: a12 :: a13 :: some (.int (x + u)) :: r) st h) : gg C ty nL kc ks al ad pc (a0 :: a1 :: a2 :: a3 :: a4 :: a5 :: a6 :: a7 :: a8 :: a9 :: a10 :: a11 :: a12 :: a13 :: some (.int x) :: r) st h := by
  obtain ⟨⟨p, l, e, R, s⟩, ⟨m, args, below, meth, c⟩, ⟨D, ca, A, Q⟩⟩ := C
  intro H locs lsA hZ hR hS hl
  obtain ⟨kk, hk⟩ := List.getElem?_of_mem (q_prs_mem.mpr ⟨14, .int x, by simp, rfl, rfl⟩ : (14, q_cv ad (.int x)) ∈ q_prs ad 0 (a0 :: a1 :: a2 :: a3 :: a4 :: a5 :: a6 :: a7 :: a8 :: a9 :: a10 :: a11 :: a12 :: a13 :: some (.int x) :: r))
  exact lv_iinc E.1 E.2.1 hd hl hk (by rw [hv]) hi rfl (fun ls2 hl2 => k H locs ls2 hZ hR hS (q_L.set1 (v := .int (x + u)) hn hl2))
theorem g_iload_15 {a0 a1 a2 a3 a4 a5 a6 a7 a8 a9 a10 a11 a12 a13 a14 : Option Value} {r : List (Option Value)} {x : Int32} (E : q_Ev C cc nL own al ad FR LO) (hd : decode cc pc = .ok (.iload 15, 2)) (k : gg C ty nL kc ks al ad (pc + 2) (a0 :: a1 :: a2 :: a3 :: a4 :: a5 :: a6 :: a7 :: a8 :: a9 :: a10 :: a11 :: a12 :: a13 :: a14 :: some (.int x) :: r) (.int x :: st) h) : gg C ty nL kc ks al ad pc (a0 :: a1 :: a2 :: a3 :: a4 :: a5 :: a6 :: a7 :: a8 :: a9 :: a10 :: a11 :: a12 :: a13 :: a14 :: some (.int x) :: r) st h := by
  obtain ⟨⟨p, l, e, R, s⟩, ⟨m, args, below, meth, c⟩, ⟨D, ca, A, Q⟩⟩ := C
  exact fun H locs lsA hZ hR hS hl => lv_iload E.1 E.2.1 hd (q_L.get hl (i := 15) rfl) (k H locs lsA hZ hR hS hl)
theorem g_istore_15 {a0 a1 a2 a3 a4 a5 a6 a7 a8 a9 a10 a11 a12 a13 a14 az : Option Value} {r : List (Option Value)} {x : Int32} (E : q_Ev C cc nL own al ad FR LO) (hd : decode cc pc = .ok (.istore 15, 2)) (hi : 15 < nL) (hn : q_nl (a0 :: a1 :: a2 :: a3 :: a4 :: a5 :: a6 :: a7 :: a8 :: a9 :: a10 :: a11 :: a12 :: a13 :: a14 :: az :: r) 15 = true) (k : gg C ty nL kc ks al ad (pc + 2) (a0 :: a1 :: a2 :: a3 :: a4 :: a5 :: a6 :: a7 :: a8 :: a9 :: a10 :: a11 :: a12 :: a13 :: a14 :: some (.int x) :: r) st h) : gg C ty nL kc ks al ad pc (a0 :: a1 :: a2 :: a3 :: a4 :: a5 :: a6 :: a7 :: a8 :: a9 :: a10 :: a11 :: a12 :: a13 :: a14 :: az :: r) (.int x :: st) h := by
  obtain ⟨⟨p, l, e, R, s⟩, ⟨m, args, below, meth, c⟩, ⟨D, ca, A, Q⟩⟩ := C
  exact fun H locs lsA hZ hR hS hl => lv_istore E.1 E.2.1 hd hl hi rfl (fun ls2 hl2 => k H locs ls2 hZ hR hS (q_L.set1 (v := .int x) hn hl2))
theorem g_lload_15 {a0 a1 a2 a3 a4 a5 a6 a7 a8 a9 a10 a11 a12 a13 a14 : Option Value} {r : List (Option Value)} {x : Int64} (E : q_Ev C cc nL own al ad FR LO) (hd : decode cc pc = .ok (.lload 15, 2)) (k : gg C ty nL kc ks al ad (pc + 2) (a0 :: a1 :: a2 :: a3 :: a4 :: a5 :: a6 :: a7 :: a8 :: a9 :: a10 :: a11 :: a12 :: a13 :: a14 :: some (.long x) :: r) (.long x :: st) h) : gg C ty nL kc ks al ad pc (a0 :: a1 :: a2 :: a3 :: a4 :: a5 :: a6 :: a7 :: a8 :: a9 :: a10 :: a11 :: a12 :: a13 :: a14 :: some (.long x) :: r) st h := by
  obtain ⟨⟨p, l, e, R, s⟩, ⟨m, args, below, meth, c⟩, ⟨D, ca, A, Q⟩⟩ := C
  exact fun H locs lsA hZ hR hS hl => lv_lload E.1 E.2.1 hd (q_L.get hl (i := 15) rfl) (k H locs lsA hZ hR hS hl)
theorem g_lstore_15 {a0 a1 a2 a3 a4 a5 a6 a7 a8 a9 a10 a11 a12 a13 a14 az ay : Option Value} {r : List (Option Value)} {x : Int64} (E : q_Ev C cc nL own al ad FR LO) (hd : decode cc pc = .ok (.lstore 15, 2)) (hi : 15 + 1 < nL) (hn : q_nl (a0 :: a1 :: a2 :: a3 :: a4 :: a5 :: a6 :: a7 :: a8 :: a9 :: a10 :: a11 :: a12 :: a13 :: a14 :: az :: ay :: r) 15 = true) (k : gg C ty nL kc ks al ad (pc + 2) (a0 :: a1 :: a2 :: a3 :: a4 :: a5 :: a6 :: a7 :: a8 :: a9 :: a10 :: a11 :: a12 :: a13 :: a14 :: some (.long x) :: none :: r) st h) : gg C ty nL kc ks al ad pc (a0 :: a1 :: a2 :: a3 :: a4 :: a5 :: a6 :: a7 :: a8 :: a9 :: a10 :: a11 :: a12 :: a13 :: a14 :: az :: ay :: r) (.long x :: st) h := by
  obtain ⟨⟨p, l, e, R, s⟩, ⟨m, args, below, meth, c⟩, ⟨D, ca, A, Q⟩⟩ := C
  exact fun H locs lsA hZ hR hS hl => lv_lstore E.1 E.2.1 hd hl hi rfl (fun ls2 hl2 => k H locs ls2 hZ hR hS (q_L.set2 (v := .long x) hn hl2))
theorem g_aload_15 {a0 a1 a2 a3 a4 a5 a6 a7 a8 a9 a10 a11 a12 a13 a14 : Option Value} {r : List (Option Value)} {x : Nat} (E : q_Ev C cc nL own al ad FR LO) (hd : decode cc pc = .ok (.aload 15, 2)) (k : gg C ty nL kc ks al ad (pc + 2) (a0 :: a1 :: a2 :: a3 :: a4 :: a5 :: a6 :: a7 :: a8 :: a9 :: a10 :: a11 :: a12 :: a13 :: a14 :: some (.ref x) :: r) (.ref x :: st) h) : gg C ty nL kc ks al ad pc (a0 :: a1 :: a2 :: a3 :: a4 :: a5 :: a6 :: a7 :: a8 :: a9 :: a10 :: a11 :: a12 :: a13 :: a14 :: some (.ref x) :: r) st h := by
  obtain ⟨⟨p, l, e, R, s⟩, ⟨m, args, below, meth, c⟩, ⟨D, ca, A, Q⟩⟩ := C
  exact fun H locs lsA hZ hR hS hl => lv_aload E.1 E.2.1 hd (q_L.get hl (i := 15) rfl) (k H locs lsA hZ hR hS hl)
theorem g_astore_15 {a0 a1 a2 a3 a4 a5 a6 a7 a8 a9 a10 a11 a12 a13 a14 az : Option Value} {r : List (Option Value)} {x : Nat} (E : q_Ev C cc nL own al ad FR LO) (hd : decode cc pc = .ok (.astore 15, 2)) (hi : 15 < nL) (hn : q_nl (a0 :: a1 :: a2 :: a3 :: a4 :: a5 :: a6 :: a7 :: a8 :: a9 :: a10 :: a11 :: a12 :: a13 :: a14 :: az :: r) 15 = true) (k : gg C ty nL kc ks al ad (pc + 2) (a0 :: a1 :: a2 :: a3 :: a4 :: a5 :: a6 :: a7 :: a8 :: a9 :: a10 :: a11 :: a12 :: a13 :: a14 :: some (.ref x) :: r) st h) : gg C ty nL kc ks al ad pc (a0 :: a1 :: a2 :: a3 :: a4 :: a5 :: a6 :: a7 :: a8 :: a9 :: a10 :: a11 :: a12 :: a13 :: a14 :: az :: r) (.ref x :: st) h := by
  obtain ⟨⟨p, l, e, R, s⟩, ⟨m, args, below, meth, c⟩, ⟨D, ca, A, Q⟩⟩ := C
  exact fun H locs lsA hZ hR hS hl => lv_astore E.1 E.2.1 hd hl hi rfl (fun ls2 hl2 => k H locs ls2 hZ hR hS (q_L.set1 (v := .ref x) hn hl2))
theorem g_iinc_15 {a0 a1 a2 a3 a4 a5 a6 a7 a8 a9 a10 a11 a12 a13 a14 : Option Value} {r : List (Option Value)} {x u : Int32} {n : Int} (E : q_Ev C cc nL own al ad FR LO) (hd : decode cc pc = .ok (.iinc 15 n, 3)) (hv : Int32.ofInt n = u) (hi : 15 < nL) (hn : q_nl (a0 :: a1 :: a2 :: a3 :: a4 :: a5 :: a6 :: a7 :: a8 :: a9 :: a10 :: a11 :: a12 :: a13 :: a14 :: some (.int x) :: r) 15 = true) (k : gg C ty nL kc ks al ad (pc + 3) (a0 :: a1 :: a2 :: a3 :: a4 :: a5 :: a6 :: a7 :: a8 :: a9 :: a10 :: a11 :: a12 :: a13 :: a14 :: some (.int (x + u)) :: r) st h) : gg C ty nL kc ks al ad pc (a0 :: a1 :: a2 :: a3 :: a4 :: a5 :: a6 :: a7 :: a8 :: a9 :: a10 :: a11 :: a12 :: a13 :: a14 :: some (.int x) :: r) st h := by
  obtain ⟨⟨p, l, e, R, s⟩, ⟨m, args, below, meth, c⟩, ⟨D, ca, A, Q⟩⟩ := C
  intro H locs lsA hZ hR hS hl
  obtain ⟨kk, hk⟩ := List.getElem?_of_mem (q_prs_mem.mpr ⟨15, .int x, by simp, rfl, rfl⟩ : (15, q_cv ad (.int x)) ∈ q_prs ad 0 (a0 :: a1 :: a2 :: a3 :: a4 :: a5 :: a6 :: a7 :: a8 :: a9 :: a10 :: a11 :: a12 :: a13 :: a14 :: some (.int x) :: r))
  exact lv_iinc E.1 E.2.1 hd hl hk (by rw [hv]) hi rfl (fun ls2 hl2 => k H locs ls2 hZ hR hS (q_L.set1 (v := .int (x + u)) hn hl2))
/-- fewer locals known -/
theorem g_drop {ls2 : List (Option Value)} (hi : ∀ (i : Nat) (v : Value), ls2[i]? = some (some v) → ls[i]? = some (some v)) (k : gg C ty nL kc ks al ad pc ls2 st h) : gg C ty nL kc ks al ad pc ls st h := by
  obtain ⟨⟨p, l, e, R, s⟩, ⟨m, args, below, meth, c⟩, ⟨D, ca, A, Q⟩⟩ := C
  exact fun H locs lsA hZ hR hS hl => k H locs lsA hZ hR hS (q_L.mono hl hi)
end GM
end
section
/-! the heap's instructions, returns, contracts, calls -/
def q_ix (i : Int32) (n j : Nat) : Prop := vp_in i n ∧ i.toNatClampNeg = j
theorem q_ix_n {j n : Nat} (h : j < n) (hn : n < 2 ^ 31 := by decide) : q_ix (nI j) n j := ⟨vp_in_nI h hn, nI_clamp (Nat.lt_trans h hn)⟩
theorem q_ix_e {i : Int32} {j n : Nat} (e : i = nI j) (h : j < n) (hn : n < 2 ^ 31 := by decide) : q_ix i n j := e ▸ q_ix_n h hn
theorem q_ix_l {i : Int32} {j n : Nat} (h : (decide (¬ i < 0) && decide (i.toNatClampNeg < n) && decide (i.toNatClampNeg = j)) = true) : q_ix i n j := by
  simp only [Bool.and_eq_true, decide_eq_true_eq] at h
  exact ⟨fun q => q.elim h.1.1 (fun z => absurd h.1.2 (Nat.not_lt.mpr z)), h.2⟩
theorem q_E_congr {ca : FieldType → ClassId} {ad : Nat → Nat} {h h' : PH} {t : PT} {b : Nat} (h1 : h'.1 b = h.1 b) (h2 : h'.2.1 b = h.2.1 b) (h3 : h'.2.2 b = h.2.2 b) : q_E ca ad h' t b = q_E ca ad h t b := by
  cases t with
  | inl x => simp only [q_E, q_ar, h1, h2, h3]
  | inr ci => simp only [q_E, q_fs, q_fv, h1, h2, h3]
theorem q_R.set {D : va_G} {ca : FieldType → ClassId} {ty : Nat → PT} {al : Nat → Bool} {ad : Nat → Nat} {h h' : PH} {H H1 : Heap} {a : Nat} (hR : q_R D ca ty al ad h H) (hJ : q_J al ad) (ha : al a = true) (hat : va_at D vwCl (ad a, q_E ca ad h' (ty a) a) H1) (hne : ∀ q, q ≠ ad a → H1[q]? = H[q]?)
    (hs : ∀ b, b ≠ a → h'.1 b = h.1 b ∧ h'.2.1 b = h.2.1 b ∧ h'.2.2 b = h.2.2 b) : q_R D ca ty al ad h' H1 := by
  intro b hb
  by_cases e : b = a
  · subst e; exact hat
  · rw [q_E_congr (hs b e).1 (hs b e).2.1 (hs b e).2.2]
    exact (hR b hb).kept (hne _ (fun q => e (hJ b a hb ha q)))
theorem q_up_ne {α : Type} {f : Nat → Nat → α} {a k : Nat} {v : α} {b : Nat} (h : b ≠ a) : q_up f a k v b = f b := if_neg h
theorem q_up_eq {α : Type} {f : Nat → Nat → α} {a k : Nat} {v : α} : q_up f a k v a = va_up (f a) k v := if_pos rfl
theorem q_V {ci : Nat} {ad : Nat → Nat} {h : PH} {a j : Nat} (hj : j < q_N ci) : vp_V (q_fs ci ad h a) j = q_fv (q_ft ci j) ad h a j := by
  simp [vp_V, q_fs, hj]
section GH
variable {C : q_Ctx} {ty : Nat → PT} {cc : ByteArray} {nL kc ks : Nat} {own : String} {al : Nat → Bool} {ad : Nat → Nat} {FR LO : Nat} {pc : Nat} {ls : List (Option Value)} {st : List Value} {h : PH}
theorem q_getf {a ci k idx : Nat} {v : Value} (E : q_Ev C cc nL own al ad FR LO) (ha : al a = true) (hty : ty a = .inr ci) (hf : q_FL own idx ci k) (hd : decode cc pc = .ok (.getfield idx, 3)) (hv : q_fv (q_ft ci k) ad h a k = q_cv ad v)
    (kk : gg C ty nL kc ks al ad (pc + 3) ls (v :: st) h) : gg C ty nL kc ks al ad pc ls (.ref a :: st) h := by
  obtain ⟨⟨p, l, e, R, s⟩, ⟨m, args, below, meth, c⟩, ⟨D, ca, A, Q⟩⟩ := C
  intro H locs lsA hZ hR hS hl
  obtain ⟨Cn, T, N, ok, hk, hC, hlk⟩ := hf
  obtain ⟨o1, o2, o3, o4, o5⟩ := ok
  have hP : va_P D vwCl [(ad a, .inr (ci, q_fs ci ad h a))] H := by
    have h0 := hR a ha
    rw [hty] at h0
    intro i q hq
    have hz : i < 1 := (List.getElem?_eq_some_iff.mp hq).1
    rw [show i = 0 by omega] at hq
    cases hq
    exact h0
  have hv2 : (q_fs ci ad h a)[k]? = some (q_cv ad v) := by
    rw [← hv]
    simp [q_fs, o5, hk]
  have hts : ∀ w ∈ u_ws Cn T N, w.before args s = true := fun w hw => E.2.2.2.2.1.1 w (o2 w hw) (by
    obtain ⟨j, -, rfl⟩ := List.mem_map.mp hw
    unfold u_lay
    split <;> rfl) _
  rcases hlk with hlk | ⟨host, hlk⟩
  · exact va_get E.1 E.2.1 (Ts := u_ws Cn T N) hts (fun _ h => h) E.2.2.2.1 E.2.2.2.2.1.2 hP 0 rfl o1 k hk (E.2.2.2.2.1.1 _ hlk rfl _) (fun x hx => by rw [hC] at hx; exact hx) hv2 hd (kk H locs lsA hZ hR hS hl)
  · exact va_getN E.1 E.2.1 (Ts := u_ws Cn T N) hts (fun _ h => h) E.2.2.2.1 E.2.2.2.2.1.2 hP 0 rfl o1 k hk (E.2.2.2.2.1.1 _ hlk rfl _) (fun x hx => by rw [hC] at hx; exact hx) hv2 hd (kk H locs lsA hZ hR hS hl)
theorem g_getI0 {a ci k idx : Nat} (E : q_Ev C cc nL own al ad FR LO) (ha : al a = true) (hty : ty a = .inr ci) (hf : q_FL own idx ci k) (ht : q_ft ci k = .int) (hd : decode cc pc = .ok (.getfield idx, 3))
    (kk : gg C ty nL kc ks al ad (pc + 3) ls (.int (h.1 a k) :: st) h) : gg C ty nL kc ks al ad pc ls (.ref a :: st) h := q_getf E ha hty hf hd (by rw [ht]; rfl) kk
theorem g_getL0 {a ci k idx : Nat} (E : q_Ev C cc nL own al ad FR LO) (ha : al a = true) (hty : ty a = .inr ci) (hf : q_FL own idx ci k) (ht : q_ft ci k = .long) (hd : decode cc pc = .ok (.getfield idx, 3))
    (kk : gg C ty nL kc ks al ad (pc + 3) ls (.long (h.2.1 a k) :: st) h) : gg C ty nL kc ks al ad pc ls (.ref a :: st) h := q_getf E ha hty hf hd (by rw [ht]; rfl) kk
def q_isr (t : FieldType) : Bool := match t with
  | .object _ => true
  | .array _ => true
  | _ => false
theorem q_fv_r {t : FieldType} (ht : q_isr t = true) (ad : Nat → Nat) (h : PH) (a k : Nat) : q_fv t ad h a k = va_rf ((h.2.2 a k).map ad) := by
  cases t <;> first | rfl | cases ht
theorem g_getR0 {a ci k idx b : Nat} (E : q_Ev C cc nL own al ad FR LO) (ha : al a = true) (hty : ty a = .inr ci) (hf : q_FL own idx ci k) (ht : q_isr (q_ft ci k) = true) (hb : h.2.2 a k = some b) (hd : decode cc pc = .ok (.getfield idx, 3))
    (kk : gg C ty nL kc ks al ad (pc + 3) ls (.ref b :: st) h) : gg C ty nL kc ks al ad pc ls (.ref a :: st) h := q_getf E ha hty hf hd (by rw [q_fv_r ht, hb]; rfl) kk
theorem g_getN0 {a ci k idx : Nat} (E : q_Ev C cc nL own al ad FR LO) (ha : al a = true) (hty : ty a = .inr ci) (hf : q_FL own idx ci k) (ht : q_isr (q_ft ci k) = true) (hb : h.2.2 a k = none) (hd : decode cc pc = .ok (.getfield idx, 3))
    (kk : gg C ty nL kc ks al ad (pc + 3) ls (.null :: st) h) : gg C ty nL kc ks al ad pc ls (.ref a :: st) h := q_getf E ha hty hf hd (by rw [q_fv_r ht, hb]; rfl) kk
theorem q_putf {a ci k idx : Nat} {v : Value} {h' : PH} (E : q_Ev C cc nL own al ad FR LO) (ha : al a = true) (hty : ty a = .inr ci) (hf : q_FW own idx ci k) (hd : decode cc pc = .ok (.putfield idx, 3))
    (hn : narrow (q_ft ci k) (q_cv ad v) = q_cv ad v) (hfit : fits (q_ft ci k) (q_cv ad v) = true)
    (hs : ∀ b, b ≠ a → h'.1 b = h.1 b ∧ h'.2.1 b = h.2.1 b ∧ h'.2.2 b = h.2.2 b) (hv : q_fv (q_ft ci k) ad h' a k = q_cv ad v) (hj : ∀ j, j ≠ k → q_fv (q_ft ci j) ad h' a j = q_fv (q_ft ci j) ad h a j)
    (kk : gg C ty nL kc ks al ad (pc + 3) ls st h') : gg C ty nL kc ks al ad pc ls (v :: .ref a :: st) h := by
  obtain ⟨⟨p, l, e, R, s⟩, ⟨m, args, below, meth, c⟩, ⟨D, ca, A, Q⟩⟩ := C
  intro H locs lsA hZ hR hS hl
  obtain ⟨Cn, T, N, ok, hk, hC, hfin, hlk⟩ := hf
  obtain ⟨o1, o2, o3, o4, o5⟩ := ok
  have hts : ∀ w ∈ u_ws Cn T N, w.before args s = true := fun w hw => E.2.2.2.2.1.1 w (o2 w hw) (by
    obtain ⟨j, -, rfl⟩ := List.mem_map.mp hw
    unfold u_lay
    split <;> rfl) _
  have hap := va_apart (own := own) (args := args) hts (fun _ h => h) (q_ft ci) o3 o4 E.2.2.2.2.1.2 o1
  have h0 := hR a ha
  rw [hty] at h0
  obtain ⟨r, h1, cell, q1, q2, q3, q4⟩ := h0
  have hr : r = (Cn, T, N) := Option.some.inj (h1.symm.trans o1)
  subst hr
  obtain ⟨hSl, hfc, kC, hkC, hkind⟩ := E.2.2.2.2.1.2.1 ci _ o1
  obtain ⟨cf, kf, fi, f, hi, hsl⟩ := hSl k hk
  have hlay := hts _ (u_in_lay hk)
  unfold u_lay at hlay
  rw [if_neg (by rw [hfin]; decide)] at hlay
  have hst := (u_facts hfc hkC (u_lays hts (fun _ h => h) hk) hi).1
  have h6 := u_store hfc hkC hkind hlay hi (o3 k hk) hn hfit
  have fin : ∀ (H' : Heap), H'[ad a]? = some (cell.setSlot f.slot (q_cv ad v)) → H'.size = H.size → (∀ q, q ≠ ad a → H'[q]? = H[q]?) → W p l e R s m args below meth c H' (locs ++ [⟨ad a, f.slot⟩]) kc ks Q (F0 m (pc + 3) lsA (st.map (q_cv ad))) := by
    intro H' e1 e2 e3
    rw [hsl] at e1
    refine kk H' _ lsA hZ (hR.set E.2.2.2.2.2.1 ha ?_ e3 hs) (hS.put e2 e3 (E.2.2.2.2.2.2.1 a ha)) hl
    rw [hty]
    refine ⟨_, o1, t_OB.to (V := updV (vp_V (q_fs ci ad h a)) k (q_cv ad v)) ⟨_, e1, q2, q3, t_set q4 hap hk _⟩ (fun j hjN => ?_)⟩
    have hjN' : j < q_N ci := by rw [o5]; exact hjN
    rw [q_V hjN']
    by_cases ej : j = k
    · subst ej
      simp only [updV, if_true]
      exact hv.symm
    · simp only [updV, if_neg ej]
      rw [q_V hjN', hj j ej]
  rcases hlk with hlk | ⟨host, hlk⟩
  · exact W.putK E.1 E.2.1 (f := f) ⟨E.2.2.2.1, E.2.2.2.2.1.1 _ hlk rfl _, ⟨_, _, _, by rw [hC] at hi; exact hi⟩, hst⟩ (by rw [q2]; exact h6) q1 q3 (by rw [hsl]; exact k2_hasslot (q4 k hk)) rfl rfl hd fin
  · exact va_WputK E.1 E.2.1 (f := f) E.2.2.2.1 (E.2.2.2.2.1.1 _ hlk rfl _) (by rw [hC] at hi; exact hi) hst (by rw [q2]; exact h6) q1 q3 (by rw [hsl]; exact k2_hasslot (q4 k hk)) rfl rfl hd fin
theorem q_upz {α : Type} {f : Nat → Nat → α} {a k j : Nat} {v : α} (h : j ≠ k) : q_up f a k v a j = f a j := by rw [q_up_eq]; exact if_neg h
theorem q_ups {α : Type} {f : Nat → Nat → α} {a k : Nat} {v : α} : q_up f a k v a k = v := by rw [q_up_eq]; exact if_pos rfl
theorem g_putI0 {a ci k idx : Nat} {x : Int32} (E : q_Ev C cc nL own al ad FR LO) (ha : al a = true) (hty : ty a = .inr ci) (hf : q_FW own idx ci k) (ht : q_ft ci k = .int) (hd : decode cc pc = .ok (.putfield idx, 3))
    (kk : gg C ty nL kc ks al ad (pc + 3) ls st (q_up h.1 a k x, h.2.1, h.2.2)) : gg C ty nL kc ks al ad pc ls (.int x :: .ref a :: st) h :=
  q_putf (h' := (q_up h.1 a k x, h.2.1, h.2.2)) E ha hty hf hd (by rw [ht]; rfl) (by rw [ht]; rfl) (fun b hb => ⟨q_up_ne hb, rfl, rfl⟩) (by rw [ht]; show Value.int (q_up h.1 a k x a k) = _; rw [q_ups]; rfl) (fun j hj => by unfold q_fv; simp only [q_upz hj]) kk
theorem g_putL0 {a ci k idx : Nat} {x : Int64} (E : q_Ev C cc nL own al ad FR LO) (ha : al a = true) (hty : ty a = .inr ci) (hf : q_FW own idx ci k) (ht : q_ft ci k = .long) (hd : decode cc pc = .ok (.putfield idx, 3))
    (kk : gg C ty nL kc ks al ad (pc + 3) ls st (h.1, q_up h.2.1 a k x, h.2.2)) : gg C ty nL kc ks al ad pc ls (.long x :: .ref a :: st) h :=
  q_putf (h' := (h.1, q_up h.2.1 a k x, h.2.2)) E ha hty hf hd (by rw [ht]; rfl) (by rw [ht]; rfl) (fun b hb => ⟨rfl, q_up_ne hb, rfl⟩) (by rw [ht]; show Value.long (q_up h.2.1 a k x a k) = _; rw [q_ups]; rfl) (fun j hj => by unfold q_fv; simp only [q_upz hj]) kk
/-! arrays -/
theorem q_arr {D : va_G} {ca : FieldType → ClassId} {a n : Nat} {t : FieldType} {H : Heap} (hR : q_R D ca ty al ad h H) (ha : al a = true) (hty : ty a = .inl (t, n)) : H[ad a]? = some (vp_cell (ca t) (n, q_ar t ad h a)) := by
  have h0 := hR a ha
  rw [hty] at h0
  exact h0
theorem q_one {D : va_G} {H : Heap} {x : Nat × va_E} (h0 : va_at D vwCl x H) : va_P D vwCl [x] H := by
  intro i q hq
  have hz : i < 1 := (List.getElem?_eq_some_iff.mp hq).1
  rw [show i = 0 by omega] at hq
  cases hq
  exact h0
theorem g_iald0 {a n j : Nat} {i : Int32} (E : q_Ev C cc nL own al ad FR LO) (ha : al a = true) (hty : ty a = .inl (.int, n)) (hd : decode cc pc = .ok (.iaload, 1)) (hi : q_ix i n j)
    (kk : gg C ty nL kc ks al ad (pc + 1) ls (.int (h.1 a j) :: st) h) : gg C ty nL kc ks al ad pc ls (.int i :: .ref a :: st) h := by
  obtain ⟨⟨p, l, e, R, s⟩, ⟨m, args, below, meth, c⟩, ⟨D, ca, A, Q⟩⟩ := C
  obtain ⟨hi, rfl⟩ := hi
  exact fun H locs lsA hZ hR hS hl => va_iald E.1 E.2.1 E.2.2.2.2.1.2 (q_one (x := (ad a, .inl (ca .int, n, .inl (h.1 a)))) (q_arr hR ha hty)) 0 0 rfl rfl hi hd (kk H locs lsA hZ hR hS hl)
theorem g_zald0 {a n j : Nat} {i : Int32} (E : q_Ev C cc nL own al ad FR LO) (ha : al a = true) (hty : ty a = .inl (.boolean, n)) (hd : decode cc pc = .ok (.baload, 1)) (hi : q_ix i n j)
    (kk : gg C ty nL kc ks al ad (pc + 1) ls (.int (h.1 a j) :: st) h) : gg C ty nL kc ks al ad pc ls (.int i :: .ref a :: st) h := by
  obtain ⟨⟨p, l, e, R, s⟩, ⟨m, args, below, meth, c⟩, ⟨D, ca, A, Q⟩⟩ := C
  obtain ⟨hi, rfl⟩ := hi
  exact fun H locs lsA hZ hR hS hl => va_zald E.1 E.2.1 E.2.2.2.2.1.2 (q_one (x := (ad a, .inl (ca .boolean, n, .inl (h.1 a)))) (q_arr hR ha hty)) 0 2 rfl rfl hi hd (kk H locs lsA hZ hR hS hl)
theorem g_bald0 {a n j : Nat} {i : Int32} (E : q_Ev C cc nL own al ad FR LO) (ha : al a = true) (hty : ty a = .inl (.byte, n)) (hd : decode cc pc = .ok (.baload, 1)) (hi : q_ix i n j)
    (kk : gg C ty nL kc ks al ad (pc + 1) ls (.int (h.1 a j) :: st) h) : gg C ty nL kc ks al ad pc ls (.int i :: .ref a :: st) h := by
  obtain ⟨⟨p, l, e, R, s⟩, ⟨m, args, below, meth, c⟩, ⟨D, ca, A, Q⟩⟩ := C
  obtain ⟨hi, rfl⟩ := hi
  exact fun H locs lsA hZ hR hS hl => va_bald E.1 E.2.1 E.2.2.2.2.1.2 (q_one (x := (ad a, .inl (ca .byte, n, .inl (h.1 a)))) (q_arr hR ha hty)) 0 3 rfl rfl hi hd (kk H locs lsA hZ hR hS hl)
theorem g_lald0 {a n j : Nat} {i : Int32} (E : q_Ev C cc nL own al ad FR LO) (ha : al a = true) (hty : ty a = .inl (.long, n)) (hd : decode cc pc = .ok (.laload, 1)) (hi : q_ix i n j)
    (kk : gg C ty nL kc ks al ad (pc + 1) ls (.long (h.2.1 a j) :: st) h) : gg C ty nL kc ks al ad pc ls (.int i :: .ref a :: st) h := by
  obtain ⟨⟨p, l, e, R, s⟩, ⟨m, args, below, meth, c⟩, ⟨D, ca, A, Q⟩⟩ := C
  obtain ⟨hi, rfl⟩ := hi
  exact fun H locs lsA hZ hR hS hl => va_lald E.1 E.2.1 E.2.2.2.2.1.2 (q_one (x := (ad a, .inl (ca .long, n, .inr (.inl (h.2.1 a))))) (q_arr hR ha hty)) 0 1 rfl rfl hi hd (kk H locs lsA hZ hR hS hl)
theorem g_aald0 {a n j b : Nat} {i : Int32} (E : q_Ev C cc nL own al ad FR LO) (ha : al a = true) (hty : ty a = .inl (.object RX0, n)) (hd : decode cc pc = .ok (.aaload, 1)) (hi : q_ix i n j) (hb : h.2.2 a j = some b)
    (kk : gg C ty nL kc ks al ad (pc + 1) ls (.ref b :: st) h) : gg C ty nL kc ks al ad pc ls (.int i :: .ref a :: st) h := by
  obtain ⟨⟨p, l, e, R, s⟩, ⟨m, args, below, meth, c⟩, ⟨D, ca, A, Q⟩⟩ := C
  obtain ⟨hi, rfl⟩ := hi
  refine fun H locs lsA hZ hR hS hl => va_aldq (C := RX0) E.1 E.2.1 E.2.2.2.2.1.2 (q_one (x := (ad a, .inl (ca (.object RX0), n, .inr (.inr (.inr (.inr (fun i => (h.2.2 a i).map ad))))))) (q_arr hR ha hty)) 0 4 rfl rfl hi hd ?_
  rw [hb]
  exact kk H locs lsA hZ hR hS hl
theorem g_aaldJ0 {a n j b : Nat} {i : Int32} (E : q_Ev C cc nL own al ad FR LO) (ha : al a = true) (hty : ty a = .inl (.array .long, n)) (hd : decode cc pc = .ok (.aaload, 1)) (hi : q_ix i n j) (hb : h.2.2 a j = some b)
    (kk : gg C ty nL kc ks al ad (pc + 1) ls (.ref b :: st) h) : gg C ty nL kc ks al ad pc ls (.int i :: .ref a :: st) h := by
  obtain ⟨⟨p, l, e, R, s⟩, ⟨m, args, below, meth, c⟩, ⟨D, ca, A, Q⟩⟩ := C
  obtain ⟨hi, rfl⟩ := hi
  intro H locs lsA hZ hR hS hl
  have hlt : i.toNatClampNeg < n := Nat.not_le.mp fun q => hi (Or.inr q)
  have hc : H[ad a]? = some (vp_cell (ca (.array .long)) (n, .inr (.inr (.inr (.inr (fun i => (h.2.2 a i).map ad)))))) := q_arr hR ha hty
  refine W.aald (v := va_rf ((h.2.2 a i.toNatClampNeg).map ad)) (ty := .array .long) E.1 E.2.1 hc ((E.2.2.2.2.1.2.2 5 _ rfl).1 n (fun j => va_rf ((h.2.2 a j).map ad))) rfl (fun q => by cases q) (by show ¬ (i < 0 ∨ (arrV _ _ _).slots.size ≤ _); rw [arrV_size]; exact hi) (by show (arrV _ _ _).slots[_]? = _; rw [arrV_read _ _ hlt]) rfl rfl hd ?_
  rw [hb]
  exact kk H locs lsA hZ hR hS hl
theorem g_alen0 {a n : Nat} {t : FieldType} (E : q_Ev C cc nL own al ad FR LO) (ha : al a = true) (hty : ty a = .inl (t, n)) (ht : t = .int ∨ t = .long) (hd : decode cc pc = .ok (.arraylength, 1))
    (kk : gg C ty nL kc ks al ad (pc + 1) ls (.int (nI n) :: st) h) : gg C ty nL kc ks al ad pc ls (.ref a :: st) h := by
  obtain ⟨⟨p, l, e, R, s⟩, ⟨m, args, below, meth, c⟩, ⟨D, ca, A, Q⟩⟩ := C
  rcases ht with rfl | rfl
  · exact fun H locs lsA hZ hR hS hl => va_alen E.1 E.2.1 E.2.2.2.2.1.2 (q_one (x := (ad a, .inl (ca .int, n, .inl (h.1 a)))) (q_arr hR ha hty)) 0 0 rfl rfl rfl hd (kk H locs lsA hZ hR hS hl)
  · exact fun H locs lsA hZ hR hS hl => va_alen E.1 E.2.1 E.2.2.2.2.1.2 (q_one (x := (ad a, .inl (ca .long, n, .inr (.inl (h.2.1 a))))) (q_arr hR ha hty)) 0 1 rfl rfl rfl hd (kk H locs lsA hZ hR hS hl)
theorem g_iast0 {a n j : Nat} {i x : Int32} (E : q_Ev C cc nL own al ad FR LO) (ha : al a = true) (hty : ty a = .inl (.int, n)) (hd : decode cc pc = .ok (.iastore, 1)) (hi : q_ix i n j)
    (kk : gg C ty nL kc ks al ad (pc + 1) ls st (q_up h.1 a j x, h.2.1, h.2.2)) : gg C ty nL kc ks al ad pc ls (.int x :: .int i :: .ref a :: st) h := by
  obtain ⟨⟨p, l, e, R, s⟩, ⟨m, args, below, meth, c⟩, ⟨D, ca, A, Q⟩⟩ := C
  obtain ⟨hi, rfl⟩ := hi
  intro H locs lsA hZ hR hS hl
  refine W.iast E.1 E.2.1 (q_arr hR ha hty) ((E.2.2.2.2.1.2.2 0 _ rfl).1 n (fun j => .int (h.1 a j))) (fun q => by cases q) (by show ¬ (i < 0 ∨ (arrV _ _ _).slots.size ≤ _); rw [arrV_size]; exact hi) rfl rfl hd fun H1 e1 z oq => ?_
  refine kk H1 _ lsA hZ (hR.set E.2.2.2.2.2.1 ha ?_ oq (fun b hb => ⟨q_up_ne hb, rfl, rfl⟩)) (hS.put z oq (E.2.2.2.2.2.2.1 a ha)) hl
  rw [hty]
  show H1[ad a]? = some (vp_cell _ (n, .inl (q_up h.1 a i.toNatClampNeg x a)))
  rw [e1]
  show some ((vp_cell (ca .int) (n, .inl (h.1 a))).setSlot _ _) = _
  rw [vp_cell_i, vp_cell_i, arrV_store]
  congr 2
  funext q
  by_cases hq : q = i.toNatClampNeg
  · subst hq
    simp [updV, q_ups]
  · simp [updV, q_upz hq, hq]
theorem g_zast0 {a n j : Nat} {i x : Int32} (E : q_Ev C cc nL own al ad FR LO) (ha : al a = true) (hty : ty a = .inl (.boolean, n)) (hd : decode cc pc = .ok (.bastore, 1)) (hi : q_ix i n j) (hx : narrow .boolean (.int x) = .int x)
    (kk : gg C ty nL kc ks al ad (pc + 1) ls st (q_up h.1 a j x, h.2.1, h.2.2)) : gg C ty nL kc ks al ad pc ls (.int x :: .int i :: .ref a :: st) h := by
  obtain ⟨⟨p, l, e, R, s⟩, ⟨m, args, below, meth, c⟩, ⟨D, ca, A, Q⟩⟩ := C
  obtain ⟨hi, rfl⟩ := hi
  intro H locs lsA hZ hR hS hl
  refine W.zast E.1 E.2.1 (q_arr hR ha hty) ((E.2.2.2.2.1.2.2 2 _ rfl).1 n (fun j => .int (h.1 a j))) (fun q => by cases q) (by show ¬ (i < 0 ∨ (arrV _ _ _).slots.size ≤ _); rw [arrV_size]; exact hi) rfl rfl hd fun H1 e1 z oq => ?_
  refine kk H1 _ lsA hZ (hR.set E.2.2.2.2.2.1 ha ?_ oq (fun b hb => ⟨q_up_ne hb, rfl, rfl⟩)) (hS.put z oq (E.2.2.2.2.2.2.1 a ha)) hl
  rw [hty]
  show H1[ad a]? = some (vp_cell _ (n, .inl (q_up h.1 a i.toNatClampNeg x a)))
  rw [e1, hx]
  show some ((vp_cell (ca .boolean) (n, .inl (h.1 a))).setSlot _ _) = _
  rw [vp_cell_i, vp_cell_i, arrV_store]
  congr 2
  funext q
  by_cases hq : q = i.toNatClampNeg
  · subst hq
    simp [updV, q_ups]
  · simp [updV, q_upz hq, hq]
theorem g_bast0 {a n j : Nat} {i x : Int32} (E : q_Ev C cc nL own al ad FR LO) (ha : al a = true) (hty : ty a = .inl (.byte, n)) (hd : decode cc pc = .ok (.bastore, 1)) (hi : q_ix i n j) (hx : narrow .byte (.int x) = .int x)
    (kk : gg C ty nL kc ks al ad (pc + 1) ls st (q_up h.1 a j x, h.2.1, h.2.2)) : gg C ty nL kc ks al ad pc ls (.int x :: .int i :: .ref a :: st) h := by
  obtain ⟨⟨p, l, e, R, s⟩, ⟨m, args, below, meth, c⟩, ⟨D, ca, A, Q⟩⟩ := C
  obtain ⟨hi, rfl⟩ := hi
  intro H locs lsA hZ hR hS hl
  refine W.bast E.1 E.2.1 (q_arr hR ha hty) ((E.2.2.2.2.1.2.2 3 _ rfl).1 n (fun j => .int (h.1 a j))) (fun q => by cases q) (by show ¬ (i < 0 ∨ (arrV _ _ _).slots.size ≤ _); rw [arrV_size]; exact hi) rfl rfl hd fun H1 e1 z oq => ?_
  refine kk H1 _ lsA hZ (hR.set E.2.2.2.2.2.1 ha ?_ oq (fun b hb => ⟨q_up_ne hb, rfl, rfl⟩)) (hS.put z oq (E.2.2.2.2.2.2.1 a ha)) hl
  rw [hty]
  show H1[ad a]? = some (vp_cell _ (n, .inl (q_up h.1 a i.toNatClampNeg x a)))
  rw [e1, hx]
  show some ((vp_cell (ca .byte) (n, .inl (h.1 a))).setSlot _ _) = _
  rw [vp_cell_i, vp_cell_i, arrV_store]
  congr 2
  funext q
  by_cases hq : q = i.toNatClampNeg
  · subst hq
    simp [updV, q_ups]
  · simp [updV, q_upz hq, hq]
theorem g_last0 {a n j : Nat} {i : Int32} {x : Int64} (E : q_Ev C cc nL own al ad FR LO) (ha : al a = true) (hty : ty a = .inl (.long, n)) (hd : decode cc pc = .ok (.lastore, 1)) (hi : q_ix i n j)
    (kk : gg C ty nL kc ks al ad (pc + 1) ls st (h.1, q_up h.2.1 a j x, h.2.2)) : gg C ty nL kc ks al ad pc ls (.long x :: .int i :: .ref a :: st) h := by
  obtain ⟨⟨p, l, e, R, s⟩, ⟨m, args, below, meth, c⟩, ⟨D, ca, A, Q⟩⟩ := C
  obtain ⟨hi, rfl⟩ := hi
  intro H locs lsA hZ hR hS hl
  refine W.last E.1 E.2.1 (q_arr hR ha hty) ((E.2.2.2.2.1.2.2 1 _ rfl).1 n (fun j => .long (h.2.1 a j))) (fun q => by cases q) (by show ¬ (i < 0 ∨ (arrV _ _ _).slots.size ≤ _); rw [arrV_size]; exact hi) rfl rfl hd fun H1 e1 z oq => ?_
  refine kk H1 _ lsA hZ (hR.set E.2.2.2.2.2.1 ha ?_ oq (fun b hb => ⟨rfl, q_up_ne hb, rfl⟩)) (hS.put z oq (E.2.2.2.2.2.2.1 a ha)) hl
  rw [hty]
  show H1[ad a]? = some (vp_cell _ (n, .inr (.inl (q_up h.2.1 a i.toNatClampNeg x a))))
  rw [e1]
  show some ((vp_cell (ca .long) (n, .inr (.inl (h.2.1 a)))).setSlot _ _) = _
  rw [vp_cell_l, vp_cell_l, arrV_store]
  congr 2
  funext q
  by_cases hq : q = i.toNatClampNeg
  · subst hq
    simp [updV, q_ups]
  · simp [updV, q_upz hq, hq]
variable {f : Nat → Nat → Int32} {g : Nat → Nat → Int64} {r : Nat → Nat → Option Nat}
theorem g_getI {a ci k idx : Nat} (E : q_Ev C cc nL own al ad FR LO) (ha : al a = true) (hty : ty a = .inr ci) (hf : q_FL own idx ci k) (ht : q_ft ci k = .int) (hd : decode cc pc = .ok (.getfield idx, 3))
    (kk : gg C ty nL kc ks al ad (pc + 3) ls (.int (f a k) :: st) (f, g, r)) : gg C ty nL kc ks al ad pc ls (.ref a :: st) (f, g, r) := g_getI0 (h := (f, g, r)) E ha hty hf ht hd kk
theorem g_getL {a ci k idx : Nat} (E : q_Ev C cc nL own al ad FR LO) (ha : al a = true) (hty : ty a = .inr ci) (hf : q_FL own idx ci k) (ht : q_ft ci k = .long) (hd : decode cc pc = .ok (.getfield idx, 3))
    (kk : gg C ty nL kc ks al ad (pc + 3) ls (.long (g a k) :: st) (f, g, r)) : gg C ty nL kc ks al ad pc ls (.ref a :: st) (f, g, r) := g_getL0 (h := (f, g, r)) E ha hty hf ht hd kk
theorem g_getR {a ci k idx b : Nat} (E : q_Ev C cc nL own al ad FR LO) (ha : al a = true) (hty : ty a = .inr ci) (hf : q_FL own idx ci k) (ht : q_isr (q_ft ci k) = true) (hb : r a k = some b) (hd : decode cc pc = .ok (.getfield idx, 3))
    (kk : gg C ty nL kc ks al ad (pc + 3) ls (.ref b :: st) (f, g, r)) : gg C ty nL kc ks al ad pc ls (.ref a :: st) (f, g, r) := g_getR0 (h := (f, g, r)) E ha hty hf ht hb hd kk
theorem g_getN {a ci k idx : Nat} (E : q_Ev C cc nL own al ad FR LO) (ha : al a = true) (hty : ty a = .inr ci) (hf : q_FL own idx ci k) (ht : q_isr (q_ft ci k) = true) (hb : r a k = none) (hd : decode cc pc = .ok (.getfield idx, 3))
    (kk : gg C ty nL kc ks al ad (pc + 3) ls (.null :: st) (f, g, r)) : gg C ty nL kc ks al ad pc ls (.ref a :: st) (f, g, r) := g_getN0 (h := (f, g, r)) E ha hty hf ht hb hd kk
theorem g_putI {a ci k idx : Nat} {x : Int32} (E : q_Ev C cc nL own al ad FR LO) (ha : al a = true) (hty : ty a = .inr ci) (hf : q_FW own idx ci k) (ht : q_ft ci k = .int) (hd : decode cc pc = .ok (.putfield idx, 3))
    (kk : gg C ty nL kc ks al ad (pc + 3) ls st (q_up f a k x, g, r)) : gg C ty nL kc ks al ad pc ls (.int x :: .ref a :: st) (f, g, r) := g_putI0 (h := (f, g, r)) E ha hty hf ht hd kk
theorem g_putL {a ci k idx : Nat} {x : Int64} (E : q_Ev C cc nL own al ad FR LO) (ha : al a = true) (hty : ty a = .inr ci) (hf : q_FW own idx ci k) (ht : q_ft ci k = .long) (hd : decode cc pc = .ok (.putfield idx, 3))
    (kk : gg C ty nL kc ks al ad (pc + 3) ls st (f, q_up g a k x, r)) : gg C ty nL kc ks al ad pc ls (.long x :: .ref a :: st) (f, g, r) := g_putL0 (h := (f, g, r)) E ha hty hf ht hd kk
theorem g_iald {a n j : Nat} {i : Int32} (E : q_Ev C cc nL own al ad FR LO) (ha : al a = true) (hty : ty a = .inl (.int, n)) (hd : decode cc pc = .ok (.iaload, 1)) (hi : q_ix i n j)
    (kk : gg C ty nL kc ks al ad (pc + 1) ls (.int (f a j) :: st) (f, g, r)) : gg C ty nL kc ks al ad pc ls (.int i :: .ref a :: st) (f, g, r) := g_iald0 (h := (f, g, r)) E ha hty hd hi kk
theorem g_zald {a n j : Nat} {i : Int32} (E : q_Ev C cc nL own al ad FR LO) (ha : al a = true) (hty : ty a = .inl (.boolean, n)) (hd : decode cc pc = .ok (.baload, 1)) (hi : q_ix i n j)
    (kk : gg C ty nL kc ks al ad (pc + 1) ls (.int (f a j) :: st) (f, g, r)) : gg C ty nL kc ks al ad pc ls (.int i :: .ref a :: st) (f, g, r) := g_zald0 (h := (f, g, r)) E ha hty hd hi kk
theorem g_bald {a n j : Nat} {i : Int32} (E : q_Ev C cc nL own al ad FR LO) (ha : al a = true) (hty : ty a = .inl (.byte, n)) (hd : decode cc pc = .ok (.baload, 1)) (hi : q_ix i n j)
    (kk : gg C ty nL kc ks al ad (pc + 1) ls (.int (f a j) :: st) (f, g, r)) : gg C ty nL kc ks al ad pc ls (.int i :: .ref a :: st) (f, g, r) := g_bald0 (h := (f, g, r)) E ha hty hd hi kk
theorem g_lald {a n j : Nat} {i : Int32} (E : q_Ev C cc nL own al ad FR LO) (ha : al a = true) (hty : ty a = .inl (.long, n)) (hd : decode cc pc = .ok (.laload, 1)) (hi : q_ix i n j)
    (kk : gg C ty nL kc ks al ad (pc + 1) ls (.long (g a j) :: st) (f, g, r)) : gg C ty nL kc ks al ad pc ls (.int i :: .ref a :: st) (f, g, r) := g_lald0 (h := (f, g, r)) E ha hty hd hi kk
theorem g_aald {a n j b : Nat} {i : Int32} (E : q_Ev C cc nL own al ad FR LO) (ha : al a = true) (hty : ty a = .inl (.object RX0, n)) (hd : decode cc pc = .ok (.aaload, 1)) (hi : q_ix i n j) (hb : r a j = some b)
    (kk : gg C ty nL kc ks al ad (pc + 1) ls (.ref b :: st) (f, g, r)) : gg C ty nL kc ks al ad pc ls (.int i :: .ref a :: st) (f, g, r) := g_aald0 (h := (f, g, r)) E ha hty hd hi hb kk
theorem g_aaldJ {a n j b : Nat} {i : Int32} (E : q_Ev C cc nL own al ad FR LO) (ha : al a = true) (hty : ty a = .inl (.array .long, n)) (hd : decode cc pc = .ok (.aaload, 1)) (hi : q_ix i n j) (hb : r a j = some b)
    (kk : gg C ty nL kc ks al ad (pc + 1) ls (.ref b :: st) (f, g, r)) : gg C ty nL kc ks al ad pc ls (.int i :: .ref a :: st) (f, g, r) := g_aaldJ0 (h := (f, g, r)) E ha hty hd hi hb kk
theorem g_alen {a n : Nat} {t : FieldType} (E : q_Ev C cc nL own al ad FR LO) (ha : al a = true) (hty : ty a = .inl (t, n)) (ht : t = .int ∨ t = .long) (hd : decode cc pc = .ok (.arraylength, 1))
    (kk : gg C ty nL kc ks al ad (pc + 1) ls (.int (nI n) :: st) (f, g, r)) : gg C ty nL kc ks al ad pc ls (.ref a :: st) (f, g, r) := g_alen0 (h := (f, g, r)) E ha hty ht hd kk
theorem g_iast {a n j : Nat} {i x : Int32} (E : q_Ev C cc nL own al ad FR LO) (ha : al a = true) (hty : ty a = .inl (.int, n)) (hd : decode cc pc = .ok (.iastore, 1)) (hi : q_ix i n j)
    (kk : gg C ty nL kc ks al ad (pc + 1) ls st (q_up f a j x, g, r)) : gg C ty nL kc ks al ad pc ls (.int x :: .int i :: .ref a :: st) (f, g, r) := g_iast0 (h := (f, g, r)) E ha hty hd hi kk
theorem g_zast {a n j : Nat} {i x : Int32} (E : q_Ev C cc nL own al ad FR LO) (ha : al a = true) (hty : ty a = .inl (.boolean, n)) (hd : decode cc pc = .ok (.bastore, 1)) (hi : q_ix i n j) (hx : narrow .boolean (.int x) = .int x)
    (kk : gg C ty nL kc ks al ad (pc + 1) ls st (q_up f a j x, g, r)) : gg C ty nL kc ks al ad pc ls (.int x :: .int i :: .ref a :: st) (f, g, r) := g_zast0 (h := (f, g, r)) E ha hty hd hi hx kk
theorem g_bast {a n j : Nat} {i x : Int32} (E : q_Ev C cc nL own al ad FR LO) (ha : al a = true) (hty : ty a = .inl (.byte, n)) (hd : decode cc pc = .ok (.bastore, 1)) (hi : q_ix i n j) (hx : narrow .byte (.int x) = .int x)
    (kk : gg C ty nL kc ks al ad (pc + 1) ls st (q_up f a j x, g, r)) : gg C ty nL kc ks al ad pc ls (.int x :: .int i :: .ref a :: st) (f, g, r) := g_bast0 (h := (f, g, r)) E ha hty hd hi hx kk
theorem g_last {a n j : Nat} {i : Int32} {x : Int64} (E : q_Ev C cc nL own al ad FR LO) (ha : al a = true) (hty : ty a = .inl (.long, n)) (hd : decode cc pc = .ok (.lastore, 1)) (hi : q_ix i n j)
    (kk : gg C ty nL kc ks al ad (pc + 1) ls st (f, q_up g a j x, r)) : gg C ty nL kc ks al ad pc ls (.long x :: .int i :: .ref a :: st) (f, g, r) := g_last0 (h := (f, g, r)) E ha hty hd hi kk
end GH
theorem q_up_same {α : Type} {f : Nat → Nat → α} {a k : Nat} {v : α} (h : f a k = v) : q_up f a k v = f := by
  funext x
  by_cases e : x = a
  · subst e
    rw [q_up_eq]
    funext y
    by_cases e2 : y = k
    · subst e2; rw [← h]; exact if_pos rfl
    · exact if_neg e2
  · exact q_up_ne e
/-- a row's part set anew -/
def q_fill {α : Type} (f : Nat → Nat → α) (a lo n : Nat) (v : Nat → α) : Nat → Nat → α := fun x => if x = a then (fun i => if lo ≤ i ∧ i < lo + n then v (i - lo) else f a i) else f x
theorem q_fill_ne {α : Type} {f : Nat → Nat → α} {a lo n b : Nat} {v : Nat → α} (h : b ≠ a) : q_fill f a lo n v b = f b := if_neg h
theorem q_fill_in {α : Type} {f : Nat → Nat → α} {a lo n i : Nat} {v : Nat → α} (h1 : lo ≤ i) (h2 : i < lo + n) : q_fill f a lo n v a i = v (i - lo) := by
  unfold q_fill; rw [if_pos rfl, if_pos ⟨h1, h2⟩]
theorem q_fill_out {α : Type} {f : Nat → Nat → α} {a lo n i : Nat} {v : Nat → α} (h : i < lo ∨ lo + n ≤ i) : q_fill f a lo n v a i = f a i := by
  unfold q_fill; rw [if_pos rfl, if_neg (by omega)]
theorem q_fill_0 {α : Type} {f : Nat → Nat → α} {a lo : Nat} {v : Nat → α} : q_fill f a lo 0 v = f := by
  funext x
  by_cases e : x = a
  · subst e; funext i; exact q_fill_out (by omega)
  · exact q_fill_ne e
theorem q_fill_s {α : Type} {f : Nat → Nat → α} {a lo n : Nat} {v : Nat → α} {w : α} (hw : w = v n) : q_up (q_fill f a lo n v) a (lo + n) w = q_fill f a lo (n + 1) v := by
  funext x
  by_cases e : x = a
  · subst e
    rw [q_up_eq]
    funext i
    by_cases e2 : i = lo + n
    · subst e2
      rw [q_fill_in (by omega) (by omega)]
      unfold va_up
      rw [if_pos rfl, hw, Nat.add_sub_cancel_left]
    · unfold va_up
      rw [if_neg e2]
      by_cases e3 : lo ≤ i ∧ i < lo + n
      · rw [q_fill_in e3.1 e3.2, q_fill_in e3.1 (by omega)]
      · rw [q_fill_out (by omega), q_fill_out (by omega)]
  · rw [q_up_ne e, q_fill_ne e, q_fill_ne e]
theorem q_nat {x : Int32} {b : Nat} (h0 : 0 ≤ x.toInt) (h1 : x.toInt ≤ (b : Int)) : ∃ j : Nat, j ≤ b ∧ x = nI j := by
  refine ⟨x.toInt.toNat, by omega, ?_⟩
  apply Int32.toInt_inj.mp
  have hb := Int32.toInt_lt x
  rw [nI_toInt (by omega)]
  omega
theorem q_mul (a b : Nat) : nI a * nI b = nI (a * b) := pk_mul a b
end
section
/-! contracts, returns, calls (nothing is made) -/
def q_Q (D : va_G) (ca : FieldType → ClassId) (ty : Nat → PT) (al : Nat → Bool) (ad : Nat → Nat) (post : Option Value → PH → Prop) : Array Value → State → Outcome → State → Prop := fun _ st o t => (∃ (r : Option Value) (h' : PH), o = .returned (r.map (q_cv ad)) ∧ post r h' ∧ q_R D ca ty al ad h' t.heap) ∧ va_F (q_A al ad) st t
def q_P (D : va_G) (ca : FieldType → ClassId) (ty : Nat → PT) (al : Nat → Bool) (ad : Nat → Nat) (as : List Value) (h : PH) : Array Value → State → Prop := va_Pc (as.map (q_cv ad)) (fun U => q_T D ca U ∧ q_R D ca ty al ad h U.heap ∧ q_J al ad)
def q_Con (y : MethodName) (cc : ByteArray) (maxL : Nat) (ret : Option FieldType) (fr lo : Nat) (ty : Nat → PT) (al : Nat → Bool) (as : List Value) (h : PH) (post : Option Value → PH → Prop) : Prop :=
  ∀ (l : Launch) (D : va_G) (ca : FieldType → ClassId) (ad : Nat → Nat), Met l y [.code y cc maxL ret] { frames := fr, cells := 0, slots := 0, locals := lo } (q_P D ca ty al ad as h) (q_Q D ca ty al ad post) 0 0 (q_A al ad)
def q_Er (C : q_Ctx) (ret : Option FieldType) (ty : Nat → PT) (al : Nat → Bool) (ad : Nat → Nat) (post : Option Value → PH → Prop) : Prop := match C with
  | ((p, l, e, R, s), (m, args, below, meth, c), (D, ca, A, Q)) => meth.sig.returnType = ret ∧ meth.locks = false ∧ Q = MQ below (q_Q D ca ty al ad post) args s 0 0 (q_A al ad) ∧ A = q_A al ad
theorem q_lgsl (ad : Nat → Nat) (vs : List Value) : (lg_sl (vs.map (q_cv ad))).length = (lg_sl vs).length := by
  induction vs with
  | nil => rfl
  | cons v r ih =>
    have e : ∀ (v : Value) (r : List Value), (lg_sl (v :: r)).length = (if v.category = 2 then 2 else 1) + (lg_sl r).length := by
      intro v r
      simp only [lg_sl, List.flatMap_cons, List.length_append]
      split <;> rfl
    rw [List.map_cons, e, e, ih, q_cv_cat]
theorem q_ofW {l : Launch} {y : MethodName} {ws ws' : List Cond} {rm : Room} {Pc : Array Value → State → Prop} {Qc : Array Value → State → Outcome → State → Prop} {mc ms : Nat} {free : Addr → Prop} {cc : ByteArray} {maxL : Nat} {ret : Option FieldType}
    (hy : plainFor y = true) (hw : ws = Cond.code y cc maxL ret :: ws')
    (body : ∀ p e s m args below meth c s₁, BodyLoose p l y (headSpec ws rm) cc maxL ret e s m args below meth c s₁ → c.maxLocals = maxL → Pc args s →
      W p l e (headSpec ws rm).room s m args below meth c s.heap [] 0 0 (MQ below Qc args s mc ms free) (entryFrame m args maxL)) : Met l y ws rm Pc Qc mc ms free := by
  refine MetFree.of_bodySF (code := cc) (maxLocals := maxL) (ret := ret) hy ?_ ?_
  · intro args s m h hn
    obtain ⟨meth, c, h1, h2, h3, h4, h5, h6, -, -⟩ := Cond.code_spec hn (atoms_spec (ws := ws) h _ (by rw [hw]; exact List.mem_cons_self))
    exact ⟨meth, c, h1, h2, h3, h4, h5, h6⟩
  · intro p e s m args below meth c s₁ B hml hP _
    have hh0 : s₁.heap = s.heap := by rw [B.state]; rfl
    obtain ⟨t, a1, o, b1, b2, b3⟩ := body p e s m args below meth c s₁ B hml hP s₁ hh0 (Stand.of_body B)
    exact ⟨t, o, a1, b1, b2, ⟨b3.1, b3.2⟩⟩
theorem q_Con.of {y : MethodName} {cc : ByteArray} {maxL : Nat} {ret : Option FieldType} {fr lo : Nat} {ty : Nat → PT} {al : Nat → Bool} {as : List Value} {h : PH} {post : Option Value → PH → Prop} (own : String) (ls0 : List (Option Value)) (hy : plainFor y = true) (ho : y.cls = own) (hls : q_in as maxL = ls0) (hlen : (lg_sl as).length ≤ maxL)
    (body : ∀ (C : q_Ctx) (ad : Nat → Nat), q_Ev C cc maxL own al ad fr lo → q_Er C ret ty al ad post → gg C ty maxL 0 0 al ad 0 ls0 [] h) : q_Con y cc maxL ret fr lo ty al as h post := by
  intro l D ca ad
  refine q_ofW (cc := cc) (maxL := maxL) (ret := ret) hy rfl ?_
  intro p e s m args below meth c s₁ B hml hv
  obtain ⟨rfl, hT, hR, hJ⟩ := hv
  have hown : s.vm.findClass own = some m.cls := by rw [← ho]; exact findClass_of_methodNamed B.named
  have K := body ((p, l, e, (headSpec [Cond.code y cc maxL ret] { frames := fr, cells := 0, slots := 0, locals := lo }).room, s), (m, (as.map (q_cv ad)).toArray, below, meth, c), (D, ca, q_A al ad, MQ below (q_Q D ca ty al ad post) (as.map (q_cv ad)).toArray s 0 0 (q_A al ad))) ad
    ⟨B.exec, B.bytes, hml, hown, hT, hJ, fun a ha => ⟨a, ha, rfl⟩, Nat.le_refl _, Nat.le_refl _⟩ ⟨B.returns, B.notSynchronized, rfl, rfl⟩
  rw [lg_entry_eq]
  exact K s.heap [] _ ⟨Nat.zero_le _, Nat.zero_le _⟩ hR va_S.rf (hls ▸ q_entry (lv_entry _ (by rw [q_lgsl]; exact hlen)))
section GR
variable {C : q_Ctx} {ty : Nat → PT} {cc : ByteArray} {nL : Nat} {own : String} {al : Nat → Bool} {ad : Nat → Nat} {FR LO : Nat} {pc : Nat} {ls : List (Option Value)} {h : PH} {post : Option Value → PH → Prop}
theorem g_iret {v : Int32} (E : q_Ev C cc nL own al ad FR LO) (Z : q_Er C (some .int) ty al ad post) (hd : decode cc pc = .ok (.ireturn, 1)) (hp : post (some (.int v)) h) : gg C ty nL 0 0 al ad pc ls [.int v] h := by
  obtain ⟨⟨p, l, e, R, s⟩, ⟨m, args, below, meth, c⟩, ⟨D, ca, A, Q⟩⟩ := C
  obtain ⟨z1, z2, z3, z4⟩ := Z
  subst z3; subst z4
  exact fun H locs lsA hZ hR hS hl => W.iret E.1 E.2.1 z1 (fun t ht hW => ⟨⟨some (.int v), h, rfl, hp, by rw [ht]; exact hR⟩, hS.F ht⟩) (fun q hq => hS.2.2 q hq) hd (hlocks := z2)
theorem g_zret {v : Int32} (E : q_Ev C cc nL own al ad FR LO) (Z : q_Er C (some .boolean) ty al ad post) (hd : decode cc pc = .ok (.ireturn, 1)) (hn : narrow .boolean (.int v) = .int v) (hp : post (some (.int v)) h) : gg C ty nL 0 0 al ad pc ls [.int v] h := by
  obtain ⟨⟨p, l, e, R, s⟩, ⟨m, args, below, meth, c⟩, ⟨D, ca, A, Q⟩⟩ := C
  obtain ⟨z1, z2, z3, z4⟩ := Z
  subst z3; subst z4
  exact fun H locs lsA hZ hR hS hl => W.zret E.1 E.2.1 z1 hn (fun t ht hW => ⟨⟨some (.int v), h, rfl, hp, by rw [ht]; exact hR⟩, hS.F ht⟩) (fun q hq => hS.2.2 q hq) hd (hlocks := z2)
theorem g_lret {v : Int64} (E : q_Ev C cc nL own al ad FR LO) (Z : q_Er C (some .long) ty al ad post) (hd : decode cc pc = .ok (.lreturn, 1)) (hp : post (some (.long v)) h) : gg C ty nL 0 0 al ad pc ls [.long v] h := by
  obtain ⟨⟨p, l, e, R, s⟩, ⟨m, args, below, meth, c⟩, ⟨D, ca, A, Q⟩⟩ := C
  obtain ⟨z1, z2, z3, z4⟩ := Z
  subst z3; subst z4
  exact fun H locs lsA hZ hR hS hl => W.lret E.1 E.2.1 z1 (fun t ht hW => ⟨⟨some (.long v), h, rfl, hp, by rw [ht]; exact hR⟩, hS.F ht⟩) (fun q hq => hS.2.2 q hq) hd (hlocks := z2)
theorem g_vret (E : q_Ev C cc nL own al ad FR LO) (Z : q_Er C none ty al ad post) (hd : decode cc pc = .ok (.return_, 1)) (hp : post none h) : gg C ty nL 0 0 al ad pc ls [] h := by
  obtain ⟨⟨p, l, e, R, s⟩, ⟨m, args, below, meth, c⟩, ⟨D, ca, A, Q⟩⟩ := C
  obtain ⟨z1, z2, z3, z4⟩ := Z
  subst z3; subst z4
  exact fun H locs lsA hZ hR hS hl => W.vret E.1 E.2.1 z1 (fun t ht hW => ⟨⟨none, h, rfl, hp, by rw [ht]; exact hR⟩, hS.F ht⟩) (fun q hq => hS.2.2 q hq) hd (hlocks := z2)
end GR
theorem q_blind {D : va_G} {ca : FieldType → ClassId} {ty : Nat → PT} {al : Nat → Bool} {ad : Nat → Nat} {as : List Value} {h : PH} : FrameBlind (q_P D ca ty al ad as h) := fun a U g mk q => ⟨q.1, q_T.warm (s := U) (U := U.calling g mk a) (State.WarmedH.refl U) q.2.1, q.2.2.1, q.2.2.2⟩
theorem q_cats (ad : Nat → Nat) (rest : List Value) : ((rest.map (q_cv ad)).map fun v => v.category) = rest.map fun v => v.category := by
  rw [List.map_map]
  exact List.map_congr_left (fun v _ => q_cv_cat ad v)
section GC
variable {C : q_Ctx} {ty : Nat → PT} {cc : ByteArray} {nL kc ks : Nat} {own : String} {al : Nat → Bool} {ad : Nat → Nat} {FR LO : Nat} {pc : Nat} {ls : List (Option Value)} {st rest : List Value} {h : PH} {post : Option Value → PH → Prop}
variable {y : MethodName} {cy : ByteArray} {maxL fr lo idx n : Nat} {ret : Option FieldType} {as : List Value}
theorem q_after {p : Program} {l : Launch} {e : Env} {R : Room} {s : State} {m : MethodId} {args : Array Value} {below : List Frame} {meth : Method} {c : Code} {D : va_G} {ca : FieldType → ClassId} {A : Nat → Prop} {Q : State → Prop} {H : Heap} {locs : List Loc} {lsA : Array Slot} {a : Array Value} {st0 : List Value}
    (hr : va_Run p l e R s m args below meth c H locs kc ks 0 0 (F0 m pc lsA st0) (rest.map (q_cv ad)) (q_Q D ca ty al ad post a) (q_A al ad)) (hZ : kc ≤ R.cells ∧ ks ≤ R.slots) (hS : va_S A s.heap H locs) (hA : ∀ a, al a = true → A (ad a)) (hl : q_L ad nL ls lsA)
    (k : ∀ r h', post r h' → gg ((p, l, e, R, s), (m, args, below, meth, c), (D, ca, A, Q)) ty nL kc ks al ad (pc + 3) ls (r.toList ++ rest) h') : W p l e R s m args below meth c H locs kc ks Q (F0 m pc lsA st0) := by
  intro T hT X
  obtain ⟨v, st₀, t, T', L, h0, X', hL, e1, e2, ⟨⟨r, h', hv, hp, hR'⟩, hz, hk⟩, stp⟩ := hr T hT X
  cases hv
  rw [h0] at hz hk
  have hAA : ∀ q, q_A al ad q → A q := fun q ⟨b, hb, hq⟩ => hq ▸ hA b hb
  obtain ⟨t2, a1, b1⟩ := k r h' hp T'.heap (locs ++ L) lsA hZ (by rw [e1]; exact hR')
    ⟨Nat.le_trans hS.1 (by rw [e1]; exact hz), fun q h1 h2 => by rw [e1, hk q (Nat.lt_of_lt_of_le h1 hS.1) (fun z => h2 (hAA q z))]; exact hS.2.1 q h1 h2, fun q hq => by
      rcases List.mem_append.mp hq with h | h
      · exact hS.2.2 q h
      · exact hAA _ (hL q h)⟩ hl T' rfl X'
  refine ⟨t2, stp t2 ?_, b1⟩
  cases r <;> exact a1
theorem q_callV {a ci : Nat} (E : q_Ev C cc nL own al ad FR LO) (hC : q_Con y cy maxL ret fr lo ty al (.ref a :: as) h post) (hw : q_CV own idx ci y cy maxL ret n) (hn : as.length = n) (hf1 : fr + 1 ≤ FR) (hf2 : 8 + (maxL + 11) + lo ≤ LO) (ha : al a = true) (hty : ty a = .inr ci) (hdep : (rest.map fun v => v.category).sum ≤ 8) (hd : decode cc pc = .ok (.invokevirtual idx, 3)) (hst : st = as.reverse ++ .ref a :: rest)
    (k : ∀ r h', post r h' → gg C ty nL kc ks al ad (pc + 3) ls (r.toList ++ rest) h') : gg C ty nL kc ks al ad pc ls st h := by
  obtain ⟨⟨p, l, e, R, s⟩, ⟨m, args, below, meth, c⟩, ⟨D, ca, A, Q⟩⟩ := C
  intro H locs lsA hZ hR hS hl
  subst hst
  obtain ⟨hx, hb, hml, hown, hT, hJ, hA, hFR, hLO⟩ := E
  obtain ⟨⟨Tc, Nc, ok⟩, hlk, w2, w3, w4, w5, d1, d2, d3⟩ := hw
  have hP := hR a ha
  rw [hty] at hP
  obtain ⟨r, g0, cell, g1, g2, g3, -⟩ := hP
  have hrecv : ∃ cellB : Cell, H[ad a]? = some cellB ∧ cellB.vm.isStatics = false ∧ s.vm.findClass y.cls = some cellB.cls := ⟨cell, g1, by rw [g3]; rfl, by rw [g2]; exact (hT.2.1 ci _ ok.1).2.1⟩
  have hpre : PreV s H y.cls (ad a) (q_P D ca ty al ad (.ref a :: as) h) (as.map (q_cv ad)) := ⟨q_blind, hrecv, fun U hU hW => ⟨rfl, hT.warm hW, by rw [hU]; exact hR, hJ⟩⟩
  have hlen : ∀ sig, parseMethodDescriptor y.desc = some sig → n = sig.parameters.length := fun sig h => by rw [h] at d3; exact (Option.some.inj d3).symm
  have hws : ∀ w ∈ [Cond.code y cy maxL ret], ∀ (a' : Array Value) (U : State), s.WarmedH U.vm → w.before a' U = true := fun w hw a' U hW => by
    rw [List.mem_singleton.mp hw]
    exact (hT.warm hW).1 _ w4 rfl _
  have hstk : (as.reverse ++ Value.ref a :: rest).map (q_cv ad) = (as.map (q_cv ad)).reverse ++ Value.ref (ad a) :: rest.map (q_cv ad) := by
    rw [List.map_append, List.map_cons, List.map_reverse]; rfl
  have hdp : 2 * (F0 m pc lsA ((as.reverse ++ Value.ref a :: rest).map (q_cv ad))).monitorRoom + ((rest.map (q_cv ad)).map fun v => v.category).sum ≤ 8 := by
    rw [q_cats]; show 2 * 0 + _ ≤ 8; omega
  rcases hlk with hlk | ⟨host, hlk⟩
  · exact q_after (va_runV (Ts := []) (C := y.cls) ⟨hx, hb, hml, hown, fun w h => by cases h⟩ (hC l D ca ad) ⟨⟨rfl, rfl, Nat.le_trans hf1 hFR, Nat.le_trans hf2 hLO, hws, List.mem_singleton.mpr rfl, hT.1 _ w4 rfl _, hT.1 _ w5 rfl _, ⟨d1, d2⟩, hlen, hT.1 _ hlk rfl _⟩, hT.1 _ w2 rfl _, hT.1 _ w3 rfl _⟩ hpre rfl (by rw [List.length_map]; exact hn) hl.1 hstk hdp hd hZ) hZ hS hA hl k
  · exact q_after (va_runVN (Ts := []) (C := y.cls) ⟨hx, hb, hml, hown, fun w h => by cases h⟩ (hC l D ca ad) ⟨⟨⟨rfl, rfl, Nat.le_trans hf1 hFR, Nat.le_trans hf2 hLO, hws, List.mem_singleton.mpr rfl⟩, hT.1 _ w4 rfl _, hT.1 _ w5 rfl _, ⟨d1, d2⟩, hlen, hT.1 _ hlk rfl _⟩, hT.1 _ w2 rfl _, hT.1 _ w3 rfl _⟩ hpre rfl (by rw [List.length_map]; exact hn) hl.1 hstk hdp hd hZ) hZ hS hA hl k
theorem q_callS (E : q_Ev C cc nL own al ad FR LO) (hC : q_Con y cy maxL ret fr lo ty al as h post) (hw : q_CS own idx y cy maxL ret n) (hn : as.length = n) (hf1 : fr + 1 ≤ FR) (hf2 : 8 + (maxL + 11) + lo ≤ LO) (hdep : (rest.map fun v => v.category).sum ≤ 8) (hd : decode cc pc = .ok (.invokestatic idx, 3)) (hst : st = as.reverse ++ rest)
    (k : ∀ r h', post r h' → gg C ty nL kc ks al ad (pc + 3) ls (r.toList ++ rest) h') : gg C ty nL kc ks al ad pc ls st h := by
  obtain ⟨⟨p, l, e, R, s⟩, ⟨m, args, below, meth, c⟩, ⟨D, ca, A, Q⟩⟩ := C
  intro H locs lsA hZ hR hS hl
  subst hst
  obtain ⟨hx, hb, hml, hown, hT, hJ, hA, hFR, hLO⟩ := E
  obtain ⟨hlk, w2, w4, w5, d1, d2, d3⟩ := hw
  have hpre : PreS s H (q_P D ca ty al ad as h) (as.map (q_cv ad)) := ⟨q_blind, fun U hU hW => ⟨rfl, hT.warm hW, by rw [hU]; exact hR, hJ⟩⟩
  have hlen : ∀ sig, parseMethodDescriptor y.desc = some sig → n = sig.parameters.length := fun sig h => by rw [h] at d3; exact (Option.some.inj d3).symm
  have hws : ∀ w ∈ [Cond.code y cy maxL ret], ∀ (a' : Array Value) (U : State), s.WarmedH U.vm → w.before a' U = true := fun w hw a' U hW => by
    rw [List.mem_singleton.mp hw]
    exact (hT.warm hW).1 _ w4 rfl _
  have hstk : (as.reverse ++ rest).map (q_cv ad) = (as.map (q_cv ad)).reverse ++ rest.map (q_cv ad) := by
    rw [List.map_append, List.map_reverse]
  have hdp : 2 * (F0 m pc lsA ((as.reverse ++ rest).map (q_cv ad))).monitorRoom + ((rest.map (q_cv ad)).map fun v => v.category).sum ≤ 8 := by
    rw [q_cats]; show 2 * 0 + _ ≤ 8; omega
  rcases hlk with hlk | ⟨host, hlk⟩
  · exact q_after (va_runS (Ts := []) ⟨hx, hb, hml, hown, fun w h => by cases h⟩ (hC l D ca ad) ⟨⟨rfl, rfl, Nat.le_trans hf1 hFR, Nat.le_trans hf2 hLO, hws, List.mem_singleton.mpr rfl, hT.1 _ w4 rfl _, hT.1 _ w5 rfl _, ⟨d1, d2⟩, hlen, hT.1 _ hlk rfl _⟩, hT.1 _ w2 rfl _⟩ hpre rfl (by rw [List.length_map]; exact hn) hl.1 hstk hdp hd hZ) hZ hS hA hl k
  · exact q_after (va_runSN (Ts := []) ⟨hx, hb, hml, hown, fun w h => by cases h⟩ (hC l D ca ad) ⟨⟨⟨rfl, rfl, Nat.le_trans hf1 hFR, Nat.le_trans hf2 hLO, hws, List.mem_singleton.mpr rfl⟩, hT.1 _ w4 rfl _, hT.1 _ w5 rfl _, ⟨d1, d2⟩, hlen, hT.1 _ hlk rfl _⟩, hT.1 _ w2 rfl _, trivial⟩ hpre rfl (by rw [List.length_map]; exact hn) hl.1 hstk hdp hd hZ) hZ hS hA hl k
end GC
end
section
/-! typed contracts, calls by the number of arguments, the two worlds -/
def q_ConI (y : MethodName) (cc : ByteArray) (maxL : Nat) (ret : Option FieldType) (fr lo : Nat) (ty : Nat → PT) (al : Nat → Bool) (as : List Value) (h : PH) (post : Int32 → PH → Prop) : Prop := q_Con y cc maxL ret fr lo ty al as h (fun r h' => ∃ v : Int32, r = some (.int v) ∧ post v h')
def q_ConL (y : MethodName) (cc : ByteArray) (maxL : Nat) (ret : Option FieldType) (fr lo : Nat) (ty : Nat → PT) (al : Nat → Bool) (as : List Value) (h : PH) (post : Int64 → PH → Prop) : Prop := q_Con y cc maxL ret fr lo ty al as h (fun r h' => ∃ v : Int64, r = some (.long v) ∧ post v h')
def q_ConV (y : MethodName) (cc : ByteArray) (maxL : Nat) (ret : Option FieldType) (fr lo : Nat) (ty : Nat → PT) (al : Nat → Bool) (as : List Value) (h : PH) (post : PH → Prop) : Prop := q_Con y cc maxL ret fr lo ty al as h (fun r h' => r = none ∧ post h')
section GN
variable {C : q_Ctx} {ty : Nat → PT} {cc : ByteArray} {nL kc ks : Nat} {own : String} {al : Nat → Bool} {ad : Nat → Nat} {FR LO : Nat} {pc : Nat} {ls : List (Option Value)} {st rest : List Value} {h : PH}
variable {y : MethodName} {cy : ByteArray} {maxL fr lo idx : Nat} {ret : Option FieldType}
theorem g_cVi0 {a ci : Nat} {post : Int32 → PH → Prop} (E : q_Ev C cc nL own al ad FR LO) (hC : q_ConI y cy maxL ret fr lo ty al [.ref a] h post) (hw : q_CV own idx ci y cy maxL ret 0) (hf1 : fr + 1 ≤ FR) (hf2 : 8 + (maxL + 11) + lo ≤ LO) (ha : al a = true) (hty : ty a = .inr ci) (hdep : (rest.map fun v => v.category).sum ≤ 8) (hd : decode cc pc = .ok (.invokevirtual idx, 3)) (k : ∀ (v : Int32) (h' : PH), post v h' → gg C ty nL kc ks al ad (pc + 3) ls (.int v :: rest) h') : gg C ty nL kc ks al ad pc ls (.ref a :: rest) h :=
  q_callV E hC hw rfl hf1 hf2 ha hty hdep hd rfl (fun r h' hp => by obtain ⟨v, rfl, hq⟩ := hp; exact k v h' hq)
theorem g_cSi0 {post : Int32 → PH → Prop} (E : q_Ev C cc nL own al ad FR LO) (hC : q_ConI y cy maxL ret fr lo ty al [] h post) (hw : q_CS own idx y cy maxL ret 0) (hf1 : fr + 1 ≤ FR) (hf2 : 8 + (maxL + 11) + lo ≤ LO) (hdep : (rest.map fun v => v.category).sum ≤ 8) (hd : decode cc pc = .ok (.invokestatic idx, 3)) (k : ∀ (v : Int32) (h' : PH), post v h' → gg C ty nL kc ks al ad (pc + 3) ls (.int v :: rest) h') : gg C ty nL kc ks al ad pc ls (rest) h :=
  q_callS E hC hw rfl hf1 hf2 hdep hd rfl (fun r h' hp => by obtain ⟨v, rfl, hq⟩ := hp; exact k v h' hq)
theorem g_cVl0 {a ci : Nat} {post : Int64 → PH → Prop} (E : q_Ev C cc nL own al ad FR LO) (hC : q_ConL y cy maxL ret fr lo ty al [.ref a] h post) (hw : q_CV own idx ci y cy maxL ret 0) (hf1 : fr + 1 ≤ FR) (hf2 : 8 + (maxL + 11) + lo ≤ LO) (ha : al a = true) (hty : ty a = .inr ci) (hdep : (rest.map fun v => v.category).sum ≤ 8) (hd : decode cc pc = .ok (.invokevirtual idx, 3)) (k : ∀ (v : Int64) (h' : PH), post v h' → gg C ty nL kc ks al ad (pc + 3) ls (.long v :: rest) h') : gg C ty nL kc ks al ad pc ls (.ref a :: rest) h :=
  q_callV E hC hw rfl hf1 hf2 ha hty hdep hd rfl (fun r h' hp => by obtain ⟨v, rfl, hq⟩ := hp; exact k v h' hq)
theorem g_cSl0 {post : Int64 → PH → Prop} (E : q_Ev C cc nL own al ad FR LO) (hC : q_ConL y cy maxL ret fr lo ty al [] h post) (hw : q_CS own idx y cy maxL ret 0) (hf1 : fr + 1 ≤ FR) (hf2 : 8 + (maxL + 11) + lo ≤ LO) (hdep : (rest.map fun v => v.category).sum ≤ 8) (hd : decode cc pc = .ok (.invokestatic idx, 3)) (k : ∀ (v : Int64) (h' : PH), post v h' → gg C ty nL kc ks al ad (pc + 3) ls (.long v :: rest) h') : gg C ty nL kc ks al ad pc ls (rest) h :=
  q_callS E hC hw rfl hf1 hf2 hdep hd rfl (fun r h' hp => by obtain ⟨v, rfl, hq⟩ := hp; exact k v h' hq)
theorem g_cVv0 {a ci : Nat} {post : PH → Prop} (E : q_Ev C cc nL own al ad FR LO) (hC : q_ConV y cy maxL ret fr lo ty al [.ref a] h post) (hw : q_CV own idx ci y cy maxL ret 0) (hf1 : fr + 1 ≤ FR) (hf2 : 8 + (maxL + 11) + lo ≤ LO) (ha : al a = true) (hty : ty a = .inr ci) (hdep : (rest.map fun v => v.category).sum ≤ 8) (hd : decode cc pc = .ok (.invokevirtual idx, 3)) (k : ∀ (h' : PH), post h' → gg C ty nL kc ks al ad (pc + 3) ls rest h') : gg C ty nL kc ks al ad pc ls (.ref a :: rest) h :=
  q_callV E hC hw rfl hf1 hf2 ha hty hdep hd rfl (fun r h' hp => by obtain ⟨rfl, hq⟩ := hp; exact k h' hq)
theorem g_cSv0 {post : PH → Prop} (E : q_Ev C cc nL own al ad FR LO) (hC : q_ConV y cy maxL ret fr lo ty al [] h post) (hw : q_CS own idx y cy maxL ret 0) (hf1 : fr + 1 ≤ FR) (hf2 : 8 + (maxL + 11) + lo ≤ LO) (hdep : (rest.map fun v => v.category).sum ≤ 8) (hd : decode cc pc = .ok (.invokestatic idx, 3)) (k : ∀ (h' : PH), post h' → gg C ty nL kc ks al ad (pc + 3) ls rest h') : gg C ty nL kc ks al ad pc ls (rest) h :=
  q_callS E hC hw rfl hf1 hf2 hdep hd rfl (fun r h' hp => by obtain ⟨rfl, hq⟩ := hp; exact k h' hq)
theorem g_cVi1 {v1 : Value} {a ci : Nat} {post : Int32 → PH → Prop} (E : q_Ev C cc nL own al ad FR LO) (hC : q_ConI y cy maxL ret fr lo ty al [.ref a, v1] h post) (hw : q_CV own idx ci y cy maxL ret 1) (hf1 : fr + 1 ≤ FR) (hf2 : 8 + (maxL + 11) + lo ≤ LO) (ha : al a = true) (hty : ty a = .inr ci) (hdep : (rest.map fun v => v.category).sum ≤ 8) (hd : decode cc pc = .ok (.invokevirtual idx, 3)) (k : ∀ (v : Int32) (h' : PH), post v h' → gg C ty nL kc ks al ad (pc + 3) ls (.int v :: rest) h') : gg C ty nL kc ks al ad pc ls (v1 :: .ref a :: rest) h :=
  q_callV E hC hw rfl hf1 hf2 ha hty hdep hd rfl (fun r h' hp => by obtain ⟨v, rfl, hq⟩ := hp; exact k v h' hq)
theorem g_cSi1 {v1 : Value} {post : Int32 → PH → Prop} (E : q_Ev C cc nL own al ad FR LO) (hC : q_ConI y cy maxL ret fr lo ty al [v1] h post) (hw : q_CS own idx y cy maxL ret 1) (hf1 : fr + 1 ≤ FR) (hf2 : 8 + (maxL + 11) + lo ≤ LO) (hdep : (rest.map fun v => v.category).sum ≤ 8) (hd : decode cc pc = .ok (.invokestatic idx, 3)) (k : ∀ (v : Int32) (h' : PH), post v h' → gg C ty nL kc ks al ad (pc + 3) ls (.int v :: rest) h') : gg C ty nL kc ks al ad pc ls (v1 :: rest) h :=
  q_callS E hC hw rfl hf1 hf2 hdep hd rfl (fun r h' hp => by obtain ⟨v, rfl, hq⟩ := hp; exact k v h' hq)
theorem g_cVl1 {v1 : Value} {a ci : Nat} {post : Int64 → PH → Prop} (E : q_Ev C cc nL own al ad FR LO) (hC : q_ConL y cy maxL ret fr lo ty al [.ref a, v1] h post) (hw : q_CV own idx ci y cy maxL ret 1) (hf1 : fr + 1 ≤ FR) (hf2 : 8 + (maxL + 11) + lo ≤ LO) (ha : al a = true) (hty : ty a = .inr ci) (hdep : (rest.map fun v => v.category).sum ≤ 8) (hd : decode cc pc = .ok (.invokevirtual idx, 3)) (k : ∀ (v : Int64) (h' : PH), post v h' → gg C ty nL kc ks al ad (pc + 3) ls (.long v :: rest) h') : gg C ty nL kc ks al ad pc ls (v1 :: .ref a :: rest) h :=
  q_callV E hC hw rfl hf1 hf2 ha hty hdep hd rfl (fun r h' hp => by obtain ⟨v, rfl, hq⟩ := hp; exact k v h' hq)
theorem g_cSl1 {v1 : Value} {post : Int64 → PH → Prop} (E : q_Ev C cc nL own al ad FR LO) (hC : q_ConL y cy maxL ret fr lo ty al [v1] h post) (hw : q_CS own idx y cy maxL ret 1) (hf1 : fr + 1 ≤ FR) (hf2 : 8 + (maxL + 11) + lo ≤ LO) (hdep : (rest.map fun v => v.category).sum ≤ 8) (hd : decode cc pc = .ok (.invokestatic idx, 3)) (k : ∀ (v : Int64) (h' : PH), post v h' → gg C ty nL kc ks al ad (pc + 3) ls (.long v :: rest) h') : gg C ty nL kc ks al ad pc ls (v1 :: rest) h :=
  q_callS E hC hw rfl hf1 hf2 hdep hd rfl (fun r h' hp => by obtain ⟨v, rfl, hq⟩ := hp; exact k v h' hq)
theorem g_cVv1 {v1 : Value} {a ci : Nat} {post : PH → Prop} (E : q_Ev C cc nL own al ad FR LO) (hC : q_ConV y cy maxL ret fr lo ty al [.ref a, v1] h post) (hw : q_CV own idx ci y cy maxL ret 1) (hf1 : fr + 1 ≤ FR) (hf2 : 8 + (maxL + 11) + lo ≤ LO) (ha : al a = true) (hty : ty a = .inr ci) (hdep : (rest.map fun v => v.category).sum ≤ 8) (hd : decode cc pc = .ok (.invokevirtual idx, 3)) (k : ∀ (h' : PH), post h' → gg C ty nL kc ks al ad (pc + 3) ls rest h') : gg C ty nL kc ks al ad pc ls (v1 :: .ref a :: rest) h :=
  q_callV E hC hw rfl hf1 hf2 ha hty hdep hd rfl (fun r h' hp => by obtain ⟨rfl, hq⟩ := hp; exact k h' hq)
theorem g_cSv1 {v1 : Value} {post : PH → Prop} (E : q_Ev C cc nL own al ad FR LO) (hC : q_ConV y cy maxL ret fr lo ty al [v1] h post) (hw : q_CS own idx y cy maxL ret 1) (hf1 : fr + 1 ≤ FR) (hf2 : 8 + (maxL + 11) + lo ≤ LO) (hdep : (rest.map fun v => v.category).sum ≤ 8) (hd : decode cc pc = .ok (.invokestatic idx, 3)) (k : ∀ (h' : PH), post h' → gg C ty nL kc ks al ad (pc + 3) ls rest h') : gg C ty nL kc ks al ad pc ls (v1 :: rest) h :=
  q_callS E hC hw rfl hf1 hf2 hdep hd rfl (fun r h' hp => by obtain ⟨rfl, hq⟩ := hp; exact k h' hq)
theorem g_cVi2 {v1 v2 : Value} {a ci : Nat} {post : Int32 → PH → Prop} (E : q_Ev C cc nL own al ad FR LO) (hC : q_ConI y cy maxL ret fr lo ty al [.ref a, v1, v2] h post) (hw : q_CV own idx ci y cy maxL ret 2) (hf1 : fr + 1 ≤ FR) (hf2 : 8 + (maxL + 11) + lo ≤ LO) (ha : al a = true) (hty : ty a = .inr ci) (hdep : (rest.map fun v => v.category).sum ≤ 8) (hd : decode cc pc = .ok (.invokevirtual idx, 3)) (k : ∀ (v : Int32) (h' : PH), post v h' → gg C ty nL kc ks al ad (pc + 3) ls (.int v :: rest) h') : gg C ty nL kc ks al ad pc ls (v2 :: v1 :: .ref a :: rest) h :=
  q_callV E hC hw rfl hf1 hf2 ha hty hdep hd rfl (fun r h' hp => by obtain ⟨v, rfl, hq⟩ := hp; exact k v h' hq)
theorem g_cSi2 {v1 v2 : Value} {post : Int32 → PH → Prop} (E : q_Ev C cc nL own al ad FR LO) (hC : q_ConI y cy maxL ret fr lo ty al [v1, v2] h post) (hw : q_CS own idx y cy maxL ret 2) (hf1 : fr + 1 ≤ FR) (hf2 : 8 + (maxL + 11) + lo ≤ LO) (hdep : (rest.map fun v => v.category).sum ≤ 8) (hd : decode cc pc = .ok (.invokestatic idx, 3)) (k : ∀ (v : Int32) (h' : PH), post v h' → gg C ty nL kc ks al ad (pc + 3) ls (.int v :: rest) h') : gg C ty nL kc ks al ad pc ls (v2 :: v1 :: rest) h :=
  q_callS E hC hw rfl hf1 hf2 hdep hd rfl (fun r h' hp => by obtain ⟨v, rfl, hq⟩ := hp; exact k v h' hq)
theorem g_cVl2 {v1 v2 : Value} {a ci : Nat} {post : Int64 → PH → Prop} (E : q_Ev C cc nL own al ad FR LO) (hC : q_ConL y cy maxL ret fr lo ty al [.ref a, v1, v2] h post) (hw : q_CV own idx ci y cy maxL ret 2) (hf1 : fr + 1 ≤ FR) (hf2 : 8 + (maxL + 11) + lo ≤ LO) (ha : al a = true) (hty : ty a = .inr ci) (hdep : (rest.map fun v => v.category).sum ≤ 8) (hd : decode cc pc = .ok (.invokevirtual idx, 3)) (k : ∀ (v : Int64) (h' : PH), post v h' → gg C ty nL kc ks al ad (pc + 3) ls (.long v :: rest) h') : gg C ty nL kc ks al ad pc ls (v2 :: v1 :: .ref a :: rest) h :=
  q_callV E hC hw rfl hf1 hf2 ha hty hdep hd rfl (fun r h' hp => by obtain ⟨v, rfl, hq⟩ := hp; exact k v h' hq)
theorem g_cSl2 {v1 v2 : Value} {post : Int64 → PH → Prop} (E : q_Ev C cc nL own al ad FR LO) (hC : q_ConL y cy maxL ret fr lo ty al [v1, v2] h post) (hw : q_CS own idx y cy maxL ret 2) (hf1 : fr + 1 ≤ FR) (hf2 : 8 + (maxL + 11) + lo ≤ LO) (hdep : (rest.map fun v => v.category).sum ≤ 8) (hd : decode cc pc = .ok (.invokestatic idx, 3)) (k : ∀ (v : Int64) (h' : PH), post v h' → gg C ty nL kc ks al ad (pc + 3) ls (.long v :: rest) h') : gg C ty nL kc ks al ad pc ls (v2 :: v1 :: rest) h :=
  q_callS E hC hw rfl hf1 hf2 hdep hd rfl (fun r h' hp => by obtain ⟨v, rfl, hq⟩ := hp; exact k v h' hq)
theorem g_cVv2 {v1 v2 : Value} {a ci : Nat} {post : PH → Prop} (E : q_Ev C cc nL own al ad FR LO) (hC : q_ConV y cy maxL ret fr lo ty al [.ref a, v1, v2] h post) (hw : q_CV own idx ci y cy maxL ret 2) (hf1 : fr + 1 ≤ FR) (hf2 : 8 + (maxL + 11) + lo ≤ LO) (ha : al a = true) (hty : ty a = .inr ci) (hdep : (rest.map fun v => v.category).sum ≤ 8) (hd : decode cc pc = .ok (.invokevirtual idx, 3)) (k : ∀ (h' : PH), post h' → gg C ty nL kc ks al ad (pc + 3) ls rest h') : gg C ty nL kc ks al ad pc ls (v2 :: v1 :: .ref a :: rest) h :=
  q_callV E hC hw rfl hf1 hf2 ha hty hdep hd rfl (fun r h' hp => by obtain ⟨rfl, hq⟩ := hp; exact k h' hq)
theorem g_cSv2 {v1 v2 : Value} {post : PH → Prop} (E : q_Ev C cc nL own al ad FR LO) (hC : q_ConV y cy maxL ret fr lo ty al [v1, v2] h post) (hw : q_CS own idx y cy maxL ret 2) (hf1 : fr + 1 ≤ FR) (hf2 : 8 + (maxL + 11) + lo ≤ LO) (hdep : (rest.map fun v => v.category).sum ≤ 8) (hd : decode cc pc = .ok (.invokestatic idx, 3)) (k : ∀ (h' : PH), post h' → gg C ty nL kc ks al ad (pc + 3) ls rest h') : gg C ty nL kc ks al ad pc ls (v2 :: v1 :: rest) h :=
  q_callS E hC hw rfl hf1 hf2 hdep hd rfl (fun r h' hp => by obtain ⟨rfl, hq⟩ := hp; exact k h' hq)
theorem g_cVi3 {v1 v2 v3 : Value} {a ci : Nat} {post : Int32 → PH → Prop} (E : q_Ev C cc nL own al ad FR LO) (hC : q_ConI y cy maxL ret fr lo ty al [.ref a, v1, v2, v3] h post) (hw : q_CV own idx ci y cy maxL ret 3) (hf1 : fr + 1 ≤ FR) (hf2 : 8 + (maxL + 11) + lo ≤ LO) (ha : al a = true) (hty : ty a = .inr ci) (hdep : (rest.map fun v => v.category).sum ≤ 8) (hd : decode cc pc = .ok (.invokevirtual idx, 3)) (k : ∀ (v : Int32) (h' : PH), post v h' → gg C ty nL kc ks al ad (pc + 3) ls (.int v :: rest) h') : gg C ty nL kc ks al ad pc ls (v3 :: v2 :: v1 :: .ref a :: rest) h :=
  q_callV E hC hw rfl hf1 hf2 ha hty hdep hd rfl (fun r h' hp => by obtain ⟨v, rfl, hq⟩ := hp; exact k v h' hq)
theorem g_cSi3 {v1 v2 v3 : Value} {post : Int32 → PH → Prop} (E : q_Ev C cc nL own al ad FR LO) (hC : q_ConI y cy maxL ret fr lo ty al [v1, v2, v3] h post) (hw : q_CS own idx y cy maxL ret 3) (hf1 : fr + 1 ≤ FR) (hf2 : 8 + (maxL + 11) + lo ≤ LO) (hdep : (rest.map fun v => v.category).sum ≤ 8) (hd : decode cc pc = .ok (.invokestatic idx, 3)) (k : ∀ (v : Int32) (h' : PH), post v h' → gg C ty nL kc ks al ad (pc + 3) ls (.int v :: rest) h') : gg C ty nL kc ks al ad pc ls (v3 :: v2 :: v1 :: rest) h :=
  q_callS E hC hw rfl hf1 hf2 hdep hd rfl (fun r h' hp => by obtain ⟨v, rfl, hq⟩ := hp; exact k v h' hq)
theorem g_cVl3 {v1 v2 v3 : Value} {a ci : Nat} {post : Int64 → PH → Prop} (E : q_Ev C cc nL own al ad FR LO) (hC : q_ConL y cy maxL ret fr lo ty al [.ref a, v1, v2, v3] h post) (hw : q_CV own idx ci y cy maxL ret 3) (hf1 : fr + 1 ≤ FR) (hf2 : 8 + (maxL + 11) + lo ≤ LO) (ha : al a = true) (hty : ty a = .inr ci) (hdep : (rest.map fun v => v.category).sum ≤ 8) (hd : decode cc pc = .ok (.invokevirtual idx, 3)) (k : ∀ (v : Int64) (h' : PH), post v h' → gg C ty nL kc ks al ad (pc + 3) ls (.long v :: rest) h') : gg C ty nL kc ks al ad pc ls (v3 :: v2 :: v1 :: .ref a :: rest) h :=
  q_callV E hC hw rfl hf1 hf2 ha hty hdep hd rfl (fun r h' hp => by obtain ⟨v, rfl, hq⟩ := hp; exact k v h' hq)
theorem g_cSl3 {v1 v2 v3 : Value} {post : Int64 → PH → Prop} (E : q_Ev C cc nL own al ad FR LO) (hC : q_ConL y cy maxL ret fr lo ty al [v1, v2, v3] h post) (hw : q_CS own idx y cy maxL ret 3) (hf1 : fr + 1 ≤ FR) (hf2 : 8 + (maxL + 11) + lo ≤ LO) (hdep : (rest.map fun v => v.category).sum ≤ 8) (hd : decode cc pc = .ok (.invokestatic idx, 3)) (k : ∀ (v : Int64) (h' : PH), post v h' → gg C ty nL kc ks al ad (pc + 3) ls (.long v :: rest) h') : gg C ty nL kc ks al ad pc ls (v3 :: v2 :: v1 :: rest) h :=
  q_callS E hC hw rfl hf1 hf2 hdep hd rfl (fun r h' hp => by obtain ⟨v, rfl, hq⟩ := hp; exact k v h' hq)
theorem g_cVv3 {v1 v2 v3 : Value} {a ci : Nat} {post : PH → Prop} (E : q_Ev C cc nL own al ad FR LO) (hC : q_ConV y cy maxL ret fr lo ty al [.ref a, v1, v2, v3] h post) (hw : q_CV own idx ci y cy maxL ret 3) (hf1 : fr + 1 ≤ FR) (hf2 : 8 + (maxL + 11) + lo ≤ LO) (ha : al a = true) (hty : ty a = .inr ci) (hdep : (rest.map fun v => v.category).sum ≤ 8) (hd : decode cc pc = .ok (.invokevirtual idx, 3)) (k : ∀ (h' : PH), post h' → gg C ty nL kc ks al ad (pc + 3) ls rest h') : gg C ty nL kc ks al ad pc ls (v3 :: v2 :: v1 :: .ref a :: rest) h :=
  q_callV E hC hw rfl hf1 hf2 ha hty hdep hd rfl (fun r h' hp => by obtain ⟨rfl, hq⟩ := hp; exact k h' hq)
theorem g_cSv3 {v1 v2 v3 : Value} {post : PH → Prop} (E : q_Ev C cc nL own al ad FR LO) (hC : q_ConV y cy maxL ret fr lo ty al [v1, v2, v3] h post) (hw : q_CS own idx y cy maxL ret 3) (hf1 : fr + 1 ≤ FR) (hf2 : 8 + (maxL + 11) + lo ≤ LO) (hdep : (rest.map fun v => v.category).sum ≤ 8) (hd : decode cc pc = .ok (.invokestatic idx, 3)) (k : ∀ (h' : PH), post h' → gg C ty nL kc ks al ad (pc + 3) ls rest h') : gg C ty nL kc ks al ad pc ls (v3 :: v2 :: v1 :: rest) h :=
  q_callS E hC hw rfl hf1 hf2 hdep hd rfl (fun r h' hp => by obtain ⟨rfl, hq⟩ := hp; exact k h' hq)
theorem g_cVi4 {v1 v2 v3 v4 : Value} {a ci : Nat} {post : Int32 → PH → Prop} (E : q_Ev C cc nL own al ad FR LO) (hC : q_ConI y cy maxL ret fr lo ty al [.ref a, v1, v2, v3, v4] h post) (hw : q_CV own idx ci y cy maxL ret 4) (hf1 : fr + 1 ≤ FR) (hf2 : 8 + (maxL + 11) + lo ≤ LO) (ha : al a = true) (hty : ty a = .inr ci) (hdep : (rest.map fun v => v.category).sum ≤ 8) (hd : decode cc pc = .ok (.invokevirtual idx, 3)) (k : ∀ (v : Int32) (h' : PH), post v h' → gg C ty nL kc ks al ad (pc + 3) ls (.int v :: rest) h') : gg C ty nL kc ks al ad pc ls (v4 :: v3 :: v2 :: v1 :: .ref a :: rest) h :=
  q_callV E hC hw rfl hf1 hf2 ha hty hdep hd rfl (fun r h' hp => by obtain ⟨v, rfl, hq⟩ := hp; exact k v h' hq)
theorem g_cSi4 {v1 v2 v3 v4 : Value} {post : Int32 → PH → Prop} (E : q_Ev C cc nL own al ad FR LO) (hC : q_ConI y cy maxL ret fr lo ty al [v1, v2, v3, v4] h post) (hw : q_CS own idx y cy maxL ret 4) (hf1 : fr + 1 ≤ FR) (hf2 : 8 + (maxL + 11) + lo ≤ LO) (hdep : (rest.map fun v => v.category).sum ≤ 8) (hd : decode cc pc = .ok (.invokestatic idx, 3)) (k : ∀ (v : Int32) (h' : PH), post v h' → gg C ty nL kc ks al ad (pc + 3) ls (.int v :: rest) h') : gg C ty nL kc ks al ad pc ls (v4 :: v3 :: v2 :: v1 :: rest) h :=
  q_callS E hC hw rfl hf1 hf2 hdep hd rfl (fun r h' hp => by obtain ⟨v, rfl, hq⟩ := hp; exact k v h' hq)
theorem g_cVl4 {v1 v2 v3 v4 : Value} {a ci : Nat} {post : Int64 → PH → Prop} (E : q_Ev C cc nL own al ad FR LO) (hC : q_ConL y cy maxL ret fr lo ty al [.ref a, v1, v2, v3, v4] h post) (hw : q_CV own idx ci y cy maxL ret 4) (hf1 : fr + 1 ≤ FR) (hf2 : 8 + (maxL + 11) + lo ≤ LO) (ha : al a = true) (hty : ty a = .inr ci) (hdep : (rest.map fun v => v.category).sum ≤ 8) (hd : decode cc pc = .ok (.invokevirtual idx, 3)) (k : ∀ (v : Int64) (h' : PH), post v h' → gg C ty nL kc ks al ad (pc + 3) ls (.long v :: rest) h') : gg C ty nL kc ks al ad pc ls (v4 :: v3 :: v2 :: v1 :: .ref a :: rest) h :=
  q_callV E hC hw rfl hf1 hf2 ha hty hdep hd rfl (fun r h' hp => by obtain ⟨v, rfl, hq⟩ := hp; exact k v h' hq)
theorem g_cSl4 {v1 v2 v3 v4 : Value} {post : Int64 → PH → Prop} (E : q_Ev C cc nL own al ad FR LO) (hC : q_ConL y cy maxL ret fr lo ty al [v1, v2, v3, v4] h post) (hw : q_CS own idx y cy maxL ret 4) (hf1 : fr + 1 ≤ FR) (hf2 : 8 + (maxL + 11) + lo ≤ LO) (hdep : (rest.map fun v => v.category).sum ≤ 8) (hd : decode cc pc = .ok (.invokestatic idx, 3)) (k : ∀ (v : Int64) (h' : PH), post v h' → gg C ty nL kc ks al ad (pc + 3) ls (.long v :: rest) h') : gg C ty nL kc ks al ad pc ls (v4 :: v3 :: v2 :: v1 :: rest) h :=
  q_callS E hC hw rfl hf1 hf2 hdep hd rfl (fun r h' hp => by obtain ⟨v, rfl, hq⟩ := hp; exact k v h' hq)
theorem g_cVv4 {v1 v2 v3 v4 : Value} {a ci : Nat} {post : PH → Prop} (E : q_Ev C cc nL own al ad FR LO) (hC : q_ConV y cy maxL ret fr lo ty al [.ref a, v1, v2, v3, v4] h post) (hw : q_CV own idx ci y cy maxL ret 4) (hf1 : fr + 1 ≤ FR) (hf2 : 8 + (maxL + 11) + lo ≤ LO) (ha : al a = true) (hty : ty a = .inr ci) (hdep : (rest.map fun v => v.category).sum ≤ 8) (hd : decode cc pc = .ok (.invokevirtual idx, 3)) (k : ∀ (h' : PH), post h' → gg C ty nL kc ks al ad (pc + 3) ls rest h') : gg C ty nL kc ks al ad pc ls (v4 :: v3 :: v2 :: v1 :: .ref a :: rest) h :=
  q_callV E hC hw rfl hf1 hf2 ha hty hdep hd rfl (fun r h' hp => by obtain ⟨rfl, hq⟩ := hp; exact k h' hq)
theorem g_cSv4 {v1 v2 v3 v4 : Value} {post : PH → Prop} (E : q_Ev C cc nL own al ad FR LO) (hC : q_ConV y cy maxL ret fr lo ty al [v1, v2, v3, v4] h post) (hw : q_CS own idx y cy maxL ret 4) (hf1 : fr + 1 ≤ FR) (hf2 : 8 + (maxL + 11) + lo ≤ LO) (hdep : (rest.map fun v => v.category).sum ≤ 8) (hd : decode cc pc = .ok (.invokestatic idx, 3)) (k : ∀ (h' : PH), post h' → gg C ty nL kc ks al ad (pc + 3) ls rest h') : gg C ty nL kc ks al ad pc ls (v4 :: v3 :: v2 :: v1 :: rest) h :=
  q_callS E hC hw rfl hf1 hf2 hdep hd rfl (fun r h' hp => by obtain ⟨rfl, hq⟩ := hp; exact k h' hq)
theorem g_cVi5 {v1 v2 v3 v4 v5 : Value} {a ci : Nat} {post : Int32 → PH → Prop} (E : q_Ev C cc nL own al ad FR LO) (hC : q_ConI y cy maxL ret fr lo ty al [.ref a, v1, v2, v3, v4, v5] h post) (hw : q_CV own idx ci y cy maxL ret 5) (hf1 : fr + 1 ≤ FR) (hf2 : 8 + (maxL + 11) + lo ≤ LO) (ha : al a = true) (hty : ty a = .inr ci) (hdep : (rest.map fun v => v.category).sum ≤ 8) (hd : decode cc pc = .ok (.invokevirtual idx, 3)) (k : ∀ (v : Int32) (h' : PH), post v h' → gg C ty nL kc ks al ad (pc + 3) ls (.int v :: rest) h') : gg C ty nL kc ks al ad pc ls (v5 :: v4 :: v3 :: v2 :: v1 :: .ref a :: rest) h :=
  q_callV E hC hw rfl hf1 hf2 ha hty hdep hd rfl (fun r h' hp => by obtain ⟨v, rfl, hq⟩ := hp; exact k v h' hq)
theorem g_cSi5 {v1 v2 v3 v4 v5 : Value} {post : Int32 → PH → Prop} (E : q_Ev C cc nL own al ad FR LO) (hC : q_ConI y cy maxL ret fr lo ty al [v1, v2, v3, v4, v5] h post) (hw : q_CS own idx y cy maxL ret 5) (hf1 : fr + 1 ≤ FR) (hf2 : 8 + (maxL + 11) + lo ≤ LO) (hdep : (rest.map fun v => v.category).sum ≤ 8) (hd : decode cc pc = .ok (.invokestatic idx, 3)) (k : ∀ (v : Int32) (h' : PH), post v h' → gg C ty nL kc ks al ad (pc + 3) ls (.int v :: rest) h') : gg C ty nL kc ks al ad pc ls (v5 :: v4 :: v3 :: v2 :: v1 :: rest) h :=
  q_callS E hC hw rfl hf1 hf2 hdep hd rfl (fun r h' hp => by obtain ⟨v, rfl, hq⟩ := hp; exact k v h' hq)
theorem g_cVl5 {v1 v2 v3 v4 v5 : Value} {a ci : Nat} {post : Int64 → PH → Prop} (E : q_Ev C cc nL own al ad FR LO) (hC : q_ConL y cy maxL ret fr lo ty al [.ref a, v1, v2, v3, v4, v5] h post) (hw : q_CV own idx ci y cy maxL ret 5) (hf1 : fr + 1 ≤ FR) (hf2 : 8 + (maxL + 11) + lo ≤ LO) (ha : al a = true) (hty : ty a = .inr ci) (hdep : (rest.map fun v => v.category).sum ≤ 8) (hd : decode cc pc = .ok (.invokevirtual idx, 3)) (k : ∀ (v : Int64) (h' : PH), post v h' → gg C ty nL kc ks al ad (pc + 3) ls (.long v :: rest) h') : gg C ty nL kc ks al ad pc ls (v5 :: v4 :: v3 :: v2 :: v1 :: .ref a :: rest) h :=
  q_callV E hC hw rfl hf1 hf2 ha hty hdep hd rfl (fun r h' hp => by obtain ⟨v, rfl, hq⟩ := hp; exact k v h' hq)
theorem g_cSl5 {v1 v2 v3 v4 v5 : Value} {post : Int64 → PH → Prop} (E : q_Ev C cc nL own al ad FR LO) (hC : q_ConL y cy maxL ret fr lo ty al [v1, v2, v3, v4, v5] h post) (hw : q_CS own idx y cy maxL ret 5) (hf1 : fr + 1 ≤ FR) (hf2 : 8 + (maxL + 11) + lo ≤ LO) (hdep : (rest.map fun v => v.category).sum ≤ 8) (hd : decode cc pc = .ok (.invokestatic idx, 3)) (k : ∀ (v : Int64) (h' : PH), post v h' → gg C ty nL kc ks al ad (pc + 3) ls (.long v :: rest) h') : gg C ty nL kc ks al ad pc ls (v5 :: v4 :: v3 :: v2 :: v1 :: rest) h :=
  q_callS E hC hw rfl hf1 hf2 hdep hd rfl (fun r h' hp => by obtain ⟨v, rfl, hq⟩ := hp; exact k v h' hq)
theorem g_cVv5 {v1 v2 v3 v4 v5 : Value} {a ci : Nat} {post : PH → Prop} (E : q_Ev C cc nL own al ad FR LO) (hC : q_ConV y cy maxL ret fr lo ty al [.ref a, v1, v2, v3, v4, v5] h post) (hw : q_CV own idx ci y cy maxL ret 5) (hf1 : fr + 1 ≤ FR) (hf2 : 8 + (maxL + 11) + lo ≤ LO) (ha : al a = true) (hty : ty a = .inr ci) (hdep : (rest.map fun v => v.category).sum ≤ 8) (hd : decode cc pc = .ok (.invokevirtual idx, 3)) (k : ∀ (h' : PH), post h' → gg C ty nL kc ks al ad (pc + 3) ls rest h') : gg C ty nL kc ks al ad pc ls (v5 :: v4 :: v3 :: v2 :: v1 :: .ref a :: rest) h :=
  q_callV E hC hw rfl hf1 hf2 ha hty hdep hd rfl (fun r h' hp => by obtain ⟨rfl, hq⟩ := hp; exact k h' hq)
theorem g_cSv5 {v1 v2 v3 v4 v5 : Value} {post : PH → Prop} (E : q_Ev C cc nL own al ad FR LO) (hC : q_ConV y cy maxL ret fr lo ty al [v1, v2, v3, v4, v5] h post) (hw : q_CS own idx y cy maxL ret 5) (hf1 : fr + 1 ≤ FR) (hf2 : 8 + (maxL + 11) + lo ≤ LO) (hdep : (rest.map fun v => v.category).sum ≤ 8) (hd : decode cc pc = .ok (.invokestatic idx, 3)) (k : ∀ (h' : PH), post h' → gg C ty nL kc ks al ad (pc + 3) ls rest h') : gg C ty nL kc ks al ad pc ls (v5 :: v4 :: v3 :: v2 :: v1 :: rest) h :=
  q_callS E hC hw rfl hf1 hf2 hdep hd rfl (fun r h' hp => by obtain ⟨rfl, hq⟩ := hp; exact k h' hq)
end GN
/-- the reference: name 0 the object, name k the array of its field k -/
def tyM (a : Nat) : PT := match a with
  | 0 => .inr 8
  | 1 => .inl (.int, 4)
  | 2 => .inl (.int, 4)
  | 3 => .inl (.long, 240)
  | 4 => .inl (.long, 60)
  | 15 => .inl (.int, 10)
  | 16 => .inl (.int, 10)
  | 17 => .inl (.int, 10)
  | 18 => .inl (.int, 10)
  | 19 => .inl (.int, 10)
  | 20 => .inl (.int, 10)
  | 21 => .inl (.int, 10)
  | 22 => .inl (.int, 10)
  | 23 => .inl (.int, 10)
  | 24 => .inl (.int, 10)
  | 25 => .inl (.int, 10)
  | 26 => .inl (.int, 10)
  | 27 => .inl (.int, 3)
  | 28 => .inl (.boolean, 3)
  | 29 => .inl (.int, 100)
  | 30 => .inl (.int, 210)
  | 31 => .inl (.long, 10)
  | 32 => .inl (.long, 10)
  | 33 => .inl (.long, 10)
  | 34 => .inl (.int, 50000)
  | 35 => .inl (.int, 5000)
  | 36 => .inl (.int, 5000)
  | 37 => .inl (.int, 5000)
  | 38 => .inl (.int, 10)
  | 39 => .inl (.int, 8192)
  | 40 => .inl (.int, 5000)
  | 41 => .inl (.boolean, 1024)
  | 42 => .inl (.int, 40)
  | 43 => .inl (.int, 40)
  | 44 => .inl (.int, 40)
  | 45 => .inl (.int, 360)
  | 47 => .inl (.int, 10)
  | _ => .inl (.int, 0)
def alM (a : Nat) : Bool := decide (a < 5) || (decide (15 ≤ a) && decide (a ≤ 45)) || a == 47
def rfM (a k : Nat) : Option Nat := if (a == 0 && alM k && k != 0) = true then some k else none
/-- the class: 0 the object, 1 land, 2 legalSets, 3 shelf, 4 inUse, 5 search, 6 tally, then arrays; cell c is c + 40, its waiting c + 60 -/
def tyX (a : Nat) : PT := match a with
  | 0 => .inr 7
  | 1 => .inr 2
  | 2 => .inr 3
  | 3 => .inr 5
  | 4 => .inr 1
  | 5 => .inr 4
  | 6 => .inr 6
  | 7 => .inl (.int, 10)
  | 8 => .inl (.object RX0, 10)
  | 9 => .inl (.int, 3)
  | 10 => .inl (.boolean, 3)
  | 11 => .inl (.boolean, 1024)
  | 12 => .inl (.int, 386)
  | 13 => .inl (.int, 1024)
  | 14 => .inl (.array .long, 4)
  | 15 => .inl (.long, 60)
  | 16 => .inl (.long, 60)
  | 17 => .inl (.long, 60)
  | 18 => .inl (.long, 60)
  | 19 => .inl (.int, 4)
  | 20 => .inl (.int, 4)
  | 21 => .inl (.int, 90)
  | 22 => .inl (.long, 5000)
  | 23 => .inl (.int, 5000)
  | 24 => .inl (.int, 8192)
  | 25 => .inl (.int, 386)
  | 26 => .inl (.long, 386)
  | 27 => .inl (.int, 386)
  | 28 => .inl (.int, 1024)
  | 29 => .inl (.int, 387)
  | 30 => .inl (.long, 8)
  | 31 => .inl (.long, 8)
  | 32 => .inl (.byte, 72)
  | a => if a < 60 then .inr 0 else .inl (.int, 21)
def alX (n : Nat) (sB tB : Bool) (a : Nat) : Bool := decide (a < 5) || (a == 5 && sB) || (a == 6 && tB) || (decide (7 ≤ a) && decide (a ≤ 21)) || (decide (22 ≤ a) && decide (a ≤ 27) && sB) || (decide (28 ≤ a) && decide (a ≤ 32) && tB) || (decide (40 ≤ a) && decide (a < n + 40)) || (decide (60 ≤ a) && decide (a < n + 60))
def rfX (n : Nat) (sB tB : Bool) (a k : Nat) : Option Nat := match a with
  | 0 => match k with
    | 0 => some 1
    | 1 => some 2
    | 2 => some 3
    | 3 => some 4
    | 4 => if sB = true then some 5 else none
    | 5 => if tB = true then some 6 else none
    | 6 => some 7
    | _ => none
  | 1 => match k with
    | 0 => some 8
    | 2 => some 9
    | 3 => some 10
    | _ => none
  | 2 => match k with
    | 0 => some 11
    | 1 => some 12
    | 3 => some 13
    | _ => none
  | 3 => match k with
    | 0 => some 14
    | 1 => some 19
    | 2 => some 20
    | _ => none
  | 4 => match k with
    | 0 => some 21
    | _ => none
  | 5 => match k with
    | 0 => some 22
    | 1 => some 23
    | 3 => some 24
    | 4 => some 25
    | 5 => some 26
    | 6 => some 27
    | _ => none
  | 6 => match k with
    | 0 => some 28
    | 1 => some 29
    | 2 => some 30
    | 3 => some 31
    | 4 => some 32
    | _ => none
  | 8 => if k < n then some (k + 40) else none
  | 14 => if k < 4 then some (k + 15) else none
  | a => if 40 ≤ a ∧ a < 60 ∧ k = 9 then some (a + 20) else none
theorem tyX_c {c : Nat} (h : c < 10) : tyX (c + 40) = .inr 0 := by
  have e : c + 40 < 60 := by omega
  show (if c + 40 < 60 then (Sum.inr 0 : PT) else Sum.inl (.int, 21)) = _
  exact if_pos e
theorem tyX_w {c : Nat} (h : c < 10) : tyX (c + 60) = .inl (.int, 21) := by
  have e : ¬ c + 60 < 60 := by omega
  show (if c + 60 < 60 then (Sum.inr 0 : PT) else Sum.inl (.int, 21)) = _
  exact if_neg e
theorem tyX_p {p : Nat} (h : p < 4) : tyX (p + 15) = .inl (.long, 60) := by
  match p, h with
  | 0, _ => rfl
  | 1, _ => rfl
  | 2, _ => rfl
  | 3, _ => rfl
theorem alX_c {n c : Nat} {sB tB : Bool} (h : c < n) : alX n sB tB (c + 40) = true := by
  have h1 : decide (40 ≤ c + 40) = true := by simp
  have h2 : decide (c + 40 < n + 40) = true := by simp; omega
  simp [alX, h1, h2]
  simp [h]
theorem alX_w {n c : Nat} {sB tB : Bool} (h : c < n) : alX n sB tB (c + 60) = true := by
  simp [alX, h]
theorem alX_p {n p : Nat} {sB tB : Bool} (h : p < 4) : alX n sB tB (p + 15) = true := by
  match p, h with
  | 0, _ => rfl
  | 1, _ => rfl
  | 2, _ => rfl
  | 3, _ => rfl
theorem rfX_c {n c : Nat} {sB tB : Bool} (h : c < n) : rfX n sB tB 8 c = some (c + 40) := if_pos h
theorem rfX_p {n p : Nat} {sB tB : Bool} (h : p < 4) : rfX n sB tB 14 p = some (p + 15) := if_pos h
theorem rfX_w {n c : Nat} {sB tB : Bool} (h : c < 10) : rfX n sB tB (c + 40) 9 = some (c + 60) := by
  show (if 40 ≤ c + 40 ∧ c + 40 < 60 ∧ 9 = 9 then some (c + 40 + 20) else none) = _
  rw [if_pos ⟨by omega, by omega, rfl⟩]
end
section
/-! leaves without a heap -/
def q_b (P : Prop) [Decidable P] : Int32 := if P then 1 else 0
theorem q_b0 {P : Prop} [Decidable P] : q_b P = 0 ↔ ¬ P := by unfold q_b; split <;> simp_all
theorem q_b1 {P : Prop} [Decidable P] : ¬ q_b P = 0 ↔ P := by unfold q_b; split <;> simp_all
theorem q_bn {P : Prop} [Decidable P] : narrow .boolean (.int (q_b P)) = .int (q_b P) := by unfold q_b; split <;> rfl
theorem q_bt {P : Prop} [Decidable P] (h : P) : (1 : Int32) = q_b P := (if_pos h).symm
theorem q_bf {P : Prop} [Decidable P] (h : ¬ P) : (0 : Int32) = q_b P := (if_neg h).symm
theorem q_bi {P Q : Prop} [Decidable P] [Decidable Q] (h : P ↔ Q) : q_b P = q_b Q := by unfold q_b; simp only [h]
theorem q_lt {x y : Int64} (h : lg_cmp x y < 0) : x.toInt < y.toInt := Int64.lt_iff_toInt_lt.mp ((lg_cmp_lt x y).mp h)
theorem q_nlt {x y : Int64} (h : ¬ lg_cmp x y < 0) : y.toInt ≤ x.toInt := by
  rcases Int.lt_or_le x.toInt y.toInt with q | q
  · exact absurd ((lg_cmp_lt x y).mpr (Int64.lt_iff_toInt_lt.mpr q)) h
  · exact q
theorem q_gt {x y : Int64} (h : 0 < lg_cmp x y) : y.toInt < x.toInt := Int64.lt_iff_toInt_lt.mp ((lg_cmp_gt x y).mp h)
theorem q_ngt {x y : Int64} (h : ¬ 0 < lg_cmp x y) : x.toInt ≤ y.toInt := by
  rcases Int.lt_or_le y.toInt x.toInt with q | q
  · exact absurd ((lg_cmp_gt x y).mpr (Int64.lt_iff_toInt_lt.mpr q)) h
  · exact q
theorem q_ilt {x y : Int32} : x < y ↔ x.toInt < y.toInt := Int32.lt_iff_toInt_lt
theorem q_ile {x y : Int32} : x ≤ y ↔ x.toInt ≤ y.toInt := Int32.le_iff_toInt_le
theorem q_ieq {x y : Int32} : x = y ↔ x.toInt = y.toInt := Int32.toInt_inj.symm
set_option maxHeartbeats 4000000 in
set_option maxRecDepth 100000 in
theorem c_X7_isWithin {ty : Nat → PT} {al : Nat → Bool} {h : PH} (v lo hi : Int64) : q_ConI yX7_isWithin cX7_isWithin 6 (some .boolean) 0 0 ty al [.long v, .long lo, .long hi] h (fun r h' => r = q_b (lo.toInt ≤ v.toInt ∧ v.toInt ≤ hi.toInt) ∧ h' = h) := by
  refine q_Con.of RX7 [some (.long v), none, some (.long lo), none, some (.long hi), none] (by decide +kernel) rfl rfl (Nat.le_of_ble_eq_true rfl) (fun C ad E Z => ?_)
  refine g_lload_0 E dX7_isWithin_0 ?_
  refine g_lload_2 E dX7_isWithin_1 ?_
  refine g_lcmp E dX7_isWithin_2 ?_
  refine g_if_lt (tgt := 17) E dX7_isWithin_3 (by decide) (fun c_3 => ?_) (fun c_3 => ?_)
  · have k1 := q_lt c_3
    refine g_iconst (v := 0) E dX7_isWithin_17 (by decide) ?_
    exact g_zret E Z dX7_isWithin_18 rfl ⟨_, rfl, ⟨by first | exact q_bt ⟨by omega, by omega⟩ | exact q_bf (by omega), rfl⟩⟩
  · have k1 := q_nlt c_3
    refine g_lload_0 E dX7_isWithin_6 ?_
    refine g_lload_4 E dX7_isWithin_7 ?_
    refine g_lcmp E dX7_isWithin_9 ?_
    refine g_if_gt (tgt := 17) E dX7_isWithin_10 (by decide) (fun c_10 => ?_) (fun c_10 => ?_)
    · have k2 := q_gt c_10
      refine g_iconst (v := 0) E dX7_isWithin_17 (by decide) ?_
      exact g_zret E Z dX7_isWithin_18 rfl ⟨_, rfl, ⟨by first | exact q_bt ⟨by omega, by omega⟩ | exact q_bf (by omega), rfl⟩⟩
    · have k2 := q_ngt c_10
      refine g_iconst (v := 1) E dX7_isWithin_13 (by decide) ?_
      refine g_goto (tgt := 18) E dX7_isWithin_14 (by decide) ?_
      exact g_zret E Z dX7_isWithin_18 rfl ⟨_, rfl, ⟨by first | exact q_bt ⟨by omega, by omega⟩ | exact q_bf (by omega), rfl⟩⟩
set_option maxHeartbeats 4000000 in
set_option maxRecDepth 100000 in
theorem c_X8_in {ty : Nat → PT} {al : Nat → Bool} {h : PH} (v lo hi : Int64) : q_ConI yX8_in cX8_in 6 (some .boolean) 0 0 ty al [.long v, .long lo, .long hi] h (fun r h' => r = q_b (lo.toInt ≤ v.toInt ∧ v.toInt ≤ hi.toInt) ∧ h' = h) := by
  refine q_Con.of RX8 [some (.long v), none, some (.long lo), none, some (.long hi), none] (by decide +kernel) rfl rfl (Nat.le_of_ble_eq_true rfl) (fun C ad E Z => ?_)
  refine g_lload_0 E dX8_in_0 ?_
  refine g_lload_2 E dX8_in_1 ?_
  refine g_lcmp E dX8_in_2 ?_
  refine g_if_lt (tgt := 17) E dX8_in_3 (by decide) (fun c_3 => ?_) (fun c_3 => ?_)
  · have k1 := q_lt c_3
    refine g_iconst (v := 0) E dX8_in_17 (by decide) ?_
    exact g_zret E Z dX8_in_18 rfl ⟨_, rfl, ⟨by first | exact q_bt ⟨by omega, by omega⟩ | exact q_bf (by omega), rfl⟩⟩
  · have k1 := q_nlt c_3
    refine g_lload_0 E dX8_in_6 ?_
    refine g_lload_4 E dX8_in_7 ?_
    refine g_lcmp E dX8_in_9 ?_
    refine g_if_gt (tgt := 17) E dX8_in_10 (by decide) (fun c_10 => ?_) (fun c_10 => ?_)
    · have k2 := q_gt c_10
      refine g_iconst (v := 0) E dX8_in_17 (by decide) ?_
      exact g_zret E Z dX8_in_18 rfl ⟨_, rfl, ⟨by first | exact q_bt ⟨by omega, by omega⟩ | exact q_bf (by omega), rfl⟩⟩
    · have k2 := q_ngt c_10
      refine g_iconst (v := 1) E dX8_in_13 (by decide) ?_
      refine g_goto (tgt := 18) E dX8_in_14 (by decide) ?_
      exact g_zret E Z dX8_in_18 rfl ⟨_, rfl, ⟨by first | exact q_bt ⟨by omega, by omega⟩ | exact q_bf (by omega), rfl⟩⟩
theorem q_32 (x : Int32) : x.toInt64.toInt = x.toInt := Int32.toInt_toInt64 x
set_option maxHeartbeats 4000000 in
set_option maxRecDepth 100000 in
theorem c_J9_min_7cf53 {ty : Nat → PT} {al : Nat → Bool} {h : PH} (x y : Int32) : q_ConI yJ9_min_7cf53 cJ9_min_7cf53 2 (some .int) 0 0 ty al [.int x, .int y] h (fun r h' => r = (if y < x then y else x) ∧ h' = h) := by
  refine q_Con.of RJ9 [some (.int x), some (.int y)] (by decide +kernel) rfl rfl (Nat.le_of_ble_eq_true rfl) (fun C ad E Z => ?_)
  refine g_iload_0 E dJ9_min_7cf53_0 ?_
  refine g_iload_1 E dJ9_min_7cf53_1 ?_
  refine g_icmp_gt (tgt := 9) E dJ9_min_7cf53_2 (by decide) (fun c_2 => ?_) (fun c_2 => ?_)
  · refine g_iload_1 E dJ9_min_7cf53_9 ?_
    exact g_iret E Z dJ9_min_7cf53_10 ⟨_, rfl, ⟨by first | exact (if_pos (by assumption)).symm | exact (if_neg (by assumption)).symm, rfl⟩⟩
  · refine g_iload_0 E dJ9_min_7cf53_5 ?_
    refine g_goto (tgt := 10) E dJ9_min_7cf53_6 (by decide) ?_
    exact g_iret E Z dJ9_min_7cf53_10 ⟨_, rfl, ⟨by first | exact (if_pos (by assumption)).symm | exact (if_neg (by assumption)).symm, rfl⟩⟩
set_option maxHeartbeats 4000000 in
set_option maxRecDepth 100000 in
theorem c_J9_max_7cf53 {ty : Nat → PT} {al : Nat → Bool} {h : PH} (x y : Int32) : q_ConI yJ9_max_7cf53 cJ9_max_7cf53 2 (some .int) 0 0 ty al [.int x, .int y] h (fun r h' => r = (if x < y then y else x) ∧ h' = h) := by
  refine q_Con.of RJ9 [some (.int x), some (.int y)] (by decide +kernel) rfl rfl (Nat.le_of_ble_eq_true rfl) (fun C ad E Z => ?_)
  refine g_iload_0 E dJ9_max_7cf53_0 ?_
  refine g_iload_1 E dJ9_max_7cf53_1 ?_
  refine g_icmp_lt (tgt := 9) E dJ9_max_7cf53_2 (by decide) (fun c_2 => ?_) (fun c_2 => ?_)
  · refine g_iload_1 E dJ9_max_7cf53_9 ?_
    exact g_iret E Z dJ9_max_7cf53_10 ⟨_, rfl, ⟨by first | exact (if_pos (by assumption)).symm | exact (if_neg (by assumption)).symm, rfl⟩⟩
  · refine g_iload_0 E dJ9_max_7cf53_5 ?_
    refine g_goto (tgt := 10) E dJ9_max_7cf53_6 (by decide) ?_
    exact g_iret E Z dJ9_max_7cf53_10 ⟨_, rfl, ⟨by first | exact (if_pos (by assumption)).symm | exact (if_neg (by assumption)).symm, rfl⟩⟩
set_option maxHeartbeats 4000000 in
set_option maxRecDepth 100000 in
theorem c_J9_max_f86c9 {ty : Nat → PT} {al : Nat → Bool} {h : PH} (x y : Int64) : q_ConL yJ9_max_f86c9 cJ9_max_f86c9 4 (some .long) 0 0 ty al [.long x, .long y] h (fun r h' => r = (if x < y then y else x) ∧ h' = h) := by
  refine q_Con.of RJ9 [some (.long x), none, some (.long y), none] (by decide +kernel) rfl rfl (Nat.le_of_ble_eq_true rfl) (fun C ad E Z => ?_)
  refine g_lload_0 E dJ9_max_f86c9_0 ?_
  refine g_lload_2 E dJ9_max_f86c9_1 ?_
  refine g_lcmp E dJ9_max_f86c9_2 ?_
  refine g_if_lt (tgt := 10) E dJ9_max_f86c9_3 (by decide) (fun c_3 => ?_) (fun c_3 => ?_)
  · have k1 := (lg_cmp_lt _ _).mp c_3
    refine g_lload_2 E dJ9_max_f86c9_10 ?_
    exact g_lret E Z dJ9_max_f86c9_11 ⟨_, rfl, ⟨by first | exact (if_pos k1).symm | exact (if_neg k1).symm, rfl⟩⟩
  · have k1 := fun q => c_3 ((lg_cmp_lt _ _).mpr q)
    refine g_lload_0 E dJ9_max_f86c9_6 ?_
    refine g_goto (tgt := 11) E dJ9_max_f86c9_7 (by decide) ?_
    exact g_lret E Z dJ9_max_f86c9_11 ⟨_, rfl, ⟨by first | exact (if_pos k1).symm | exact (if_neg k1).symm, rfl⟩⟩
def q_bit (s c : Int32) : Int32 := s >>> (c &&& 31) &&& 1
set_option maxHeartbeats 4000000 in
set_option maxRecDepth 100000 in
theorem c_X7_contains {ty : Nat → PT} {al : Nat → Bool} {h : PH} (s c : Int32) : q_ConI yX7_contains cX7_contains 2 (some .boolean) 0 0 ty al [.int s, .int c] h (fun r h' => r = q_b (¬ q_bit s c = 0) ∧ h' = h) := by
  refine q_Con.of RX7 [some (.int s), some (.int c)] (by decide +kernel) rfl rfl (Nat.le_of_ble_eq_true rfl) (fun C ad E Z => ?_)
  refine g_iload_0 E dX7_contains_0 ?_
  refine g_iload_1 E dX7_contains_1 ?_
  refine g_ishr E dX7_contains_2 ?_
  refine g_iconst (v := 1) E dX7_contains_3 (by decide) ?_
  refine g_iand E dX7_contains_4 ?_
  refine g_if_eq (tgt := 12) E dX7_contains_5 (by decide) (fun c_5 => ?_) (fun c_5 => ?_)
  · refine g_iconst (v := 0) E dX7_contains_12 (by decide) ?_
    exact g_zret E Z dX7_contains_13 rfl ⟨_, rfl, ⟨by first | exact q_bt (by assumption) | exact q_bf (not_not_intro (by assumption)), rfl⟩⟩
  · refine g_iconst (v := 1) E dX7_contains_8 (by decide) ?_
    refine g_goto (tgt := 13) E dX7_contains_9 (by decide) ?_
    exact g_zret E Z dX7_contains_13 rfl ⟨_, rfl, ⟨by first | exact q_bt (by assumption) | exact q_bf (not_not_intro (by assumption)), rfl⟩⟩
set_option maxHeartbeats 4000000 in
set_option maxRecDepth 100000 in
theorem c_X8_isPlace {ty : Nat → PT} {al : Nat → Bool} {h : PH} (x : Int32) : q_ConI yX8_isPlace cX8_isPlace 1 (some .boolean) 1 25 ty al [.int x] h (fun r h' => r = q_b (0 ≤ x.toInt ∧ x.toInt ≤ 3) ∧ h' = h) := by
  refine q_Con.of RX8 [some (.int x)] (by decide +kernel) rfl rfl (Nat.le_of_ble_eq_true rfl) (fun C ad E Z => ?_)
  refine g_iload_0 E dX8_isPlace_0 ?_
  refine g_i2l E dX8_isPlace_1 ?_
  refine g_lconst (v := 0) E dX8_isPlace_2 (by decide) ?_
  refine g_ldc2 E kw_X8_140 dX8_isPlace_3 ?_
  refine g_cSi3 E (c_X8_in _ _ _) cw_X8_142 (by decide) (by decide) (by decide) dX8_isPlace_6 (fun v_6 h_6 hp => ?_)
  obtain ⟨rfl, rfl⟩ := hp
  exact g_zret E Z dX8_isPlace_9 q_bn ⟨_, rfl, ⟨q_bi (by rw [q_32]; exact Iff.rfl), rfl⟩⟩
set_option maxHeartbeats 4000000 in
set_option maxRecDepth 100000 in
theorem c_X8_isGate {ty : Nat → PT} {al : Nat → Bool} {h : PH} (x : Int32) : q_ConI yX8_isGate cX8_isGate 1 (some .boolean) 1 25 ty al [.int x] h (fun r h' => r = q_b (0 ≤ x.toInt ∧ x.toInt ≤ 2) ∧ h' = h) := by
  refine q_Con.of RX8 [some (.int x)] (by decide +kernel) rfl rfl (Nat.le_of_ble_eq_true rfl) (fun C ad E Z => ?_)
  refine g_iload_0 E dX8_isGate_0 ?_
  refine g_i2l E dX8_isGate_1 ?_
  refine g_lconst (v := 0) E dX8_isGate_2 (by decide) ?_
  refine g_ldc2 E kw_X8_167 dX8_isGate_3 ?_
  refine g_cSi3 E (c_X8_in _ _ _) cw_X8_142 (by decide) (by decide) (by decide) dX8_isGate_6 (fun v_6 h_6 hp => ?_)
  obtain ⟨rfl, rfl⟩ := hp
  exact g_zret E Z dX8_isGate_9 q_bn ⟨_, rfl, ⟨q_bi (by rw [q_32]; exact Iff.rfl), rfl⟩⟩
set_option maxHeartbeats 4000000 in
set_option maxRecDepth 100000 in
theorem c_X7_isGateway {ty : Nat → PT} {al : Nat → Bool} {h : PH} (x : Int32) : q_ConI yX7_isGateway cX7_isGateway 1 (some .boolean) 1 25 ty al [.int x] h (fun r h' => r = q_b (0 ≤ x.toInt ∧ x.toInt ≤ 2) ∧ h' = h) := by
  refine q_Con.of RX7 [some (.int x)] (by decide +kernel) rfl rfl (Nat.le_of_ble_eq_true rfl) (fun C ad E Z => ?_)
  refine g_iload_0 E dX7_isGateway_0 ?_
  refine g_i2l E dX7_isGateway_1 ?_
  refine g_lconst (v := 0) E dX7_isGateway_2 (by decide) ?_
  refine g_ldc2 E kw_X7_97 dX7_isGateway_3 ?_
  refine g_cSi3 E (c_X7_isWithin _ _ _) cw_X7_47 (by decide) (by decide) (by decide) dX7_isGateway_6 (fun v_6 h_6 hp => ?_)
  obtain ⟨rfl, rfl⟩ := hp
  exact g_zret E Z dX7_isGateway_9 q_bn ⟨_, rfl, ⟨q_bi (by rw [q_32]; exact Iff.rfl), rfl⟩⟩
set_option maxHeartbeats 4000000 in
set_option maxRecDepth 100000 in
theorem c_X5_isPlace {ty : Nat → PT} {al : Nat → Bool} {h : PH} (x : Int32) : q_ConI yX5_isPlace cX5_isPlace 1 (some .boolean) 0 0 ty al [.int x] h (fun r h' => r = q_b (0 ≤ x.toInt ∧ x.toInt ≤ 3) ∧ h' = h) := by
  refine q_Con.of RX5 [some (.int x)] (by decide +kernel) rfl rfl (Nat.le_of_ble_eq_true rfl) (fun C ad E Z => ?_)
  refine g_iload_0 E dX5_isPlace_0 ?_
  refine g_if_lt (tgt := 13) E dX5_isPlace_1 (by decide) (fun c_1 => ?_) (fun c_1 => ?_)
  · simp only [q_ilt, q_ile, Int32.reduceToInt, Int32.toInt_zero] at c_1
    refine g_iconst (v := 0) E dX5_isPlace_13 (by decide) ?_
    exact g_zret E Z dX5_isPlace_14 rfl ⟨_, rfl, ⟨by first | exact q_bt ⟨by omega, by omega⟩ | exact q_bf (by omega), rfl⟩⟩
  · simp only [q_ilt, q_ile, Int32.reduceToInt, Int32.toInt_zero] at c_1
    refine g_iload_0 E dX5_isPlace_4 ?_
    refine g_iconst (v := 4) E dX5_isPlace_5 (by decide) ?_
    refine g_icmp_ge (tgt := 13) E dX5_isPlace_6 (by decide) (fun c_6 => ?_) (fun c_6 => ?_)
    · simp only [q_ilt, q_ile, Int32.reduceToInt, Int32.toInt_zero] at c_6
      refine g_iconst (v := 0) E dX5_isPlace_13 (by decide) ?_
      exact g_zret E Z dX5_isPlace_14 rfl ⟨_, rfl, ⟨by first | exact q_bt ⟨by omega, by omega⟩ | exact q_bf (by omega), rfl⟩⟩
    · simp only [q_ilt, q_ile, Int32.reduceToInt, Int32.toInt_zero] at c_6
      refine g_iconst (v := 1) E dX5_isPlace_9 (by decide) ?_
      refine g_goto (tgt := 14) E dX5_isPlace_10 (by decide) ?_
      exact g_zret E Z dX5_isPlace_14 rfl ⟨_, rfl, ⟨by first | exact q_bt ⟨by omega, by omega⟩ | exact q_bf (by omega), rfl⟩⟩
end
section
/-! the reference: its small methods -/
theorem c_X8_inI {ty : Nat → PT} {al : Nat → Bool} {h : PH} (x : Int32) (lo hi : Int64) (a b : Int) (ha : lo.toInt = a) (hb : hi.toInt = b) : q_ConI yX8_in cX8_in 6 (some .boolean) 0 0 ty al [.long x.toInt64, .long lo, .long hi] h (fun r h' => r = q_b (a ≤ x.toInt ∧ x.toInt ≤ b) ∧ h' = h) := by
  have k := c_X8_in (ty := ty) (al := al) (h := h) x.toInt64 lo hi
  rw [q_32, ha, hb] at k
  exact k
theorem c_X7_isWithinI {ty : Nat → PT} {al : Nat → Bool} {h : PH} (x : Int32) (lo hi : Int64) (a b : Int) (ha : lo.toInt = a) (hb : hi.toInt = b) : q_ConI yX7_isWithin cX7_isWithin 6 (some .boolean) 0 0 ty al [.long x.toInt64, .long lo, .long hi] h (fun r h' => r = q_b (a ≤ x.toInt ∧ x.toInt ≤ b) ∧ h' = h) := by
  have k := c_X7_isWithin (ty := ty) (al := al) (h := h) x.toInt64 lo hi
  rw [q_32, ha, hb] at k
  exact k
theorem q_pred {n : Nat} (h : n < 1000) : (nI n - 1).toInt = (n : Int) - 1 := pk_sub_toInt (a := n) (b := 1) (by omega) (by omega)
def q_cut (u : Int32) (v : Int64) : Int64 := if u = 0 then v.toInt32.toInt8.toInt32.toInt64 else if u = 1 then v.toInt32.toInt16.toInt32.toInt64 else if u = 2 then v.toInt32.toInt64 else v
set_option maxHeartbeats 4000000 in
set_option maxRecDepth 100000 in
theorem c_X8_cut {ty : Nat → PT} {al : Nat → Bool} {h : PH} (u : Int32) (v : Int64) : q_ConL yX8_cut cX8_cut 3 (some .long) 0 0 ty al [.int u, .long v] h (fun r h' => r = q_cut u v ∧ h' = h) := by
  refine q_Con.of RX8 [some (.int u), some (.long v), none] (by decide +kernel) rfl rfl (Nat.le_of_ble_eq_true rfl) (fun C ad E Z => ?_)
  refine g_iload_0 E dX8_cut_0 ?_
  refine g_if_ne (tgt := 11) E dX8_cut_1 (by decide) (fun c_1 => ?_) (fun c_1 => ?_)
  · refine g_iload_0 E dX8_cut_11 ?_
    refine g_iconst (v := 1) E dX8_cut_12 (by decide) ?_
    refine g_icmp_ne (tgt := 23) E dX8_cut_13 (by decide) (fun c_13 => ?_) (fun c_13 => ?_)
    · refine g_iload_0 E dX8_cut_23 ?_
      refine g_iconst (v := 2) E dX8_cut_24 (by decide) ?_
      refine g_icmp_ne (tgt := 34) E dX8_cut_25 (by decide) (fun c_25 => ?_) (fun c_25 => ?_)
      · refine g_lload_1 E dX8_cut_34 ?_
        exact g_lret E Z dX8_cut_35 ⟨_, rfl, ⟨by unfold q_cut; simp [*], rfl⟩⟩
      · refine g_lload_1 E dX8_cut_28 ?_
        refine g_l2i E dX8_cut_29 ?_
        refine g_i2l E dX8_cut_30 ?_
        refine g_goto (tgt := 35) E dX8_cut_31 (by decide) ?_
        exact g_lret E Z dX8_cut_35 ⟨_, rfl, ⟨by unfold q_cut; simp [*], rfl⟩⟩
    · refine g_lload_1 E dX8_cut_16 ?_
      refine g_l2i E dX8_cut_17 ?_
      refine g_i2s E dX8_cut_18 ?_
      refine g_i2l E dX8_cut_19 ?_
      refine g_goto (tgt := 35) E dX8_cut_20 (by decide) ?_
      exact g_lret E Z dX8_cut_35 ⟨_, rfl, ⟨by unfold q_cut; simp [*], rfl⟩⟩
  · refine g_lload_1 E dX8_cut_4 ?_
    refine g_l2i E dX8_cut_5 ?_
    refine g_i2b E dX8_cut_6 ?_
    refine g_i2l E dX8_cut_7 ?_
    refine g_goto (tgt := 35) E dX8_cut_8 (by decide) ?_
    exact g_lret E Z dX8_cut_35 ⟨_, rfl, ⟨by unfold q_cut; simp [*], rfl⟩⟩
set_option maxHeartbeats 4000000 in
set_option maxRecDepth 100000 in
theorem c_X8_isCell {f : Nat → Nat → Int32} {g : Nat → Nat → Int64} (n : Nat) (hn : f 0 5 = nI n) (h10 : n ≤ 10) (x : Int32) : q_ConI yX8_isCell cX8_isCell 2 (some .boolean) 1 25 tyM alM [.ref 0, .int x] (f, g, rfM) (fun r h' => r = q_b (0 ≤ x.toInt ∧ x.toInt < n) ∧ h' = (f, g, rfM)) := by
  refine q_Con.of RX8 [some (.ref 0), some (.int x)] (by decide +kernel) rfl rfl (Nat.le_of_ble_eq_true rfl) (fun C ad E Z => ?_)
  refine g_iload_1 E dX8_isCell_0 ?_
  refine g_i2l E dX8_isCell_1 ?_
  refine g_lconst (v := 0) E dX8_isCell_2 (by decide) ?_
  refine g_aload_0 E dX8_isCell_3 ?_
  refine g_getI E (by first | rfl | assumption) (by first | rfl | assumption) fl_X8_154 rfl dX8_isCell_4 ?_
  refine g_iconst (v := 1) E dX8_isCell_7 (by decide) ?_
  refine g_isub E dX8_isCell_8 ?_
  refine g_i2l E dX8_isCell_9 ?_
  refine g_cSi3 E (c_X8_in _ _ _) cw_X8_142 (by decide) (by decide) (by decide) dX8_isCell_10 (fun v_10 h_10 hp => ?_)
  obtain ⟨rfl, rfl⟩ := hp
  exact g_zret E Z dX8_isCell_13 q_bn ⟨_, rfl, ⟨q_bi (by rw [q_32, q_32, hn, q_pred (by omega)]; show (0 : Int) ≤ _ ∧ _ ↔ _; omega), rfl⟩⟩
theorem q_pow : ∀ n, n < 11 → ((1 : Int64) <<< ((nI n).toInt64 &&& 63) - 1).toInt = 2 ^ n - 1 := by decide +kernel
set_option maxHeartbeats 4000000 in
set_option maxRecDepth 100000 in
theorem c_X8_isSet {f : Nat → Nat → Int32} {g : Nat → Nat → Int64} (n : Nat) (hn : f 0 5 = nI n) (h10 : n ≤ 10) (x : Int64) : q_ConI yX8_isSet cX8_isSet 3 (some .boolean) 1 25 tyM alM [.ref 0, .long x] (f, g, rfM) (fun r h' => r = q_b (0 ≤ x.toInt ∧ x.toInt < 2 ^ n) ∧ h' = (f, g, rfM)) := by
  refine q_Con.of RX8 [some (.ref 0), some (.long x), none] (by decide +kernel) rfl rfl (Nat.le_of_ble_eq_true rfl) (fun C ad E Z => ?_)
  refine g_lload_1 E dX8_isSet_0 ?_
  refine g_lconst (v := 0) E dX8_isSet_1 (by decide) ?_
  refine g_lconst (v := 1) E dX8_isSet_2 (by decide) ?_
  refine g_aload_0 E dX8_isSet_3 ?_
  refine g_getI E (by first | rfl | assumption) (by first | rfl | assumption) fl_X8_154 rfl dX8_isSet_4 ?_
  refine g_lshl E dX8_isSet_7 ?_
  refine g_lconst (v := 1) E dX8_isSet_8 (by decide) ?_
  refine g_lsub E dX8_isSet_9 ?_
  refine g_cSi3 E (c_X8_in _ _ _) cw_X8_142 (by decide) (by decide) (by decide) dX8_isSet_10 (fun v_10 h_10 hp => ?_)
  obtain ⟨rfl, rfl⟩ := hp
  exact g_zret E Z dX8_isSet_13 q_bn ⟨_, rfl, ⟨q_bi (by rw [hn, q_pow n (by omega)]; show (0 : Int) ≤ _ ∧ _ ↔ _; omega), rfl⟩⟩
set_option maxHeartbeats 4000000 in
set_option maxRecDepth 100000 in
theorem c_X8_terms {f : Nat → Nat → Int32} {g : Nat → Nat → Int64} (ht : f 0 0 = 0) (b l t d : Int32) : q_ConI yX8_terms cX8_terms 5 (some .int) 1 25 tyM alM [.ref 0, .int b, .int l, .int t, .int d] (f, g, rfM) (fun v h' => (((1 ≤ b.toInt ∧ b.toInt ≤ 4) ∧ (1 ≤ l.toInt ∧ l.toInt ≤ 1000) ∧ (1 ≤ t.toInt ∧ t.toInt ≤ 20) ∧ (0 ≤ d.toInt ∧ d.toInt ≤ 9)) ∧ v = 0 ∧ h' = (q_up (q_up (q_up (q_up f 0 6 b) 0 7 l) 0 8 t) 0 9 d, g, rfM)) ∨ (¬ ((1 ≤ b.toInt ∧ b.toInt ≤ 4) ∧ (1 ≤ l.toInt ∧ l.toInt ≤ 1000) ∧ (1 ≤ t.toInt ∧ t.toInt ≤ 20) ∧ (0 ≤ d.toInt ∧ d.toInt ≤ 9)) ∧ v = -2 ∧ h' = (f, g, rfM))) := by
  refine q_Con.of RX8 [some (.ref 0), some (.int b), some (.int l), some (.int t), some (.int d)] (by decide +kernel) rfl rfl (Nat.le_of_ble_eq_true rfl) (fun C ad E Z => ?_)
  refine g_aload_0 E dX8_terms_0 ?_
  refine g_iconst (v := 0) E dX8_terms_1 (by decide) ?_
  refine g_putI E (by first | rfl | assumption) (by first | rfl | assumption) fw_X8_137 rfl dX8_terms_2 ?_
  rw [q_up_same ht]
  refine g_iload_1 E dX8_terms_5 ?_
  refine g_i2l E dX8_terms_6 ?_
  refine g_lconst (v := 1) E dX8_terms_7 (by decide) ?_
  refine g_ldc2 E kw_X8_157 dX8_terms_8 ?_
  refine g_cSi3 E (c_X8_inI _ _ _ (1) (4) (by decide) (by decide)) cw_X8_142 (by decide) (by decide) (by decide) dX8_terms_11 (fun v_11 h_11 hp => ?_)
  obtain ⟨rfl, rfl⟩ := hp
  refine g_if_eq (tgt := 54) E dX8_terms_14 (by decide) (fun c_14 => ?_) (fun c_14 => ?_)
  · have k_14 := q_b0.mp c_14
    refine g_bipush (v := -2) E dX8_terms_54 (by decide) ?_
    exact g_iret E Z dX8_terms_56 ⟨_, rfl, Or.inr ⟨by omega, rfl, rfl⟩⟩
  · have k_14 := q_b1.mp c_14
    refine g_iload_2 E dX8_terms_17 ?_
    refine g_i2l E dX8_terms_18 ?_
    refine g_lconst (v := 1) E dX8_terms_19 (by decide) ?_
    refine g_ldc2 E kw_X8_159 dX8_terms_20 ?_
    refine g_cSi3 E (c_X8_inI _ _ _ (1) (1000) (by decide) (by decide)) cw_X8_142 (by decide) (by decide) (by decide) dX8_terms_23 (fun v_23 h_23 hp => ?_)
    obtain ⟨rfl, rfl⟩ := hp
    refine g_if_eq (tgt := 54) E dX8_terms_26 (by decide) (fun c_26 => ?_) (fun c_26 => ?_)
    · have k_26 := q_b0.mp c_26
      refine g_bipush (v := -2) E dX8_terms_54 (by decide) ?_
      exact g_iret E Z dX8_terms_56 ⟨_, rfl, Or.inr ⟨by omega, rfl, rfl⟩⟩
    · have k_26 := q_b1.mp c_26
      refine g_iload_3 E dX8_terms_29 ?_
      refine g_i2l E dX8_terms_30 ?_
      refine g_lconst (v := 1) E dX8_terms_31 (by decide) ?_
      refine g_ldc2 E kw_X8_161 dX8_terms_32 ?_
      refine g_cSi3 E (c_X8_inI _ _ _ (1) (20) (by decide) (by decide)) cw_X8_142 (by decide) (by decide) (by decide) dX8_terms_35 (fun v_35 h_35 hp => ?_)
      obtain ⟨rfl, rfl⟩ := hp
      refine g_if_eq (tgt := 54) E dX8_terms_38 (by decide) (fun c_38 => ?_) (fun c_38 => ?_)
      · have k_38 := q_b0.mp c_38
        refine g_bipush (v := -2) E dX8_terms_54 (by decide) ?_
        exact g_iret E Z dX8_terms_56 ⟨_, rfl, Or.inr ⟨by omega, rfl, rfl⟩⟩
      · have k_38 := q_b1.mp c_38
        refine g_iload_4 E dX8_terms_41 ?_
        refine g_i2l E dX8_terms_43 ?_
        refine g_lconst (v := 0) E dX8_terms_44 (by decide) ?_
        refine g_ldc2 E kw_X8_163 dX8_terms_45 ?_
        refine g_cSi3 E (c_X8_inI _ _ _ (0) (9) (by decide) (by decide)) cw_X8_142 (by decide) (by decide) (by decide) dX8_terms_48 (fun v_48 h_48 hp => ?_)
        obtain ⟨rfl, rfl⟩ := hp
        refine g_if_ne (tgt := 57) E dX8_terms_51 (by decide) (fun c_51 => ?_) (fun c_51 => ?_)
        · have k_51 := q_b1.mp c_51
          refine g_aload_0 E dX8_terms_57 ?_
          refine g_iload_1 E dX8_terms_58 ?_
          refine g_putI E (by first | rfl | assumption) (by first | rfl | assumption) fw_X8_23 rfl dX8_terms_59 ?_
          refine g_aload_0 E dX8_terms_62 ?_
          refine g_iload_2 E dX8_terms_63 ?_
          refine g_putI E (by first | rfl | assumption) (by first | rfl | assumption) fw_X8_27 rfl dX8_terms_64 ?_
          refine g_aload_0 E dX8_terms_67 ?_
          refine g_iload_3 E dX8_terms_68 ?_
          refine g_putI E (by first | rfl | assumption) (by first | rfl | assumption) fw_X8_30 rfl dX8_terms_69 ?_
          refine g_aload_0 E dX8_terms_72 ?_
          refine g_iload_4 E dX8_terms_73 ?_
          refine g_putI E (by first | rfl | assumption) (by first | rfl | assumption) fw_X8_33 rfl dX8_terms_75 ?_
          refine g_iconst (v := 0) E dX8_terms_78 (by decide) ?_
          exact g_iret E Z dX8_terms_79 ⟨_, rfl, Or.inl ⟨by omega, rfl, rfl⟩⟩
        · have k_51 := q_b0.mp c_51
          refine g_bipush (v := -2) E dX8_terms_54 (by decide) ?_
          exact g_iret E Z dX8_terms_56 ⟨_, rfl, Or.inr ⟨by omega, rfl, rfl⟩⟩
set_option maxHeartbeats 4000000 in
set_option maxRecDepth 100000 in
theorem c_X8_cell {f : Nat → Nat → Int32} {g : Nat → Nat → Int64} (ht : f 0 0 = 0) (n : Nat) (hn : f 0 5 = nI n) (h10 : n ≤ 10) (p q u d : Int32) : q_ConI yX8_cell cX8_cell 5 (some .int) 1 25 tyM alM [.ref 0, .int p, .int q, .int u, .int d] (f, g, rfM) (fun v h' => (((1 ≤ p.toInt ∧ p.toInt ≤ 100) ∧ (1 ≤ q.toInt ∧ q.toInt ≤ 1000) ∧ (1 ≤ u.toInt ∧ u.toInt ≤ 9) ∧ (0 ≤ d.toInt ∧ d.toInt ≤ 2)) ∧ n < 10 ∧ v = nI n ∧ h' = (q_up (q_up (q_up (q_up (q_up f 15 n p) 16 n q) 17 n u) 18 n d) 0 5 (nI (n + 1)), g, rfM)) ∨ (((1 ≤ p.toInt ∧ p.toInt ≤ 100) ∧ (1 ≤ q.toInt ∧ q.toInt ≤ 1000) ∧ (1 ≤ u.toInt ∧ u.toInt ≤ 9) ∧ (0 ≤ d.toInt ∧ d.toInt ≤ 2)) ∧ n = 10 ∧ v = -3 ∧ h' = (f, g, rfM)) ∨ (¬ ((1 ≤ p.toInt ∧ p.toInt ≤ 100) ∧ (1 ≤ q.toInt ∧ q.toInt ≤ 1000) ∧ (1 ≤ u.toInt ∧ u.toInt ≤ 9) ∧ (0 ≤ d.toInt ∧ d.toInt ≤ 2)) ∧ v = -2 ∧ h' = (f, g, rfM))) := by
  refine q_Con.of RX8 [some (.ref 0), some (.int p), some (.int q), some (.int u), some (.int d)] (by decide +kernel) rfl rfl (Nat.le_of_ble_eq_true rfl) (fun C ad E Z => ?_)
  refine g_aload_0 E dX8_cell_0 ?_
  refine g_iconst (v := 0) E dX8_cell_1 (by decide) ?_
  refine g_putI E (by first | rfl | assumption) (by first | rfl | assumption) fw_X8_137 rfl dX8_cell_2 ?_
  rw [q_up_same ht]
  refine g_iload_1 E dX8_cell_5 ?_
  refine g_i2l E dX8_cell_6 ?_
  refine g_lconst (v := 1) E dX8_cell_7 (by decide) ?_
  refine g_ldc2 E kw_X8_165 dX8_cell_8 ?_
  refine g_cSi3 E (c_X8_inI _ _ _ (1) (100) (by decide) (by decide)) cw_X8_142 (by decide) (by decide) (by decide) dX8_cell_11 (fun v_11 h_11 hp => ?_)
  obtain ⟨rfl, rfl⟩ := hp
  refine g_if_eq (tgt := 54) E dX8_cell_14 (by decide) (fun c_14 => ?_) (fun c_14 => ?_)
  · have k_14 := q_b0.mp c_14
    refine g_bipush (v := -2) E dX8_cell_54 (by decide) ?_
    exact g_iret E Z dX8_cell_56 ⟨_, rfl, Or.inr (Or.inr ⟨by omega, rfl, rfl⟩)⟩
  · have k_14 := q_b1.mp c_14
    refine g_iload_2 E dX8_cell_17 ?_
    refine g_i2l E dX8_cell_18 ?_
    refine g_lconst (v := 1) E dX8_cell_19 (by decide) ?_
    refine g_ldc2 E kw_X8_159 dX8_cell_20 ?_
    refine g_cSi3 E (c_X8_inI _ _ _ (1) (1000) (by decide) (by decide)) cw_X8_142 (by decide) (by decide) (by decide) dX8_cell_23 (fun v_23 h_23 hp => ?_)
    obtain ⟨rfl, rfl⟩ := hp
    refine g_if_eq (tgt := 54) E dX8_cell_26 (by decide) (fun c_26 => ?_) (fun c_26 => ?_)
    · have k_26 := q_b0.mp c_26
      refine g_bipush (v := -2) E dX8_cell_54 (by decide) ?_
      exact g_iret E Z dX8_cell_56 ⟨_, rfl, Or.inr (Or.inr ⟨by omega, rfl, rfl⟩)⟩
    · have k_26 := q_b1.mp c_26
      refine g_iload_3 E dX8_cell_29 ?_
      refine g_i2l E dX8_cell_30 ?_
      refine g_lconst (v := 1) E dX8_cell_31 (by decide) ?_
      refine g_ldc2 E kw_X8_163 dX8_cell_32 ?_
      refine g_cSi3 E (c_X8_inI _ _ _ (1) (9) (by decide) (by decide)) cw_X8_142 (by decide) (by decide) (by decide) dX8_cell_35 (fun v_35 h_35 hp => ?_)
      obtain ⟨rfl, rfl⟩ := hp
      refine g_if_eq (tgt := 54) E dX8_cell_38 (by decide) (fun c_38 => ?_) (fun c_38 => ?_)
      · have k_38 := q_b0.mp c_38
        refine g_bipush (v := -2) E dX8_cell_54 (by decide) ?_
        exact g_iret E Z dX8_cell_56 ⟨_, rfl, Or.inr (Or.inr ⟨by omega, rfl, rfl⟩)⟩
      · have k_38 := q_b1.mp c_38
        refine g_iload_4 E dX8_cell_41 ?_
        refine g_i2l E dX8_cell_43 ?_
        refine g_lconst (v := 0) E dX8_cell_44 (by decide) ?_
        refine g_ldc2 E kw_X8_167 dX8_cell_45 ?_
        refine g_cSi3 E (c_X8_inI _ _ _ (0) (2) (by decide) (by decide)) cw_X8_142 (by decide) (by decide) (by decide) dX8_cell_48 (fun v_48 h_48 hp => ?_)
        obtain ⟨rfl, rfl⟩ := hp
        refine g_if_ne (tgt := 57) E dX8_cell_51 (by decide) (fun c_51 => ?_) (fun c_51 => ?_)
        · have k_51 := q_b1.mp c_51
          refine g_aload_0 E dX8_cell_57 ?_
          refine g_getI E (by first | rfl | assumption) (by first | rfl | assumption) fl_X8_154 rfl dX8_cell_58 ?_
          refine g_bipush (v := 10) E dX8_cell_61 (by decide) ?_
          refine g_icmp_ne (tgt := 69) E dX8_cell_63 (by decide) (fun c_63 => ?_) (fun c_63 => ?_)
          · have k_63 : n < 10 := by
              rcases Nat.lt_or_ge n 10 with z | z
              · exact z
              · exact absurd (by rw [hn, show n = 10 by omega]; rfl) c_63
            refine g_aload_0 E dX8_cell_69 ?_
            refine g_getR E (by first | rfl | assumption) (by first | rfl | assumption) fl_X8_39 rfl (by first | rfl | assumption) dX8_cell_70 ?_
            refine g_aload_0 E dX8_cell_73 ?_
            refine g_getI E (by first | rfl | assumption) (by first | rfl | assumption) fl_X8_154 rfl dX8_cell_74 ?_
            refine g_iload_1 E dX8_cell_77 ?_
            refine g_iast E (by first | rfl | assumption) (by first | rfl | assumption) dX8_cell_78 (q_ix_e (j := n) hn (by omega)) ?_
            refine g_aload_0 E dX8_cell_79 ?_
            refine g_getR E (by first | rfl | assumption) (by first | rfl | assumption) fl_X8_42 rfl (by first | rfl | assumption) dX8_cell_80 ?_
            refine g_aload_0 E dX8_cell_83 ?_
            refine g_getI E (by first | rfl | assumption) (by first | rfl | assumption) fl_X8_154 rfl dX8_cell_84 ?_
            refine g_iload_2 E dX8_cell_87 ?_
            refine g_iast E (by first | rfl | assumption) (by first | rfl | assumption) dX8_cell_88 (q_ix_e (j := n) hn (by omega)) ?_
            refine g_aload_0 E dX8_cell_89 ?_
            refine g_getR E (by first | rfl | assumption) (by first | rfl | assumption) fl_X8_45 rfl (by first | rfl | assumption) dX8_cell_90 ?_
            refine g_aload_0 E dX8_cell_93 ?_
            refine g_getI E (by first | rfl | assumption) (by first | rfl | assumption) fl_X8_154 rfl dX8_cell_94 ?_
            refine g_iload_3 E dX8_cell_97 ?_
            refine g_iast E (by first | rfl | assumption) (by first | rfl | assumption) dX8_cell_98 (q_ix_e (j := n) hn (by omega)) ?_
            refine g_aload_0 E dX8_cell_99 ?_
            refine g_getR E (by first | rfl | assumption) (by first | rfl | assumption) fl_X8_48 rfl (by first | rfl | assumption) dX8_cell_100 ?_
            refine g_aload_0 E dX8_cell_103 ?_
            refine g_getI E (by first | rfl | assumption) (by first | rfl | assumption) fl_X8_154 rfl dX8_cell_104 ?_
            refine g_iload_4 E dX8_cell_107 ?_
            refine g_iast E (by first | rfl | assumption) (by first | rfl | assumption) dX8_cell_109 (q_ix_e (j := n) hn (by omega)) ?_
            refine g_aload_0 E dX8_cell_110 ?_
            first | refine g_dupi E dX8_cell_111 ?_ | refine g_dupr E dX8_cell_111 ?_
            refine g_getI E (by first | rfl | assumption) (by first | rfl | assumption) fl_X8_154 rfl dX8_cell_112 ?_
            refine g_iconst (v := 1) E dX8_cell_115 (by decide) ?_
            refine g_iadd E dX8_cell_116 ?_
            refine g_putI E (by first | rfl | assumption) (by first | rfl | assumption) fw_X8_154 rfl dX8_cell_117 ?_
            refine g_aload_0 E dX8_cell_120 ?_
            refine g_getI E (by first | rfl | assumption) (by first | rfl | assumption) fl_X8_154 rfl dX8_cell_121 ?_
            refine g_iconst (v := 1) E dX8_cell_124 (by decide) ?_
            refine g_isub E dX8_cell_125 ?_
            exact g_iret E Z dX8_cell_126 ⟨_, rfl, Or.inl ⟨by omega, k_63, (by rw [q_ups]; show f 0 5 + 1 - 1 = _; rw [hn, ← nI_succ, nI_pred]), (by show (q_up _ 0 5 (f 0 5 + 1), _, _) = _; rw [hn, ← nI_succ])⟩⟩
          · have k_63 : n = 10 := (nI_eq (by omega) (by omega)).mp (hn.symm.trans c_63)
            refine g_bipush (v := -3) E dX8_cell_66 (by decide) ?_
            exact g_iret E Z dX8_cell_68 ⟨_, rfl, Or.inr (Or.inl ⟨by omega, k_63, rfl, rfl⟩)⟩
        · have k_51 := q_b0.mp c_51
          refine g_bipush (v := -2) E dX8_cell_54 (by decide) ?_
          exact g_iret E Z dX8_cell_56 ⟨_, rfl, Or.inr (Or.inr ⟨by omega, rfl, rfl⟩)⟩
set_option maxHeartbeats 4000000 in
set_option maxRecDepth 100000 in
theorem c_X8_rain {f : Nat → Nat → Int32} {g : Nat → Nat → Int64} (ht : f 0 0 = 0) (n : Nat) (hn : f 0 5 = nI n) (h10 : n ≤ 10) (c x : Int32) : q_ConI yX8_rain cX8_rain 4 (some .int) 2 46 tyM alM [.ref 0, .int c, .int x] (f, g, rfM) (fun v h' => (∃ j : Nat, j < n ∧ c = nI j ∧ (0 ≤ x.toInt ∧ x.toInt ≤ 2) ∧ v = f 22 j ∧ h' = (q_up f 22 j x, g, rfM)) ∨ (¬ ((0 ≤ c.toInt ∧ c.toInt < n) ∧ (0 ≤ x.toInt ∧ x.toInt ≤ 2)) ∧ v = -2 ∧ h' = (f, g, rfM))) := by
  refine q_Con.of RX8 [some (.ref 0), some (.int c), some (.int x), none] (by decide +kernel) rfl rfl (Nat.le_of_ble_eq_true rfl) (fun C ad E Z => ?_)
  refine g_aload_0 E dX8_rain_0 ?_
  refine g_iconst (v := 0) E dX8_rain_1 (by decide) ?_
  refine g_putI E (by first | rfl | assumption) (by first | rfl | assumption) fw_X8_137 rfl dX8_rain_2 ?_
  rw [q_up_same ht]
  refine g_aload_0 E dX8_rain_5 ?_
  refine g_iload_1 E dX8_rain_6 ?_
  refine g_cVi1 E (c_X8_isCell n hn h10 _) cw_X8_169 (by decide) (by decide) (by first | rfl | assumption) (by first | rfl | assumption) (by decide) dX8_rain_7 (fun v_7 h_7 hp => ?_)
  obtain ⟨rfl, rfl⟩ := hp
  refine g_if_eq (tgt := 25) E dX8_rain_10 (by decide) (fun c_10 => ?_) (fun c_10 => ?_)
  · have k_10 := q_b0.mp c_10
    refine g_bipush (v := -2) E dX8_rain_25 (by decide) ?_
    exact g_iret E Z dX8_rain_27 ⟨_, rfl, Or.inr ⟨by omega, rfl, rfl⟩⟩
  · have k_10 := q_b1.mp c_10
    refine g_iload_2 E dX8_rain_13 ?_
    refine g_i2l E dX8_rain_14 ?_
    refine g_lconst (v := 0) E dX8_rain_15 (by decide) ?_
    refine g_ldc2 E kw_X8_167 dX8_rain_16 ?_
    refine g_cSi3 E (c_X8_inI _ _ _ (0) (2) (by decide) (by decide)) cw_X8_142 (by decide) (by decide) (by decide) dX8_rain_19 (fun v_19 h_19 hp => ?_)
    obtain ⟨rfl, rfl⟩ := hp
    refine g_if_ne (tgt := 28) E dX8_rain_22 (by decide) (fun c_22 => ?_) (fun c_22 => ?_)
    · have k_22 := q_b1.mp c_22
      obtain ⟨j, hj, rfl⟩ := q_nat (b := n - 1) k_10.1 (by omega)
      have hjn : j < n := by have := k_10.2; rw [nI_toInt (by omega)] at this; omega
      refine g_aload_0 E dX8_rain_28 ?_
      refine g_getR E (by first | rfl | assumption) (by first | rfl | assumption) fl_X8_60 rfl (by first | rfl | assumption) dX8_rain_29 ?_
      refine g_iload_1 E dX8_rain_32 ?_
      refine g_iald E (by first | rfl | assumption) (by first | rfl | assumption) dX8_rain_33 (q_ix_n (by omega)) ?_
      refine g_istore_3 E dX8_rain_34 (by decide) rfl ?_
      refine g_aload_0 E dX8_rain_35 ?_
      refine g_getR E (by first | rfl | assumption) (by first | rfl | assumption) fl_X8_60 rfl (by first | rfl | assumption) dX8_rain_36 ?_
      refine g_iload_1 E dX8_rain_39 ?_
      refine g_iload_2 E dX8_rain_40 ?_
      refine g_iast E (by first | rfl | assumption) (by first | rfl | assumption) dX8_rain_41 (q_ix_n (by omega)) ?_
      refine g_iload_3 E dX8_rain_42 ?_
      exact g_iret E Z dX8_rain_43 ⟨_, rfl, Or.inl ⟨j, hjn, rfl, k_22, rfl, rfl⟩⟩
    · have k_22 := q_b0.mp c_22
      refine g_bipush (v := -2) E dX8_rain_25 (by decide) ?_
      exact g_iret E Z dX8_rain_27 ⟨_, rfl, Or.inr ⟨by omega, rfl, rfl⟩⟩
set_option maxHeartbeats 4000000 in
set_option maxRecDepth 100000 in
theorem c_X8_gateway {f : Nat → Nat → Int32} {g : Nat → Nat → Int64} (ht : f 0 0 = 0) (c x u : Int32) (hu : u = 0 ∨ u = 1) : q_ConI yX8_gateway cX8_gateway 4 (some .int) 2 45 tyM alM [.ref 0, .int c, .int x, .int u] (f, g, rfM) (fun v h' => (∃ j : Nat, j < 3 ∧ c = nI j ∧ (0 ≤ x.toInt ∧ x.toInt ≤ 10) ∧ v = 0 ∧ h' = (q_up (q_up f 27 j x) 28 j u, g, rfM)) ∨ (¬ ((0 ≤ c.toInt ∧ c.toInt ≤ 2) ∧ (0 ≤ x.toInt ∧ x.toInt ≤ 10)) ∧ v = -2 ∧ h' = (f, g, rfM))) := by
  refine q_Con.of RX8 [some (.ref 0), some (.int c), some (.int x), some (.int u)] (by decide +kernel) rfl rfl (Nat.le_of_ble_eq_true rfl) (fun C ad E Z => ?_)
  refine g_aload_0 E dX8_gateway_0 ?_
  refine g_iconst (v := 0) E dX8_gateway_1 (by decide) ?_
  refine g_putI E (by first | rfl | assumption) (by first | rfl | assumption) fw_X8_137 rfl dX8_gateway_2 ?_
  rw [q_up_same ht]
  refine g_iload_1 E dX8_gateway_5 ?_
  refine g_cSi1 E (c_X8_isGate _) cw_X8_172 (by decide) (by decide) (by decide) dX8_gateway_6 (fun v_6 h_6 hp => ?_)
  obtain ⟨rfl, rfl⟩ := hp
  refine g_if_eq (tgt := 24) E dX8_gateway_9 (by decide) (fun c_9 => ?_) (fun c_9 => ?_)
  · have k_9 := q_b0.mp c_9
    refine g_bipush (v := -2) E dX8_gateway_24 (by decide) ?_
    exact g_iret E Z dX8_gateway_26 ⟨_, rfl, Or.inr ⟨by omega, rfl, rfl⟩⟩
  · have k_9 := q_b1.mp c_9
    refine g_iload_2 E dX8_gateway_12 ?_
    refine g_i2l E dX8_gateway_13 ?_
    refine g_lconst (v := 0) E dX8_gateway_14 (by decide) ?_
    refine g_ldc2 E kw_X8_175 dX8_gateway_15 ?_
    refine g_cSi3 E (c_X8_inI _ _ _ (0) (10) (by decide) (by decide)) cw_X8_142 (by decide) (by decide) (by decide) dX8_gateway_18 (fun v_18 h_18 hp => ?_)
    obtain ⟨rfl, rfl⟩ := hp
    refine g_if_ne (tgt := 27) E dX8_gateway_21 (by decide) (fun c_21 => ?_) (fun c_21 => ?_)
    · have k_21 := q_b1.mp c_21
      obtain ⟨j, hj, rfl⟩ := q_nat (b := 2) k_9.1 (by omega)
      refine g_aload_0 E dX8_gateway_27 ?_
      refine g_getR E (by first | rfl | assumption) (by first | rfl | assumption) fl_X8_75 rfl (by first | rfl | assumption) dX8_gateway_28 ?_
      refine g_iload_1 E dX8_gateway_31 ?_
      refine g_iload_2 E dX8_gateway_32 ?_
      refine g_iast E (by first | rfl | assumption) (by first | rfl | assumption) dX8_gateway_33 (q_ix_n (by omega)) ?_
      refine g_aload_0 E dX8_gateway_34 ?_
      refine g_getR E (by first | rfl | assumption) (by first | rfl | assumption) fl_X8_78 rfl (by first | rfl | assumption) dX8_gateway_35 ?_
      refine g_iload_1 E dX8_gateway_38 ?_
      refine g_iload_3 E dX8_gateway_39 ?_
      first | refine g_zast E (by first | rfl | assumption) (by first | rfl | assumption) dX8_gateway_40 (q_ix_n (by omega)) (by rcases hu with rfl | rfl <;> rfl) ?_ | refine g_bast E (by first | rfl | assumption) (by first | rfl | assumption) dX8_gateway_40 (q_ix_n (by omega)) (by rcases hu with rfl | rfl <;> rfl) ?_
      refine g_iconst (v := 0) E dX8_gateway_41 (by decide) ?_
      exact g_iret E Z dX8_gateway_42 ⟨_, rfl, Or.inl ⟨j, by omega, rfl, k_21, rfl, rfl⟩⟩
    · have k_21 := q_b0.mp c_21
      refine g_bipush (v := -2) E dX8_gateway_24 (by decide) ?_
      exact g_iret E Z dX8_gateway_26 ⟨_, rfl, Or.inr ⟨by omega, rfl, rfl⟩⟩
set_option maxHeartbeats 4000000 in
set_option maxRecDepth 100000 in
theorem c_X8_swap {f : Nat → Nat → Int32} {g : Nat → Nat → Int64} (ht : f 0 0 = 0) (n : Nat) (hn : f 0 5 = nI n) (h10 : n ≤ 10) (c x : Int32) : q_ConI yX8_swap cX8_swap 3 (some .int) 2 46 tyM alM [.ref 0, .int c, .int x] (f, g, rfM) (fun v h' => (∃ j : Nat, j < n ∧ c = nI j ∧ (0 ≤ x.toInt ∧ x.toInt ≤ 2) ∧ ¬ f 18 j = x ∧ ((0 < f 19 j ∧ v = -7 ∧ h' = (f, g, rfM)) ∨ (¬ 0 < f 19 j ∧ v = 0 ∧ h' = (q_up (q_up f 18 j x) 19 j (f 0 9), g, rfM)))) ∨ (¬ ((0 ≤ c.toInt ∧ c.toInt < n) ∧ (0 ≤ x.toInt ∧ x.toInt ≤ 2) ∧ ¬ f 18 c.toNatClampNeg = x) ∧ v = -2 ∧ h' = (f, g, rfM))) := by
  refine q_Con.of RX8 [some (.ref 0), some (.int c), some (.int x)] (by decide +kernel) rfl rfl (Nat.le_of_ble_eq_true rfl) (fun C ad E Z => ?_)
  refine g_aload_0 E dX8_swap_0 ?_
  refine g_iconst (v := 0) E dX8_swap_1 (by decide) ?_
  refine g_putI E (by first | rfl | assumption) (by first | rfl | assumption) fw_X8_137 rfl dX8_swap_2 ?_
  rw [q_up_same ht]
  refine g_aload_0 E dX8_swap_5 ?_
  refine g_iload_1 E dX8_swap_6 ?_
  refine g_cVi1 E (c_X8_isCell n hn h10 _) cw_X8_169 (by decide) (by decide) (by first | rfl | assumption) (by first | rfl | assumption) (by decide) dX8_swap_7 (fun v_7 h_7 hp => ?_)
  obtain ⟨rfl, rfl⟩ := hp
  refine g_if_eq (tgt := 30) E dX8_swap_10 (by decide) (fun c_10 => ?_) (fun c_10 => ?_)
  · have k_10 := q_b0.mp c_10
    refine g_bipush (v := -2) E dX8_swap_30 (by decide) ?_
    exact g_iret E Z dX8_swap_32 ⟨_, rfl, Or.inr ⟨by first | omega | (rintro ⟨_, _, q⟩; rw [nI_clamp (by omega)] at q; exact q c_27), rfl, rfl⟩⟩
  · have k_10 := q_b1.mp c_10
    refine g_iload_2 E dX8_swap_13 ?_
    refine g_cSi1 E (c_X8_isGate _) cw_X8_172 (by decide) (by decide) (by decide) dX8_swap_14 (fun v_14 h_14 hp => ?_)
    obtain ⟨rfl, rfl⟩ := hp
    refine g_if_eq (tgt := 30) E dX8_swap_17 (by decide) (fun c_17 => ?_) (fun c_17 => ?_)
    · have k_17 := q_b0.mp c_17
      refine g_bipush (v := -2) E dX8_swap_30 (by decide) ?_
      exact g_iret E Z dX8_swap_32 ⟨_, rfl, Or.inr ⟨by first | omega | (rintro ⟨_, _, q⟩; rw [nI_clamp (by omega)] at q; exact q c_27), rfl, rfl⟩⟩
    · have k_17 := q_b1.mp c_17
      obtain ⟨j, hj, rfl⟩ := q_nat (b := n - 1) k_10.1 (by omega)
      have hjn : j < n := by have := k_10.2; rw [nI_toInt (by omega)] at this; omega
      refine g_aload_0 E dX8_swap_20 ?_
      refine g_getR E (by first | rfl | assumption) (by first | rfl | assumption) fl_X8_48 rfl (by first | rfl | assumption) dX8_swap_21 ?_
      refine g_iload_1 E dX8_swap_24 ?_
      refine g_iald E (by first | rfl | assumption) (by first | rfl | assumption) dX8_swap_25 (q_ix_n (by omega)) ?_
      refine g_iload_2 E dX8_swap_26 ?_
      refine g_icmp_ne (tgt := 33) E dX8_swap_27 (by decide) (fun c_27 => ?_) (fun c_27 => ?_)
      · refine g_aload_0 E dX8_swap_33 ?_
        refine g_getR E (by first | rfl | assumption) (by first | rfl | assumption) fl_X8_51 rfl (by first | rfl | assumption) dX8_swap_34 ?_
        refine g_iload_1 E dX8_swap_37 ?_
        refine g_iald E (by first | rfl | assumption) (by first | rfl | assumption) dX8_swap_38 (q_ix_n (by omega)) ?_
        refine g_if_le (tgt := 45) E dX8_swap_39 (by decide) (fun c_39 => ?_) (fun c_39 => ?_)
        · have k39 : ¬ 0 < f 19 j := fun q => absurd (q_ile.mp c_39) (by have := q_ilt.mp q; omega)
          refine g_aload_0 E dX8_swap_45 ?_
          refine g_getR E (by first | rfl | assumption) (by first | rfl | assumption) fl_X8_48 rfl (by first | rfl | assumption) dX8_swap_46 ?_
          refine g_iload_1 E dX8_swap_49 ?_
          refine g_iload_2 E dX8_swap_50 ?_
          refine g_iast E (by first | rfl | assumption) (by first | rfl | assumption) dX8_swap_51 (q_ix_n (by omega)) ?_
          refine g_aload_0 E dX8_swap_52 ?_
          refine g_getR E (by first | rfl | assumption) (by first | rfl | assumption) fl_X8_51 rfl (by first | rfl | assumption) dX8_swap_53 ?_
          refine g_iload_1 E dX8_swap_56 ?_
          refine g_aload_0 E dX8_swap_57 ?_
          refine g_getI E (by first | rfl | assumption) (by first | rfl | assumption) fl_X8_33 rfl dX8_swap_58 ?_
          refine g_iast E (by first | rfl | assumption) (by first | rfl | assumption) dX8_swap_61 (q_ix_n (by omega)) ?_
          refine g_iconst (v := 0) E dX8_swap_62 (by decide) ?_
          exact g_iret E Z dX8_swap_63 ⟨_, rfl, Or.inl ⟨j, hjn, rfl, k_17, c_27, Or.inr ⟨k39, rfl, rfl⟩⟩⟩
        · have k39 := c_39
          refine g_bipush (v := -7) E dX8_swap_42 (by decide) ?_
          exact g_iret E Z dX8_swap_44 ⟨_, rfl, Or.inl ⟨j, hjn, rfl, k_17, c_27, Or.inl ⟨by first | exact Int32.not_le.mp k39 | exact k39, rfl, rfl⟩⟩⟩
      · refine g_bipush (v := -2) E dX8_swap_30 (by decide) ?_
        exact g_iret E Z dX8_swap_32 ⟨_, rfl, Or.inr ⟨by first | omega | (rintro ⟨_, _, q⟩; rw [nI_clamp (by omega)] at q; exact q c_27), rfl, rfl⟩⟩
set_option maxHeartbeats 4000000 in
set_option maxRecDepth 100000 in
theorem c_X8_rule {f : Nat → Nat → Int32} {g : Nat → Nat → Int64} (ht : f 0 0 = 0) (x : Int32) : q_ConI yX8_rule cX8_rule 3 (some .int) 1 25 tyM alM [.ref 0, .int x] (f, g, rfM) (fun v h' => ((0 ≤ x.toInt ∧ x.toInt ≤ 1) ∧ v = f 0 11 ∧ h' = (q_up f 0 11 x, g, rfM)) ∨ (¬ (0 ≤ x.toInt ∧ x.toInt ≤ 1) ∧ v = -2 ∧ h' = (f, g, rfM))) := by
  refine q_Con.of RX8 [some (.ref 0), some (.int x), none] (by decide +kernel) rfl rfl (Nat.le_of_ble_eq_true rfl) (fun C ad E Z => ?_)
  refine g_aload_0 E dX8_rule_0 ?_
  refine g_iconst (v := 0) E dX8_rule_1 (by decide) ?_
  refine g_putI E (by first | rfl | assumption) (by first | rfl | assumption) fw_X8_137 rfl dX8_rule_2 ?_
  rw [q_up_same ht]
  refine g_iload_1 E dX8_rule_5 ?_
  refine g_i2l E dX8_rule_6 ?_
  refine g_lconst (v := 0) E dX8_rule_7 (by decide) ?_
  refine g_lconst (v := 1) E dX8_rule_8 (by decide) ?_
  refine g_cSi3 E (c_X8_inI _ _ _ (0) (1) (by decide) (by decide)) cw_X8_142 (by decide) (by decide) (by decide) dX8_rule_9 (fun v_9 h_9 hp => ?_)
  obtain ⟨rfl, rfl⟩ := hp
  refine g_if_ne (tgt := 18) E dX8_rule_12 (by decide) (fun c_12 => ?_) (fun c_12 => ?_)
  · have k_12 := q_b1.mp c_12
    refine g_aload_0 E dX8_rule_18 ?_
    refine g_getI E (by first | rfl | assumption) (by first | rfl | assumption) fl_X8_250 rfl dX8_rule_19 ?_
    refine g_istore_2 E dX8_rule_22 (by decide) rfl ?_
    refine g_aload_0 E dX8_rule_23 ?_
    refine g_iload_1 E dX8_rule_24 ?_
    refine g_putI E (by first | rfl | assumption) (by first | rfl | assumption) fw_X8_250 rfl dX8_rule_25 ?_
    refine g_iload_2 E dX8_rule_28 ?_
    exact g_iret E Z dX8_rule_29 ⟨_, rfl, Or.inl ⟨k_12, rfl, rfl⟩⟩
  · have k_12 := q_b0.mp c_12
    refine g_bipush (v := -2) E dX8_rule_15 (by decide) ?_
    exact g_iret E Z dX8_rule_17 ⟨_, rfl, Or.inr ⟨k_12, rfl, rfl⟩⟩
set_option maxHeartbeats 4000000 in
set_option maxRecDepth 100000 in
theorem c_X8_lit {f : Nat → Nat → Int32} {g : Nat → Nat → Int64} (ht : f 0 0 = 0) : q_ConI yX8_lit cX8_lit 1 (some .int) 0 0 tyM alM [.ref 0] (f, g, rfM) (fun v h' => v = f 0 12 ∧ h' = (f, g, rfM)) := by
  refine q_Con.of RX8 [some (.ref 0)] (by decide +kernel) rfl rfl (Nat.le_of_ble_eq_true rfl) (fun C ad E Z => ?_)
  refine g_aload_0 E dX8_lit_0 ?_
  refine g_iconst (v := 0) E dX8_lit_1 (by decide) ?_
  refine g_putI E (by first | rfl | assumption) (by first | rfl | assumption) fw_X8_137 rfl dX8_lit_2 ?_
  rw [q_up_same ht]
  refine g_aload_0 E dX8_lit_5 ?_
  refine g_getI E (by first | rfl | assumption) (by first | rfl | assumption) fl_X8_36 rfl dX8_lit_6 ?_
  exact g_iret E Z dX8_lit_9 ⟨_, rfl, ⟨rfl, rfl⟩⟩
set_option maxHeartbeats 4000000 in
set_option maxRecDepth 100000 in
theorem c_X8_frame {f : Nat → Nat → Int32} {g : Nat → Nat → Int64} (ht : f 0 0 = 0) (n : Nat) (hn : f 0 13 = nI n) (h10 : n ≤ 100) (x : Int32) : q_ConI yX8_frame cX8_frame 2 (some .int) 1 25 tyM alM [.ref 0, .int x] (f, g, rfM) (fun v h' => v = (if 0 ≤ x.toInt ∧ x.toInt < n then f 29 x.toNatClampNeg else -1) ∧ h' = (f, g, rfM)) := by
  refine q_Con.of RX8 [some (.ref 0), some (.int x)] (by decide +kernel) rfl rfl (Nat.le_of_ble_eq_true rfl) (fun C ad E Z => ?_)
  have hpi : (f 0 13 - 1).toInt = (n : Int) - 1 := by rw [hn]; exact q_pred (by omega)
  refine g_aload_0 E dX8_frame_0 ?_
  refine g_iconst (v := 0) E dX8_frame_1 (by decide) ?_
  refine g_putI E (by first | rfl | assumption) (by first | rfl | assumption) fw_X8_137 rfl dX8_frame_2 ?_
  rw [q_up_same ht]
  refine g_iload_1 E dX8_frame_5 ?_
  refine g_i2l E dX8_frame_6 ?_
  refine g_lconst (v := 0) E dX8_frame_7 (by decide) ?_
  refine g_aload_0 E dX8_frame_8 ?_
  refine g_getI E (by first | rfl | assumption) (by first | rfl | assumption) fl_X8_199 rfl dX8_frame_9 ?_
  refine g_iconst (v := 1) E dX8_frame_12 (by decide) ?_
  refine g_isub E dX8_frame_13 ?_
  refine g_i2l E dX8_frame_14 ?_
  refine g_cSi3 E (c_X8_inI _ _ _ 0 ((n : Int) - 1) (by decide) (by rw [q_32, hpi])) cw_X8_142 (by decide) (by decide) (by decide) dX8_frame_15 (fun v_15 h_15 hp => ?_)
  obtain ⟨rfl, rfl⟩ := hp
  refine g_if_eq (tgt := 30) E dX8_frame_18 (by decide) (fun c_18 => ?_) (fun c_18 => ?_)
  · have k_18 := q_b0.mp c_18
    refine g_iconst (v := -1) E dX8_frame_30 (by decide) ?_
    exact g_iret E Z dX8_frame_31 ⟨_, rfl, ⟨by first | (rw [if_neg (by omega)]; done) | (rw [if_pos ⟨k_18.1, by omega⟩, nI_clamp (by omega)]), rfl⟩⟩
  · have k_18 := q_b1.mp c_18
    obtain ⟨j, hj, rfl⟩ := q_nat (b := n - 1) k_18.1 (by omega)
    have hjn : j < n := by have := k_18.2; rw [nI_toInt (by omega)] at this; omega
    refine g_aload_0 E dX8_frame_21 ?_
    refine g_getR E (by first | rfl | assumption) (by first | rfl | assumption) fl_X8_82 rfl (by first | rfl | assumption) dX8_frame_22 ?_
    refine g_iload_1 E dX8_frame_25 ?_
    refine g_iald E (by first | rfl | assumption) (by first | rfl | assumption) dX8_frame_26 (q_ix_n (by omega)) ?_
    refine g_goto (tgt := 31) E dX8_frame_27 (by decide) ?_
    exact g_iret E Z dX8_frame_31 ⟨_, rfl, ⟨by first | (rw [if_neg (by omega)]; done) | (rw [if_pos ⟨k_18.1, by omega⟩, nI_clamp (by omega)]), rfl⟩⟩
set_option maxHeartbeats 4000000 in
set_option maxRecDepth 100000 in
theorem c_X8_powerNow {f : Nat → Nat → Int32} {g : Nat → Nat → Int64} {n : Nat} (c : Nat) (hc : c < 10) : q_ConI yX8_powerNow cX8_powerNow 2 (some .int) 0 0 tyM alM [.ref 0, .int (nI c)] (f, g, rfM) (fun v h' => v = f 15 c * (2 + f 22 c) / 2 ∧ h' = (f, g, rfM)) := by
  refine q_Con.of RX8 [some (.ref 0), some (.int (nI c))] (by decide +kernel) rfl rfl (Nat.le_of_ble_eq_true rfl) (fun C ad E Z => ?_)
  refine g_aload_0 E dX8_powerNow_0 ?_
  refine g_getR E (by first | rfl | assumption) (by first | rfl | assumption) fl_X8_39 rfl (by first | rfl | assumption) dX8_powerNow_1 ?_
  refine g_iload_1 E dX8_powerNow_4 ?_
  refine g_iald E (by first | rfl | assumption) (by first | rfl | assumption) dX8_powerNow_5 (q_ix_n (by omega)) ?_
  refine g_iconst (v := 2) E dX8_powerNow_6 (by decide) ?_
  refine g_aload_0 E dX8_powerNow_7 ?_
  refine g_getR E (by first | rfl | assumption) (by first | rfl | assumption) fl_X8_60 rfl (by first | rfl | assumption) dX8_powerNow_8 ?_
  refine g_iload_1 E dX8_powerNow_11 ?_
  refine g_iald E (by first | rfl | assumption) (by first | rfl | assumption) dX8_powerNow_12 (q_ix_n (by omega)) ?_
  refine g_iadd E dX8_powerNow_13 ?_
  refine g_imul E dX8_powerNow_14 ?_
  refine g_iconst (v := 2) E dX8_powerNow_15 (by decide) ?_
  refine g_idiv E dX8_powerNow_16 (by decide) ?_
  exact g_iret E Z dX8_powerNow_17 ⟨_, rfl, ⟨rfl, rfl⟩⟩
def q_rate (r a : Int32) : Int32 := if r = 0 then a else if r = 1 then a / 2 else 0
set_option maxHeartbeats 4000000 in
set_option maxRecDepth 100000 in
theorem c_X8_rateNow {f : Nat → Nat → Int32} {g : Nat → Nat → Int64} (c : Nat) (hc : c < 10) : q_ConI yX8_rateNow cX8_rateNow 2 (some .int) 0 0 tyM alM [.ref 0, .int (nI c)] (f, g, rfM) (fun v h' => v = q_rate (f 22 c) (f 16 c) ∧ h' = (f, g, rfM)) := by
  refine q_Con.of RX8 [some (.ref 0), some (.int (nI c))] (by decide +kernel) rfl rfl (Nat.le_of_ble_eq_true rfl) (fun C ad E Z => ?_)
  refine g_aload_0 E dX8_rateNow_0 ?_
  refine g_getR E (by first | rfl | assumption) (by first | rfl | assumption) fl_X8_60 rfl (by first | rfl | assumption) dX8_rateNow_1 ?_
  refine g_iload_1 E dX8_rateNow_4 ?_
  refine g_iald E (by first | rfl | assumption) (by first | rfl | assumption) dX8_rateNow_5 (q_ix_n (by omega)) ?_
  refine g_if_ne (tgt := 18) E dX8_rateNow_6 (by decide) (fun c_6 => ?_) (fun c_6 => ?_)
  · refine g_aload_0 E dX8_rateNow_18 ?_
    refine g_getR E (by first | rfl | assumption) (by first | rfl | assumption) fl_X8_60 rfl (by first | rfl | assumption) dX8_rateNow_19 ?_
    refine g_iload_1 E dX8_rateNow_22 ?_
    refine g_iald E (by first | rfl | assumption) (by first | rfl | assumption) dX8_rateNow_23 (q_ix_n (by omega)) ?_
    refine g_iconst (v := 1) E dX8_rateNow_24 (by decide) ?_
    refine g_icmp_ne (tgt := 39) E dX8_rateNow_25 (by decide) (fun c_25 => ?_) (fun c_25 => ?_)
    · refine g_iconst (v := 0) E dX8_rateNow_39 (by decide) ?_
      exact g_iret E Z dX8_rateNow_40 ⟨_, rfl, ⟨by unfold q_rate; simp [*], rfl⟩⟩
    · refine g_aload_0 E dX8_rateNow_28 ?_
      refine g_getR E (by first | rfl | assumption) (by first | rfl | assumption) fl_X8_42 rfl (by first | rfl | assumption) dX8_rateNow_29 ?_
      refine g_iload_1 E dX8_rateNow_32 ?_
      refine g_iald E (by first | rfl | assumption) (by first | rfl | assumption) dX8_rateNow_33 (q_ix_n (by omega)) ?_
      refine g_iconst (v := 2) E dX8_rateNow_34 (by decide) ?_
      refine g_idiv E dX8_rateNow_35 (by decide) ?_
      refine g_goto (tgt := 40) E dX8_rateNow_36 (by decide) ?_
      exact g_iret E Z dX8_rateNow_40 ⟨_, rfl, ⟨by unfold q_rate; simp [*], rfl⟩⟩
  · refine g_aload_0 E dX8_rateNow_9 ?_
    refine g_getR E (by first | rfl | assumption) (by first | rfl | assumption) fl_X8_42 rfl (by first | rfl | assumption) dX8_rateNow_10 ?_
    refine g_iload_1 E dX8_rateNow_13 ?_
    refine g_iald E (by first | rfl | assumption) (by first | rfl | assumption) dX8_rateNow_14 (q_ix_n (by omega)) ?_
    refine g_goto (tgt := 40) E dX8_rateNow_15 (by decide) ?_
    exact g_iret E Z dX8_rateNow_40 ⟨_, rfl, ⟨by unfold q_rate; simp [*], rfl⟩⟩
set_option maxHeartbeats 4000000 in
set_option maxRecDepth 100000 in
theorem c_X8_units {f : Nat → Nat → Int32} {g : Nat → Nat → Int64} (ht : f 0 0 = 0) (n : Nat) (hn : f 0 5 = nI n) (h10 : n ≤ 10) (c x : Int32) : q_ConL yX8_units cX8_units 3 (some .long) 2 46 tyM alM [.ref 0, .int c, .int x] (f, g, rfM) (fun v h' => v = (if 0 ≤ c.toInt ∧ c.toInt < n then (if x = 0 then g 31 c.toNatClampNeg else if x = 1 then g 32 c.toNatClampNeg else if x = 2 then g 33 c.toNatClampNeg else -2) else -2) ∧ h' = (f, g, rfM)) := by
  refine q_Con.of RX8 [some (.ref 0), some (.int c), some (.int x)] (by decide +kernel) rfl rfl (Nat.le_of_ble_eq_true rfl) (fun C ad E Z => ?_)
  refine g_aload_0 E dX8_units_0 ?_
  refine g_iconst (v := 0) E dX8_units_1 (by decide) ?_
  refine g_putI E (by first | rfl | assumption) (by first | rfl | assumption) fw_X8_137 rfl dX8_units_2 ?_
  rw [q_up_same ht]
  refine g_aload_0 E dX8_units_5 ?_
  refine g_iload_1 E dX8_units_6 ?_
  refine g_cVi1 E (c_X8_isCell n hn h10 _) cw_X8_169 (by decide) (by decide) (by first | rfl | assumption) (by first | rfl | assumption) (by decide) dX8_units_7 (fun v_7 h_7 hp => ?_)
  obtain ⟨rfl, rfl⟩ := hp
  refine g_if_ne (tgt := 19) E dX8_units_10 (by decide) (fun c_10 => ?_) (fun c_10 => ?_)
  · have k_10 := q_b1.mp c_10
    obtain ⟨j, hj, rfl⟩ := q_nat (b := n - 1) k_10.1 (by omega)
    have hjn : j < n := by have := k_10.2; rw [nI_toInt (by omega)] at this; omega
    refine g_iload_2 E dX8_units_19 ?_
    refine g_if_ne (tgt := 32) E dX8_units_20 (by decide) (fun c_20 => ?_) (fun c_20 => ?_)
    · refine g_iload_2 E dX8_units_32 ?_
      refine g_iconst (v := 1) E dX8_units_33 (by decide) ?_
      refine g_icmp_ne (tgt := 46) E dX8_units_34 (by decide) (fun c_34 => ?_) (fun c_34 => ?_)
      · refine g_iload_2 E dX8_units_46 ?_
        refine g_iconst (v := 2) E dX8_units_47 (by decide) ?_
        refine g_icmp_ne (tgt := 60) E dX8_units_48 (by decide) (fun c_48 => ?_) (fun c_48 => ?_)
        · refine g_ldc2 E kw_X8_279 dX8_units_60 ?_
          exact g_lret E Z dX8_units_63 ⟨_, rfl, ⟨by first | (rw [if_neg (by omega)]; done) | (rw [if_pos ⟨k_10.1, k_10.2⟩, nI_clamp (by omega)]; simp [*]), rfl⟩⟩
        · refine g_aload_0 E dX8_units_51 ?_
          refine g_getR E (by first | rfl | assumption) (by first | rfl | assumption) fl_X8_94 rfl (by first | rfl | assumption) dX8_units_52 ?_
          refine g_iload_1 E dX8_units_55 ?_
          refine g_lald E (by first | rfl | assumption) (by first | rfl | assumption) dX8_units_56 (q_ix_n (by omega)) ?_
          refine g_goto (tgt := 63) E dX8_units_57 (by decide) ?_
          exact g_lret E Z dX8_units_63 ⟨_, rfl, ⟨by first | (rw [if_neg (by omega)]; done) | (rw [if_pos ⟨k_10.1, k_10.2⟩, nI_clamp (by omega)]; simp [*]), rfl⟩⟩
      · refine g_aload_0 E dX8_units_37 ?_
        refine g_getR E (by first | rfl | assumption) (by first | rfl | assumption) fl_X8_91 rfl (by first | rfl | assumption) dX8_units_38 ?_
        refine g_iload_1 E dX8_units_41 ?_
        refine g_lald E (by first | rfl | assumption) (by first | rfl | assumption) dX8_units_42 (q_ix_n (by omega)) ?_
        refine g_goto (tgt := 63) E dX8_units_43 (by decide) ?_
        exact g_lret E Z dX8_units_63 ⟨_, rfl, ⟨by first | (rw [if_neg (by omega)]; done) | (rw [if_pos ⟨k_10.1, k_10.2⟩, nI_clamp (by omega)]; simp [*]), rfl⟩⟩
    · refine g_aload_0 E dX8_units_23 ?_
      refine g_getR E (by first | rfl | assumption) (by first | rfl | assumption) fl_X8_88 rfl (by first | rfl | assumption) dX8_units_24 ?_
      refine g_iload_1 E dX8_units_27 ?_
      refine g_lald E (by first | rfl | assumption) (by first | rfl | assumption) dX8_units_28 (q_ix_n (by omega)) ?_
      refine g_goto (tgt := 63) E dX8_units_29 (by decide) ?_
      exact g_lret E Z dX8_units_63 ⟨_, rfl, ⟨by first | (rw [if_neg (by omega)]; done) | (rw [if_pos ⟨k_10.1, k_10.2⟩, nI_clamp (by omega)]; simp [*]), rfl⟩⟩
  · have k_10 := q_b0.mp c_10
    refine g_ldc2 E kw_X8_279 dX8_units_13 ?_
    refine g_goto (tgt := 63) E dX8_units_16 (by decide) ?_
    exact g_lret E Z dX8_units_63 ⟨_, rfl, ⟨by first | (rw [if_neg (by omega)]; done) | (rw [if_pos ⟨k_10.1, k_10.2⟩, nI_clamp (by omega)]; simp [*]), rfl⟩⟩
end
