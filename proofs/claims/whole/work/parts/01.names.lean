-- ===== PART A: goes FIRST, ahead of the names: the tables' words, and 'selects' of the private methods out of them =====
/-- a private method of a class that the tables say can be made, by its rows of tables_1 -/
def lw_okq (q : MethodName × Nat) : Prop := (q.1.cls ≠ "java/lang/invoke/MethodHandle" ∧ q.1.cls ≠ "java/lang/invoke/VarHandle") ∧ Cond.instantiable q.1.cls q.2 ∈ tables_1 ∧ Cond.privateMethod q.1 ∈ tables_1 ∧ Cond.instanceMethod q.1 ∈ tables_1
theorem lw_p0 : lw_okq (⟨"SpreadDesk$Reader", "pass", "()V"⟩, 9) := ⟨⟨by decide +kernel, by decide +kernel⟩, List.mem_of_getElem? (i := 66) (by decide +kernel), List.mem_of_getElem? (i := 230) (by decide +kernel), List.mem_of_getElem? (i := 231) (by decide +kernel)⟩
theorem lw_p1 : lw_okq (⟨"SpreadDesk$Reader", "passDigits", "(I)V"⟩, 9) := ⟨⟨by decide +kernel, by decide +kernel⟩, List.mem_of_getElem? (i := 66) (by decide +kernel), List.mem_of_getElem? (i := 237) (by decide +kernel), List.mem_of_getElem? (i := 238) (by decide +kernel)⟩
theorem lw_p2 : lw_okq (⟨"SpreadDesk$Reader", "readItem", "()Z"⟩, 9) := ⟨⟨by decide +kernel, by decide +kernel⟩, List.mem_of_getElem? (i := 66) (by decide +kernel), List.mem_of_getElem? (i := 241) (by decide +kernel), List.mem_of_getElem? (i := 242) (by decide +kernel)⟩
theorem lw_p3 : lw_okq (⟨"SpreadDesk$Reader", "readSource", "()Z"⟩, 9) := ⟨⟨by decide +kernel, by decide +kernel⟩, List.mem_of_getElem? (i := 66) (by decide +kernel), List.mem_of_getElem? (i := 245) (by decide +kernel), List.mem_of_getElem? (i := 246) (by decide +kernel)⟩
theorem lw_p4 : lw_okq (⟨"SpreadDesk$Reader", "sourceAtHand", "()I"⟩, 9) := ⟨⟨by decide +kernel, by decide +kernel⟩, List.mem_of_getElem? (i := 66) (by decide +kernel), List.mem_of_getElem? (i := 249) (by decide +kernel), List.mem_of_getElem? (i := 250) (by decide +kernel)⟩
theorem lw_p5 : lw_okq (⟨"SpreadDesk$Reader", "passSign", "()I"⟩, 9) := ⟨⟨by decide +kernel, by decide +kernel⟩, List.mem_of_getElem? (i := 66) (by decide +kernel), List.mem_of_getElem? (i := 256) (by decide +kernel), List.mem_of_getElem? (i := 257) (by decide +kernel)⟩
theorem lw_p6 : lw_okq (⟨"SpreadDesk$Reader", "readJoint", "()Z"⟩, 9) := ⟨⟨by decide +kernel, by decide +kernel⟩, List.mem_of_getElem? (i := 66) (by decide +kernel), List.mem_of_getElem? (i := 269) (by decide +kernel), List.mem_of_getElem? (i := 270) (by decide +kernel)⟩
theorem lw_p7 : lw_okq (⟨"SpreadDesk$Reader", "readFormula", "()Z"⟩, 9) := ⟨⟨by decide +kernel, by decide +kernel⟩, List.mem_of_getElem? (i := 66) (by decide +kernel), List.mem_of_getElem? (i := 273) (by decide +kernel), List.mem_of_getElem? (i := 274) (by decide +kernel)⟩
theorem lw_p8 : lw_okq (⟨"SpreadDesk$Reader", "readSum", "(I)I"⟩, 9) := ⟨⟨by decide +kernel, by decide +kernel⟩, List.mem_of_getElem? (i := 66) (by decide +kernel), List.mem_of_getElem? (i := 281) (by decide +kernel), List.mem_of_getElem? (i := 282) (by decide +kernel)⟩
theorem lw_p9 : lw_okq (⟨"SpreadDesk$Reader", "readProduct", "(I)I"⟩, 9) := ⟨⟨by decide +kernel, by decide +kernel⟩, List.mem_of_getElem? (i := 66) (by decide +kernel), List.mem_of_getElem? (i := 285) (by decide +kernel), List.mem_of_getElem? (i := 286) (by decide +kernel)⟩
theorem lw_p10 : lw_okq (⟨"SpreadDesk$Reader", "readPower", "(I)I"⟩, 9) := ⟨⟨by decide +kernel, by decide +kernel⟩, List.mem_of_getElem? (i := 66) (by decide +kernel), List.mem_of_getElem? (i := 289) (by decide +kernel), List.mem_of_getElem? (i := 290) (by decide +kernel)⟩
theorem lw_p11 : lw_okq (⟨"SpreadDesk$Reader", "readPart", "(I)I"⟩, 9) := ⟨⟨by decide +kernel, by decide +kernel⟩, List.mem_of_getElem? (i := 66) (by decide +kernel), List.mem_of_getElem? (i := 293) (by decide +kernel), List.mem_of_getElem? (i := 294) (by decide +kernel)⟩
theorem lw_p12 : lw_okq (⟨"SpreadDesk$Reader", "countNode", "()Z"⟩, 9) := ⟨⟨by decide +kernel, by decide +kernel⟩, List.mem_of_getElem? (i := 66) (by decide +kernel), List.mem_of_getElem? (i := 297) (by decide +kernel), List.mem_of_getElem? (i := 298) (by decide +kernel)⟩
theorem lw_p13 : lw_okq (⟨"SpreadDesk$Reader", "readBarePart", "(I)I"⟩, 9) := ⟨⟨by decide +kernel, by decide +kernel⟩, List.mem_of_getElem? (i := 66) (by decide +kernel), List.mem_of_getElem? (i := 301) (by decide +kernel), List.mem_of_getElem? (i := 302) (by decide +kernel)⟩
theorem lw_p14 : lw_okq (⟨"SpreadDesk$Reader", "readInner", "(I)I"⟩, 9) := ⟨⟨by decide +kernel, by decide +kernel⟩, List.mem_of_getElem? (i := 66) (by decide +kernel), List.mem_of_getElem? (i := 305) (by decide +kernel), List.mem_of_getElem? (i := 306) (by decide +kernel)⟩
theorem lw_p15 : lw_okq (⟨"SpreadDesk$Reader", "readEarlier", "()I"⟩, 9) := ⟨⟨by decide +kernel, by decide +kernel⟩, List.mem_of_getElem? (i := 66) (by decide +kernel), List.mem_of_getElem? (i := 309) (by decide +kernel), List.mem_of_getElem? (i := 310) (by decide +kernel)⟩
def lw_privs_1 : List (MethodName × Nat) := [(⟨"SpreadDesk$Reader", "pass", "()V"⟩, 9), (⟨"SpreadDesk$Reader", "passDigits", "(I)V"⟩, 9), (⟨"SpreadDesk$Reader", "readItem", "()Z"⟩, 9), (⟨"SpreadDesk$Reader", "readSource", "()Z"⟩, 9), (⟨"SpreadDesk$Reader", "sourceAtHand", "()I"⟩, 9), (⟨"SpreadDesk$Reader", "passSign", "()I"⟩, 9), (⟨"SpreadDesk$Reader", "readJoint", "()Z"⟩, 9), (⟨"SpreadDesk$Reader", "readFormula", "()Z"⟩, 9), (⟨"SpreadDesk$Reader", "readSum", "(I)I"⟩, 9), (⟨"SpreadDesk$Reader", "readProduct", "(I)I"⟩, 9), (⟨"SpreadDesk$Reader", "readPower", "(I)I"⟩, 9), (⟨"SpreadDesk$Reader", "readPart", "(I)I"⟩, 9), (⟨"SpreadDesk$Reader", "countNode", "()Z"⟩, 9), (⟨"SpreadDesk$Reader", "readBarePart", "(I)I"⟩, 9), (⟨"SpreadDesk$Reader", "readInner", "(I)I"⟩, 9), (⟨"SpreadDesk$Reader", "readEarlier", "()I"⟩, 9)]
theorem lw_r1 : ∀ q ∈ lw_privs_1, lw_okq q := List.forall_mem_cons.mpr ⟨lw_p0, List.forall_mem_cons.mpr ⟨lw_p1, List.forall_mem_cons.mpr ⟨lw_p2, List.forall_mem_cons.mpr ⟨lw_p3, List.forall_mem_cons.mpr ⟨lw_p4, List.forall_mem_cons.mpr ⟨lw_p5, List.forall_mem_cons.mpr ⟨lw_p6, List.forall_mem_cons.mpr ⟨lw_p7, List.forall_mem_cons.mpr ⟨lw_p8, List.forall_mem_cons.mpr ⟨lw_p9, List.forall_mem_cons.mpr ⟨lw_p10, List.forall_mem_cons.mpr ⟨lw_p11, List.forall_mem_cons.mpr ⟨lw_p12, List.forall_mem_cons.mpr ⟨lw_p13, List.forall_mem_cons.mpr ⟨lw_p14, List.forall_mem_cons.mpr ⟨lw_p15, fun _ h => absurd h List.not_mem_nil⟩⟩⟩⟩⟩⟩⟩⟩⟩⟩⟩⟩⟩⟩⟩⟩
theorem lw_p16 : lw_okq (⟨"SpreadDesk$Tape", "add", "(IIIII)I"⟩, 8) := ⟨⟨by decide +kernel, by decide +kernel⟩, List.mem_of_getElem? (i := 32) (by decide +kernel), List.mem_of_getElem? (i := 333) (by decide +kernel), List.mem_of_getElem? (i := 334) (by decide +kernel)⟩
theorem lw_p17 : lw_okq (⟨"SpreadDesk$Past", "loseOldest", "()V"⟩, 4) := ⟨⟨by decide +kernel, by decide +kernel⟩, List.mem_of_getElem? (i := 106) (by decide +kernel), List.mem_of_getElem? (i := 391) (by decide +kernel), List.mem_of_getElem? (i := 392) (by decide +kernel)⟩
theorem lw_p18 : lw_okq (⟨"SpreadDesk", "isTold", "(I)Z"⟩, 14) := ⟨⟨by decide +kernel, by decide +kernel⟩, List.mem_of_getElem? (i := 10) (by decide +kernel), List.mem_of_getElem? (i := 423) (by decide +kernel), List.mem_of_getElem? (i := 424) (by decide +kernel)⟩
theorem lw_p19 : lw_okq (⟨"SpreadDesk$Sweep", "walkWorth", "(III)V"⟩, 6) := ⟨⟨by decide +kernel, by decide +kernel⟩, List.mem_of_getElem? (i := 125) (by decide +kernel), List.mem_of_getElem? (i := 433) (by decide +kernel), List.mem_of_getElem? (i := 434) (by decide +kernel)⟩
theorem lw_p20 : lw_okq (⟨"SpreadDesk$Sweep", "worthOf", "(III)J"⟩, 6) := ⟨⟨by decide +kernel, by decide +kernel⟩, List.mem_of_getElem? (i := 125) (by decide +kernel), List.mem_of_getElem? (i := 437) (by decide +kernel), List.mem_of_getElem? (i := 438) (by decide +kernel)⟩
theorem lw_p21 : lw_okq (⟨"SpreadDesk$Sweep", "walkSlope", "([JII)V"⟩, 6) := ⟨⟨by decide +kernel, by decide +kernel⟩, List.mem_of_getElem? (i := 125) (by decide +kernel), List.mem_of_getElem? (i := 457) (by decide +kernel), List.mem_of_getElem? (i := 458) (by decide +kernel)⟩
theorem lw_p22 : lw_okq (⟨"SpreadDesk$Sweep", "slopeOf", "([JII)J"⟩, 6) := ⟨⟨by decide +kernel, by decide +kernel⟩, List.mem_of_getElem? (i := 125) (by decide +kernel), List.mem_of_getElem? (i := 461) (by decide +kernel), List.mem_of_getElem? (i := 462) (by decide +kernel)⟩
theorem lw_p23 : lw_okq (⟨"SpreadDesk$Sweep", "walkBend", "(I)V"⟩, 6) := ⟨⟨by decide +kernel, by decide +kernel⟩, List.mem_of_getElem? (i := 125) (by decide +kernel), List.mem_of_getElem? (i := 473) (by decide +kernel), List.mem_of_getElem? (i := 474) (by decide +kernel)⟩
theorem lw_p24 : lw_okq (⟨"SpreadDesk$Sweep", "bendOf", "(I)J"⟩, 6) := ⟨⟨by decide +kernel, by decide +kernel⟩, List.mem_of_getElem? (i := 125) (by decide +kernel), List.mem_of_getElem? (i := 477) (by decide +kernel), List.mem_of_getElem? (i := 478) (by decide +kernel)⟩
theorem lw_p25 : lw_okq (⟨"SpreadDesk", "remains", "(II)J"⟩, 14) := ⟨⟨by decide +kernel, by decide +kernel⟩, List.mem_of_getElem? (i := 10) (by decide +kernel), List.mem_of_getElem? (i := 485) (by decide +kernel), List.mem_of_getElem? (i := 486) (by decide +kernel)⟩
theorem lw_p26 : lw_okq (⟨"SpreadDesk", "product", "([J[JI)J"⟩, 14) := ⟨⟨by decide +kernel, by decide +kernel⟩, List.mem_of_getElem? (i := 10) (by decide +kernel), List.mem_of_getElem? (i := 493) (by decide +kernel), List.mem_of_getElem? (i := 494) (by decide +kernel)⟩
theorem lw_p27 : lw_okq (⟨"SpreadDesk", "part", "([J[JII)J"⟩, 14) := ⟨⟨by decide +kernel, by decide +kernel⟩, List.mem_of_getElem? (i := 10) (by decide +kernel), List.mem_of_getElem? (i := 497) (by decide +kernel), List.mem_of_getElem? (i := 498) (by decide +kernel)⟩
theorem lw_p28 : lw_okq (⟨"SpreadDesk", "taken", "(I)J"⟩, 14) := ⟨⟨by decide +kernel, by decide +kernel⟩, List.mem_of_getElem? (i := 10) (by decide +kernel), List.mem_of_getElem? (i := 527) (by decide +kernel), List.mem_of_getElem? (i := 528) (by decide +kernel)⟩
theorem lw_p29 : lw_okq (⟨"SpreadDesk", "explains", "(II)Z"⟩, 14) := ⟨⟨by decide +kernel, by decide +kernel⟩, List.mem_of_getElem? (i := 10) (by decide +kernel), List.mem_of_getElem? (i := 554) (by decide +kernel), List.mem_of_getElem? (i := 555) (by decide +kernel)⟩
theorem lw_p30 : lw_okq (⟨"SpreadDeskModel", "begins", "()V"⟩, 40) := ⟨⟨by decide +kernel, by decide +kernel⟩, List.mem_of_getElem? (i := 582) (by decide +kernel), List.mem_of_getElem? (i := 588) (by decide +kernel), List.mem_of_getElem? (i := 589) (by decide +kernel)⟩
theorem lw_p31 : lw_okq (⟨"SpreadDeskModel", "settles", "()V"⟩, 40) := ⟨⟨by decide +kernel, by decide +kernel⟩, List.mem_of_getElem? (i := 582) (by decide +kernel), List.mem_of_getElem? (i := 592) (by decide +kernel), List.mem_of_getElem? (i := 593) (by decide +kernel)⟩
def lw_privs_2 : List (MethodName × Nat) := [(⟨"SpreadDesk$Tape", "add", "(IIIII)I"⟩, 8), (⟨"SpreadDesk$Past", "loseOldest", "()V"⟩, 4), (⟨"SpreadDesk", "isTold", "(I)Z"⟩, 14), (⟨"SpreadDesk$Sweep", "walkWorth", "(III)V"⟩, 6), (⟨"SpreadDesk$Sweep", "worthOf", "(III)J"⟩, 6), (⟨"SpreadDesk$Sweep", "walkSlope", "([JII)V"⟩, 6), (⟨"SpreadDesk$Sweep", "slopeOf", "([JII)J"⟩, 6), (⟨"SpreadDesk$Sweep", "walkBend", "(I)V"⟩, 6), (⟨"SpreadDesk$Sweep", "bendOf", "(I)J"⟩, 6), (⟨"SpreadDesk", "remains", "(II)J"⟩, 14), (⟨"SpreadDesk", "product", "([J[JI)J"⟩, 14), (⟨"SpreadDesk", "part", "([J[JII)J"⟩, 14), (⟨"SpreadDesk", "taken", "(I)J"⟩, 14), (⟨"SpreadDesk", "explains", "(II)Z"⟩, 14), (⟨"SpreadDeskModel", "begins", "()V"⟩, 40), (⟨"SpreadDeskModel", "settles", "()V"⟩, 40)]
theorem lw_r2 : ∀ q ∈ lw_privs_2, lw_okq q := List.forall_mem_cons.mpr ⟨lw_p16, List.forall_mem_cons.mpr ⟨lw_p17, List.forall_mem_cons.mpr ⟨lw_p18, List.forall_mem_cons.mpr ⟨lw_p19, List.forall_mem_cons.mpr ⟨lw_p20, List.forall_mem_cons.mpr ⟨lw_p21, List.forall_mem_cons.mpr ⟨lw_p22, List.forall_mem_cons.mpr ⟨lw_p23, List.forall_mem_cons.mpr ⟨lw_p24, List.forall_mem_cons.mpr ⟨lw_p25, List.forall_mem_cons.mpr ⟨lw_p26, List.forall_mem_cons.mpr ⟨lw_p27, List.forall_mem_cons.mpr ⟨lw_p28, List.forall_mem_cons.mpr ⟨lw_p29, List.forall_mem_cons.mpr ⟨lw_p30, List.forall_mem_cons.mpr ⟨lw_p31, fun _ h => absurd h List.not_mem_nil⟩⟩⟩⟩⟩⟩⟩⟩⟩⟩⟩⟩⟩⟩⟩⟩
theorem lw_p32 : lw_okq (⟨"SpreadDeskModel", "advances", "()V"⟩, 40) := ⟨⟨by decide +kernel, by decide +kernel⟩, List.mem_of_getElem? (i := 582) (by decide +kernel), List.mem_of_getElem? (i := 733) (by decide +kernel), List.mem_of_getElem? (i := 734) (by decide +kernel)⟩
theorem lw_p33 : lw_okq (⟨"SpreadDeskModel", "letterAt", "(I)I"⟩, 40) := ⟨⟨by decide +kernel, by decide +kernel⟩, List.mem_of_getElem? (i := 582) (by decide +kernel), List.mem_of_getElem? (i := 737) (by decide +kernel), List.mem_of_getElem? (i := 738) (by decide +kernel)⟩
theorem lw_p34 : lw_okq (⟨"SpreadDeskModel", "isWell", "()Z"⟩, 40) := ⟨⟨by decide +kernel, by decide +kernel⟩, List.mem_of_getElem? (i := 582) (by decide +kernel), List.mem_of_getElem? (i := 744) (by decide +kernel), List.mem_of_getElem? (i := 745) (by decide +kernel)⟩
theorem lw_p35 : lw_okq (⟨"SpreadDeskModel", "isThis", "(I)Z"⟩, 40) := ⟨⟨by decide +kernel, by decide +kernel⟩, List.mem_of_getElem? (i := 582) (by decide +kernel), List.mem_of_getElem? (i := 748) (by decide +kernel), List.mem_of_getElem? (i := 749) (by decide +kernel)⟩
theorem lw_p36 : lw_okq (⟨"SpreadDeskModel", "takes", "(Z)I"⟩, 40) := ⟨⟨by decide +kernel, by decide +kernel⟩, List.mem_of_getElem? (i := 582) (by decide +kernel), List.mem_of_getElem? (i := 752) (by decide +kernel), List.mem_of_getElem? (i := 753) (by decide +kernel)⟩
theorem lw_p37 : lw_okq (⟨"SpreadDeskModel", "readsItem", "(I)V"⟩, 40) := ⟨⟨by decide +kernel, by decide +kernel⟩, List.mem_of_getElem? (i := 582) (by decide +kernel), List.mem_of_getElem? (i := 756) (by decide +kernel), List.mem_of_getElem? (i := 757) (by decide +kernel)⟩
theorem lw_p38 : lw_okq (⟨"SpreadDeskModel", "readsSum", "()V"⟩, 40) := ⟨⟨by decide +kernel, by decide +kernel⟩, List.mem_of_getElem? (i := 582) (by decide +kernel), List.mem_of_getElem? (i := 760) (by decide +kernel), List.mem_of_getElem? (i := 761) (by decide +kernel)⟩
theorem lw_p39 : lw_okq (⟨"SpreadDeskModel", "readsPart", "()Z"⟩, 40) := ⟨⟨by decide +kernel, by decide +kernel⟩, List.mem_of_getElem? (i := 582) (by decide +kernel), List.mem_of_getElem? (i := 764) (by decide +kernel), List.mem_of_getElem? (i := 765) (by decide +kernel)⟩
theorem lw_p40 : lw_okq (⟨"SpreadDeskModel", "waits", "(I)V"⟩, 40) := ⟨⟨by decide +kernel, by decide +kernel⟩, List.mem_of_getElem? (i := 582) (by decide +kernel), List.mem_of_getElem? (i := 768) (by decide +kernel), List.mem_of_getElem? (i := 769) (by decide +kernel)⟩
theorem lw_p41 : lw_okq (⟨"SpreadDeskModel", "counts", "()Z"⟩, 40) := ⟨⟨by decide +kernel, by decide +kernel⟩, List.mem_of_getElem? (i := 582) (by decide +kernel), List.mem_of_getElem? (i := 772) (by decide +kernel), List.mem_of_getElem? (i := 773) (by decide +kernel)⟩
theorem lw_p42 : lw_okq (⟨"SpreadDeskModel", "isNumber", "(II)Z"⟩, 40) := ⟨⟨by decide +kernel, by decide +kernel⟩, List.mem_of_getElem? (i := 582) (by decide +kernel), List.mem_of_getElem? (i := 776) (by decide +kernel), List.mem_of_getElem? (i := 777) (by decide +kernel)⟩
theorem lw_p43 : lw_okq (⟨"SpreadDeskModel", "makes", "(IIII)V"⟩, 40) := ⟨⟨by decide +kernel, by decide +kernel⟩, List.mem_of_getElem? (i := 582) (by decide +kernel), List.mem_of_getElem? (i := 780) (by decide +kernel), List.mem_of_getElem? (i := 781) (by decide +kernel)⟩
theorem lw_p44 : lw_okq (⟨"SpreadDeskModel", "isSourceSign", "()Z"⟩, 40) := ⟨⟨by decide +kernel, by decide +kernel⟩, List.mem_of_getElem? (i := 582) (by decide +kernel), List.mem_of_getElem? (i := 784) (by decide +kernel), List.mem_of_getElem? (i := 785) (by decide +kernel)⟩
theorem lw_p45 : lw_okq (⟨"SpreadDeskModel", "partDone", "()V"⟩, 40) := ⟨⟨by decide +kernel, by decide +kernel⟩, List.mem_of_getElem? (i := 582) (by decide +kernel), List.mem_of_getElem? (i := 788) (by decide +kernel), List.mem_of_getElem? (i := 789) (by decide +kernel)⟩
theorem lw_p46 : lw_okq (⟨"SpreadDeskModel", "lastWaiting", "()I"⟩, 40) := ⟨⟨by decide +kernel, by decide +kernel⟩, List.mem_of_getElem? (i := 582) (by decide +kernel), List.mem_of_getElem? (i := 792) (by decide +kernel), List.mem_of_getElem? (i := 793) (by decide +kernel)⟩
theorem lw_p47 : lw_okq (⟨"SpreadDeskModel", "doesLast", "()V"⟩, 40) := ⟨⟨by decide +kernel, by decide +kernel⟩, List.mem_of_getElem? (i := 582) (by decide +kernel), List.mem_of_getElem? (i := 796) (by decide +kernel), List.mem_of_getElem? (i := 797) (by decide +kernel)⟩
def lw_privs_3 : List (MethodName × Nat) := [(⟨"SpreadDeskModel", "advances", "()V"⟩, 40), (⟨"SpreadDeskModel", "letterAt", "(I)I"⟩, 40), (⟨"SpreadDeskModel", "isWell", "()Z"⟩, 40), (⟨"SpreadDeskModel", "isThis", "(I)Z"⟩, 40), (⟨"SpreadDeskModel", "takes", "(Z)I"⟩, 40), (⟨"SpreadDeskModel", "readsItem", "(I)V"⟩, 40), (⟨"SpreadDeskModel", "readsSum", "()V"⟩, 40), (⟨"SpreadDeskModel", "readsPart", "()Z"⟩, 40), (⟨"SpreadDeskModel", "waits", "(I)V"⟩, 40), (⟨"SpreadDeskModel", "counts", "()Z"⟩, 40), (⟨"SpreadDeskModel", "isNumber", "(II)Z"⟩, 40), (⟨"SpreadDeskModel", "makes", "(IIII)V"⟩, 40), (⟨"SpreadDeskModel", "isSourceSign", "()Z"⟩, 40), (⟨"SpreadDeskModel", "partDone", "()V"⟩, 40), (⟨"SpreadDeskModel", "lastWaiting", "()I"⟩, 40), (⟨"SpreadDeskModel", "doesLast", "()V"⟩, 40)]
theorem lw_r3 : ∀ q ∈ lw_privs_3, lw_okq q := List.forall_mem_cons.mpr ⟨lw_p32, List.forall_mem_cons.mpr ⟨lw_p33, List.forall_mem_cons.mpr ⟨lw_p34, List.forall_mem_cons.mpr ⟨lw_p35, List.forall_mem_cons.mpr ⟨lw_p36, List.forall_mem_cons.mpr ⟨lw_p37, List.forall_mem_cons.mpr ⟨lw_p38, List.forall_mem_cons.mpr ⟨lw_p39, List.forall_mem_cons.mpr ⟨lw_p40, List.forall_mem_cons.mpr ⟨lw_p41, List.forall_mem_cons.mpr ⟨lw_p42, List.forall_mem_cons.mpr ⟨lw_p43, List.forall_mem_cons.mpr ⟨lw_p44, List.forall_mem_cons.mpr ⟨lw_p45, List.forall_mem_cons.mpr ⟨lw_p46, List.forall_mem_cons.mpr ⟨lw_p47, fun _ h => absurd h List.not_mem_nil⟩⟩⟩⟩⟩⟩⟩⟩⟩⟩⟩⟩⟩⟩⟩⟩
theorem lw_p48 : lw_okq (⟨"SpreadDeskModel", "readsBehind", "()Z"⟩, 40) := ⟨⟨by decide +kernel, by decide +kernel⟩, List.mem_of_getElem? (i := 582) (by decide +kernel), List.mem_of_getElem? (i := 800) (by decide +kernel), List.mem_of_getElem? (i := 801) (by decide +kernel)⟩
theorem lw_p49 : lw_okq (⟨"SpreadDeskModel", "signed", "()I"⟩, 40) := ⟨⟨by decide +kernel, by decide +kernel⟩, List.mem_of_getElem? (i := 582) (by decide +kernel), List.mem_of_getElem? (i := 804) (by decide +kernel), List.mem_of_getElem? (i := 805) (by decide +kernel)⟩
theorem lw_p50 : lw_okq (⟨"SpreadDeskModel", "jointOf", "(II)I"⟩, 40) := ⟨⟨by decide +kernel, by decide +kernel⟩, List.mem_of_getElem? (i := 582) (by decide +kernel), List.mem_of_getElem? (i := 820) (by decide +kernel), List.mem_of_getElem? (i := 821) (by decide +kernel)⟩
theorem lw_p51 : lw_okq (⟨"SpreadDeskModel", "notes", "()V"⟩, 40) := ⟨⟨by decide +kernel, by decide +kernel⟩, List.mem_of_getElem? (i := 582) (by decide +kernel), List.mem_of_getElem? (i := 828) (by decide +kernel), List.mem_of_getElem? (i := 829) (by decide +kernel)⟩
theorem lw_p52 : lw_okq (⟨"SpreadDeskModel", "isFormula", "(I)Z"⟩, 40) := ⟨⟨by decide +kernel, by decide +kernel⟩, List.mem_of_getElem? (i := 582) (by decide +kernel), List.mem_of_getElem? (i := 848) (by decide +kernel), List.mem_of_getElem? (i := 849) (by decide +kernel)⟩
theorem lw_p53 : lw_okq (⟨"SpreadDeskModel", "goes", "()V"⟩, 40) := ⟨⟨by decide +kernel, by decide +kernel⟩, List.mem_of_getElem? (i := 582) (by decide +kernel), List.mem_of_getElem? (i := 852) (by decide +kernel), List.mem_of_getElem? (i := 853) (by decide +kernel)⟩
theorem lw_p54 : lw_okq (⟨"SpreadDeskModel", "goesLeaf", "(I)V"⟩, 40) := ⟨⟨by decide +kernel, by decide +kernel⟩, List.mem_of_getElem? (i := 582) (by decide +kernel), List.mem_of_getElem? (i := 856) (by decide +kernel), List.mem_of_getElem? (i := 857) (by decide +kernel)⟩
theorem lw_p55 : lw_okq (⟨"SpreadDeskModel", "rootOf", "(I)I"⟩, 40) := ⟨⟨by decide +kernel, by decide +kernel⟩, List.mem_of_getElem? (i := 582) (by decide +kernel), List.mem_of_getElem? (i := 860) (by decide +kernel), List.mem_of_getElem? (i := 861) (by decide +kernel)⟩
theorem lw_p56 : lw_okq (⟨"SpreadDeskModel", "copiesNode", "(II)V"⟩, 40) := ⟨⟨by decide +kernel, by decide +kernel⟩, List.mem_of_getElem? (i := 582) (by decide +kernel), List.mem_of_getElem? (i := 864) (by decide +kernel), List.mem_of_getElem? (i := 865) (by decide +kernel)⟩
theorem lw_p57 : lw_okq (⟨"SpreadDeskModel", "goesOne", "(II)V"⟩, 40) := ⟨⟨by decide +kernel, by decide +kernel⟩, List.mem_of_getElem? (i := 582) (by decide +kernel), List.mem_of_getElem? (i := 868) (by decide +kernel), List.mem_of_getElem? (i := 869) (by decide +kernel)⟩
theorem lw_p58 : lw_okq (⟨"SpreadDeskModel", "goesTwo", "(III)V"⟩, 40) := ⟨⟨by decide +kernel, by decide +kernel⟩, List.mem_of_getElem? (i := 582) (by decide +kernel), List.mem_of_getElem? (i := 876) (by decide +kernel), List.mem_of_getElem? (i := 877) (by decide +kernel)⟩
theorem lw_p59 : lw_okq (⟨"SpreadDeskModel", "slopeOf", "(II)J"⟩, 40) := ⟨⟨by decide +kernel, by decide +kernel⟩, List.mem_of_getElem? (i := 582) (by decide +kernel), List.mem_of_getElem? (i := 884) (by decide +kernel), List.mem_of_getElem? (i := 885) (by decide +kernel)⟩
theorem lw_p60 : lw_okq (⟨"SpreadDeskModel", "togetherOf", "(III)J"⟩, 40) := ⟨⟨by decide +kernel, by decide +kernel⟩, List.mem_of_getElem? (i := 582) (by decide +kernel), List.mem_of_getElem? (i := 896) (by decide +kernel), List.mem_of_getElem? (i := 897) (by decide +kernel)⟩
theorem lw_p61 : lw_okq (⟨"SpreadDeskModel", "shareOf", "(II)J"⟩, 40) := ⟨⟨by decide +kernel, by decide +kernel⟩, List.mem_of_getElem? (i := 582) (by decide +kernel), List.mem_of_getElem? (i := 911) (by decide +kernel), List.mem_of_getElem? (i := 912) (by decide +kernel)⟩
theorem lw_p62 : lw_okq (⟨"SpreadDeskModel", "takesOf", "(II)J"⟩, 40) := ⟨⟨by decide +kernel, by decide +kernel⟩, List.mem_of_getElem? (i := 582) (by decide +kernel), List.mem_of_getElem? (i := 930) (by decide +kernel), List.mem_of_getElem? (i := 931) (by decide +kernel)⟩
theorem lw_p63 : lw_okq (⟨"SpreadDeskModel", "valueIf", "(III)J"⟩, 40) := ⟨⟨by decide +kernel, by decide +kernel⟩, List.mem_of_getElem? (i := 582) (by decide +kernel), List.mem_of_getElem? (i := 942) (by decide +kernel), List.mem_of_getElem? (i := 943) (by decide +kernel)⟩
def lw_privs_4 : List (MethodName × Nat) := [(⟨"SpreadDeskModel", "readsBehind", "()Z"⟩, 40), (⟨"SpreadDeskModel", "signed", "()I"⟩, 40), (⟨"SpreadDeskModel", "jointOf", "(II)I"⟩, 40), (⟨"SpreadDeskModel", "notes", "()V"⟩, 40), (⟨"SpreadDeskModel", "isFormula", "(I)Z"⟩, 40), (⟨"SpreadDeskModel", "goes", "()V"⟩, 40), (⟨"SpreadDeskModel", "goesLeaf", "(I)V"⟩, 40), (⟨"SpreadDeskModel", "rootOf", "(I)I"⟩, 40), (⟨"SpreadDeskModel", "copiesNode", "(II)V"⟩, 40), (⟨"SpreadDeskModel", "goesOne", "(II)V"⟩, 40), (⟨"SpreadDeskModel", "goesTwo", "(III)V"⟩, 40), (⟨"SpreadDeskModel", "slopeOf", "(II)J"⟩, 40), (⟨"SpreadDeskModel", "togetherOf", "(III)J"⟩, 40), (⟨"SpreadDeskModel", "shareOf", "(II)J"⟩, 40), (⟨"SpreadDeskModel", "takesOf", "(II)J"⟩, 40), (⟨"SpreadDeskModel", "valueIf", "(III)J"⟩, 40)]
theorem lw_r4 : ∀ q ∈ lw_privs_4, lw_okq q := List.forall_mem_cons.mpr ⟨lw_p48, List.forall_mem_cons.mpr ⟨lw_p49, List.forall_mem_cons.mpr ⟨lw_p50, List.forall_mem_cons.mpr ⟨lw_p51, List.forall_mem_cons.mpr ⟨lw_p52, List.forall_mem_cons.mpr ⟨lw_p53, List.forall_mem_cons.mpr ⟨lw_p54, List.forall_mem_cons.mpr ⟨lw_p55, List.forall_mem_cons.mpr ⟨lw_p56, List.forall_mem_cons.mpr ⟨lw_p57, List.forall_mem_cons.mpr ⟨lw_p58, List.forall_mem_cons.mpr ⟨lw_p59, List.forall_mem_cons.mpr ⟨lw_p60, List.forall_mem_cons.mpr ⟨lw_p61, List.forall_mem_cons.mpr ⟨lw_p62, List.forall_mem_cons.mpr ⟨lw_p63, fun _ h => absurd h List.not_mem_nil⟩⟩⟩⟩⟩⟩⟩⟩⟩⟩⟩⟩⟩⟩⟩⟩
def lw_privs : List (MethodName × Nat) := lw_privs_1 ++ (lw_privs_2 ++ (lw_privs_3 ++ (lw_privs_4)))
def lw_tbl : List Cond := k2_sels lw_privs ++ tables_1
theorem lw_privs_ok : ∀ q ∈ lw_privs, lw_okq q := by
  show ∀ q ∈ lw_privs_1 ++ (lw_privs_2 ++ (lw_privs_3 ++ (lw_privs_4))), lw_okq q
  exact List.forall_mem_append.mpr ⟨lw_r1, List.forall_mem_append.mpr ⟨lw_r2, List.forall_mem_append.mpr ⟨lw_r3, lw_r4⟩⟩⟩
def RX0 : String := "SpreadDesk$Figures"
def TX0 : u_T := fun k => match k with
  | 0 => ("SpreadDesk$Figures", "worth", "[I", true)
  | _ => ("SpreadDesk$Figures", "spread", "[I", true)
def tyX0 : Nat → FieldType := fun k => match k with
  | 0 => .array .int
  | _ => .array .int
theorem nmX0 : ∀ a, a < 2 → ∀ b, b < 2 → a ≠ b → (TX0 a).2.1 ≠ (TX0 b).2.1 := by decide +kernel
theorem tyX0_ok : ∀ k, k < 2 → parseFieldDescriptor (TX0 k).2.2.1 = some (tyX0 k) := by decide +kernel
abbrev cX0_init : ByteArray := prog_2_method_1_code
def yX0_init : MethodName := ⟨RX0, "<init>", "()V"⟩
abbrev cX0_worth : ByteArray := prog_2_method_2_code
def yX0_worth : MethodName := ⟨RX0, "worth", "(I)I"⟩
abbrev cX0_spread : ByteArray := prog_2_method_3_code
def yX0_spread : MethodName := ⟨RX0, "spread", "(II)I"⟩
abbrev cX0_setWorth : ByteArray := prog_2_method_4_code
def yX0_setWorth : MethodName := ⟨RX0, "setWorth", "(II)V"⟩
abbrev cX0_setSpread : ByteArray := prog_2_method_5_code
def yX0_setSpread : MethodName := ⟨RX0, "setSpread", "(III)V"⟩
abbrev cX0_reset : ByteArray := prog_2_method_6_code
def yX0_reset : MethodName := ⟨RX0, "reset", "()V"⟩
abbrev cX0_take : ByteArray := prog_2_method_7_code
def yX0_take : MethodName := ⟨RX0, "take", "(LSpreadDesk$Figures;)V"⟩
def RX1 : String := "SpreadDesk$Past"
def TX1 : u_T := fun k => match k with
  | 0 => ("SpreadDesk$Past", "source", "[I", true)
  | 1 => ("SpreadDesk$Past", "other", "[I", true)
  | 2 => ("SpreadDesk$Past", "was", "[I", true)
  | _ => ("SpreadDesk$Past", "known", "I", false)
def tyX1 : Nat → FieldType := fun k => match k with
  | 0 => .array .int
  | 1 => .array .int
  | 2 => .array .int
  | _ => .int
theorem nmX1 : ∀ a, a < 4 → ∀ b, b < 4 → a ≠ b → (TX1 a).2.1 ≠ (TX1 b).2.1 := by decide +kernel
theorem tyX1_ok : ∀ k, k < 4 → parseFieldDescriptor (TX1 k).2.2.1 = some (tyX1 k) := by decide +kernel
abbrev cX1_init : ByteArray := prog_3_method_1_code
def yX1_init : MethodName := ⟨RX1, "<init>", "()V"⟩
abbrev cX1_known : ByteArray := prog_3_method_2_code
def yX1_known : MethodName := ⟨RX1, "known", "()I"⟩
abbrev cX1_lose : ByteArray := prog_3_method_3_code
def yX1_lose : MethodName := ⟨RX1, "lose", "()V"⟩
abbrev cX1_add : ByteArray := prog_3_method_4_code
def yX1_add : MethodName := ⟨RX1, "add", "(III)V"⟩
abbrev cX1_takeBack : ByteArray := prog_3_method_5_code
def yX1_takeBack : MethodName := ⟨RX1, "takeBack", "(LSpreadDesk$Figures;)Z"⟩
abbrev cX1_loseOldest : ByteArray := prog_3_method_6_code
def yX1_loseOldest : MethodName := ⟨RX1, "loseOldest", "()V"⟩
def RX2 : String := "SpreadDesk$Reader"
def TX2 : u_T := fun k => match k with
  | 0 => ("SpreadDesk$Reader", "figures", "LSpreadDesk$Figures;", true)
  | 1 => ("SpreadDesk$Reader", "tape", "LSpreadDesk$Tape;", true)
  | 2 => ("SpreadDesk$Reader", "letter", "[I", true)
  | 3 => ("SpreadDesk$Reader", "length", "I", false)
  | 4 => ("SpreadDesk$Reader", "token", "I", false)
  | 5 => ("SpreadDesk$Reader", "place", "I", false)
  | 6 => ("SpreadDesk$Reader", "behind", "I", false)
  | 7 => ("SpreadDesk$Reader", "number", "I", false)
  | _ => ("SpreadDesk$Reader", "nodes", "I", false)
def tyX2 : Nat → FieldType := fun k => match k with
  | 0 => .object "SpreadDesk$Figures"
  | 1 => .object "SpreadDesk$Tape"
  | 2 => .array .int
  | 3 => .int
  | 4 => .int
  | 5 => .int
  | 6 => .int
  | 7 => .int
  | _ => .int
theorem nmX2 : ∀ a, a < 9 → ∀ b, b < 9 → a ≠ b → (TX2 a).2.1 ≠ (TX2 b).2.1 := by decide +kernel
theorem tyX2_ok : ∀ k, k < 9 → parseFieldDescriptor (TX2 k).2.2.1 = some (tyX2 k) := by decide +kernel
abbrev cX2_init : ByteArray := prog_4_method_1_code
def yX2_init : MethodName := ⟨RX2, "<init>", "()V"⟩
abbrev cX2_letters : ByteArray := prog_4_method_2_code
def yX2_letters : MethodName := ⟨RX2, "letters", "()I"⟩
abbrev cX2_drop : ByteArray := prog_4_method_3_code
def yX2_drop : MethodName := ⟨RX2, "drop", "()V"⟩
abbrev cX2_add : ByteArray := prog_4_method_4_code
def yX2_add : MethodName := ⟨RX2, "add", "(I)Z"⟩
abbrev cX2_read : ByteArray := prog_4_method_5_code
def yX2_read : MethodName := ⟨RX2, "read", "()I"⟩
abbrev cX2_readItem : ByteArray := prog_4_method_6_code
def yX2_readItem : MethodName := ⟨RX2, "readItem", "()Z"⟩
abbrev cX2_readSource : ByteArray := prog_4_method_7_code
def yX2_readSource : MethodName := ⟨RX2, "readSource", "()Z"⟩
abbrev cX2_readJoint : ByteArray := prog_4_method_8_code
def yX2_readJoint : MethodName := ⟨RX2, "readJoint", "()Z"⟩
abbrev cX2_readFormula : ByteArray := prog_4_method_9_code
def yX2_readFormula : MethodName := ⟨RX2, "readFormula", "()Z"⟩
abbrev cX2_readSum : ByteArray := prog_4_method_10_code
def yX2_readSum : MethodName := ⟨RX2, "readSum", "(I)I"⟩
abbrev cX2_readProduct : ByteArray := prog_4_method_11_code
def yX2_readProduct : MethodName := ⟨RX2, "readProduct", "(I)I"⟩
abbrev cX2_readPower : ByteArray := prog_4_method_12_code
def yX2_readPower : MethodName := ⟨RX2, "readPower", "(I)I"⟩
abbrev cX2_readPart : ByteArray := prog_4_method_13_code
def yX2_readPart : MethodName := ⟨RX2, "readPart", "(I)I"⟩
abbrev cX2_readBarePart : ByteArray := prog_4_method_14_code
def yX2_readBarePart : MethodName := ⟨RX2, "readBarePart", "(I)I"⟩
abbrev cX2_readInner : ByteArray := prog_4_method_15_code
def yX2_readInner : MethodName := ⟨RX2, "readInner", "(I)I"⟩
abbrev cX2_readEarlier : ByteArray := prog_4_method_16_code
def yX2_readEarlier : MethodName := ⟨RX2, "readEarlier", "()I"⟩
abbrev cX2_countNode : ByteArray := prog_4_method_17_code
def yX2_countNode : MethodName := ⟨RX2, "countNode", "()Z"⟩
abbrev cX2_passSign : ByteArray := prog_4_method_18_code
def yX2_passSign : MethodName := ⟨RX2, "passSign", "()I"⟩
abbrev cX2_sourceAtHand : ByteArray := prog_4_method_19_code
def yX2_sourceAtHand : MethodName := ⟨RX2, "sourceAtHand", "()I"⟩
abbrev cX2_pass : ByteArray := prog_4_method_20_code
def yX2_pass : MethodName := ⟨RX2, "pass", "()V"⟩
abbrev cX2_passDigits : ByteArray := prog_4_method_21_code
def yX2_passDigits : MethodName := ⟨RX2, "passDigits", "(I)V"⟩
abbrev cX2_isDigit : ByteArray := prog_4_method_22_code
def yX2_isDigit : MethodName := ⟨RX2, "isDigit", "(I)Z"⟩
def RX3 : String := "SpreadDesk$Sweep"
def TX3 : u_T := fun k => match k with
  | 0 => ("SpreadDesk$Sweep", "tape", "LSpreadDesk$Tape;", true)
  | 1 => ("SpreadDesk$Sweep", "figures", "LSpreadDesk$Figures;", true)
  | 2 => ("SpreadDesk$Sweep", "worth", "[J", true)
  | 3 => ("SpreadDesk$Sweep", "slope", "[J", true)
  | 4 => ("SpreadDesk$Sweep", "otherSlope", "[J", true)
  | _ => ("SpreadDesk$Sweep", "bend", "[J", true)
def tyX3 : Nat → FieldType := fun k => match k with
  | 0 => .object "SpreadDesk$Tape"
  | 1 => .object "SpreadDesk$Figures"
  | 2 => .array .long
  | 3 => .array .long
  | 4 => .array .long
  | _ => .array .long
theorem nmX3 : ∀ a, a < 6 → ∀ b, b < 6 → a ≠ b → (TX3 a).2.1 ≠ (TX3 b).2.1 := by decide +kernel
theorem tyX3_ok : ∀ k, k < 6 → parseFieldDescriptor (TX3 k).2.2.1 = some (tyX3 k) := by decide +kernel
abbrev cX3_init : ByteArray := prog_5_method_1_code
def yX3_init : MethodName := ⟨RX3, "<init>", "(LSpreadDesk$Tape;LSpreadDesk$Figures;)V"⟩
abbrev cX3_worth : ByteArray := prog_5_method_2_code
def yX3_worth : MethodName := ⟨RX3, "worth", "(III)J"⟩
abbrev cX3_slopeBy : ByteArray := prog_5_method_3_code
def yX3_slopeBy : MethodName := ⟨RX3, "slopeBy", "(II)J"⟩
abbrev cX3_bendBy : ByteArray := prog_5_method_4_code
def yX3_bendBy : MethodName := ⟨RX3, "bendBy", "(III)J"⟩
abbrev cX3_slopesInto : ByteArray := prog_5_method_5_code
def yX3_slopesInto : MethodName := ⟨RX3, "slopesInto", "([JI)V"⟩
abbrev cX3_walkWorth : ByteArray := prog_5_method_6_code
def yX3_walkWorth : MethodName := ⟨RX3, "walkWorth", "(III)V"⟩
abbrev cX3_worthOf : ByteArray := prog_5_method_7_code
def yX3_worthOf : MethodName := ⟨RX3, "worthOf", "(III)J"⟩
abbrev cX3_walkSlope : ByteArray := prog_5_method_8_code
def yX3_walkSlope : MethodName := ⟨RX3, "walkSlope", "([JII)V"⟩
abbrev cX3_slopeOf : ByteArray := prog_5_method_9_code
def yX3_slopeOf : MethodName := ⟨RX3, "slopeOf", "([JII)J"⟩
abbrev cX3_walkBend : ByteArray := prog_5_method_10_code
def yX3_walkBend : MethodName := ⟨RX3, "walkBend", "(I)V"⟩
abbrev cX3_bendOf : ByteArray := prog_5_method_11_code
def yX3_bendOf : MethodName := ⟨RX3, "bendOf", "(I)J"⟩
abbrev cX3_power : ByteArray := prog_5_method_12_code
def yX3_power : MethodName := ⟨RX3, "power", "(JI)J"⟩
abbrev cX3_at : ByteArray := prog_5_method_13_code
def yX3_at : MethodName := ⟨RX3, "at", "([JI)J"⟩
def RX4 : String := "SpreadDesk$Tape"
def TX4 : u_T := fun k => match k with
  | 0 => ("SpreadDesk$Tape", "kind", "[I", true)
  | 1 => ("SpreadDesk$Tape", "one", "[I", true)
  | 2 => ("SpreadDesk$Tape", "other", "[I", true)
  | 3 => ("SpreadDesk$Tape", "steps", "[I", true)
  | 4 => ("SpreadDesk$Tape", "names", "[I", true)
  | 5 => ("SpreadDesk$Tape", "stop", "[I", true)
  | 6 => ("SpreadDesk$Tape", "formulas", "I", false)
  | _ => ("SpreadDesk$Tape", "length", "I", false)
def tyX4 : Nat → FieldType := fun k => match k with
  | 0 => .array .int
  | 1 => .array .int
  | 2 => .array .int
  | 3 => .array .int
  | 4 => .array .int
  | 5 => .array .int
  | 6 => .int
  | _ => .int
theorem nmX4 : ∀ a, a < 8 → ∀ b, b < 8 → a ≠ b → (TX4 a).2.1 ≠ (TX4 b).2.1 := by decide +kernel
theorem tyX4_ok : ∀ k, k < 8 → parseFieldDescriptor (TX4 k).2.2.1 = some (tyX4 k) := by decide +kernel
abbrev cX4_init : ByteArray := prog_6_method_1_code
def yX4_init : MethodName := ⟨RX4, "<init>", "()V"⟩
abbrev cX4_formulas : ByteArray := prog_6_method_2_code
def yX4_formulas : MethodName := ⟨RX4, "formulas", "()I"⟩
abbrev cX4_start : ByteArray := prog_6_method_3_code
def yX4_start : MethodName := ⟨RX4, "start", "(I)I"⟩
abbrev cX4_stop : ByteArray := prog_6_method_4_code
def yX4_stop : MethodName := ⟨RX4, "stop", "(I)I"⟩
abbrev cX4_root : ByteArray := prog_6_method_5_code
def yX4_root : MethodName := ⟨RX4, "root", "(I)I"⟩
abbrev cX4_steps : ByteArray := prog_6_method_6_code
def yX4_steps : MethodName := ⟨RX4, "steps", "(I)I"⟩
abbrev cX4_names : ByteArray := prog_6_method_7_code
def yX4_names : MethodName := ⟨RX4, "names", "(I)I"⟩
abbrev cX4_reset : ByteArray := prog_6_method_8_code
def yX4_reset : MethodName := ⟨RX4, "reset", "()V"⟩
abbrev cX4_endFormula : ByteArray := prog_6_method_9_code
def yX4_endFormula : MethodName := ⟨RX4, "endFormula", "()V"⟩
abbrev cX4_addNumber : ByteArray := prog_6_method_10_code
def yX4_addNumber : MethodName := ⟨RX4, "addNumber", "(I)I"⟩
abbrev cX4_addSource : ByteArray := prog_6_method_11_code
def yX4_addSource : MethodName := ⟨RX4, "addSource", "(I)I"⟩
abbrev cX4_addOver : ByteArray := prog_6_method_12_code
def yX4_addOver : MethodName := ⟨RX4, "addOver", "(III)I"⟩
abbrev cX4_addBoth : ByteArray := prog_6_method_13_code
def yX4_addBoth : MethodName := ⟨RX4, "addBoth", "(III)I"⟩
abbrev cX4_take : ByteArray := prog_6_method_14_code
def yX4_take : MethodName := ⟨RX4, "take", "(LSpreadDesk$Tape;)V"⟩
abbrev cX4_add : ByteArray := prog_6_method_15_code
def yX4_add : MethodName := ⟨RX4, "add", "(IIIII)I"⟩
def RX5 : String := "SpreadDesk"
def TX5 : u_T := fun k => match k with
  | 0 => ("SpreadDesk", "figures", "LSpreadDesk$Figures;", true)
  | 1 => ("SpreadDesk", "tape", "LSpreadDesk$Tape;", true)
  | 2 => ("SpreadDesk", "reader", "LSpreadDesk$Reader;", true)
  | 3 => ("SpreadDesk", "past", "LSpreadDesk$Past;", true)
  | 4 => ("SpreadDesk", "sweep", "LSpreadDesk$Sweep;", true)
  | 5 => ("SpreadDesk", "image0", "LSpreadDesk$Figures;", true)
  | 6 => ("SpreadDesk", "image1", "LSpreadDesk$Figures;", true)
  | 7 => ("SpreadDesk", "kept0", "Z", false)
  | 8 => ("SpreadDesk", "kept1", "Z", false)
  | 9 => ("SpreadDesk", "seenFormula", "[I", true)
  | 10 => ("SpreadDesk", "seenValue", "[J", true)
  | 11 => ("SpreadDesk", "seen", "I", false)
  | 12 => ("SpreadDesk", "slopes", "[J", true)
  | _ => ("SpreadDesk", "otherSlopes", "[J", true)
def tyX5 : Nat → FieldType := fun k => match k with
  | 0 => .object "SpreadDesk$Figures"
  | 1 => .object "SpreadDesk$Tape"
  | 2 => .object "SpreadDesk$Reader"
  | 3 => .object "SpreadDesk$Past"
  | 4 => .object "SpreadDesk$Sweep"
  | 5 => .object "SpreadDesk$Figures"
  | 6 => .object "SpreadDesk$Figures"
  | 7 => .boolean
  | 8 => .boolean
  | 9 => .array .int
  | 10 => .array .long
  | 11 => .int
  | 12 => .array .long
  | _ => .array .long
theorem nmX5 : ∀ a, a < 14 → ∀ b, b < 14 → a ≠ b → (TX5 a).2.1 ≠ (TX5 b).2.1 := by decide +kernel
theorem tyX5_ok : ∀ k, k < 14 → parseFieldDescriptor (TX5 k).2.2.1 = some (tyX5 k) := by decide +kernel
abbrev cX5_init : ByteArray := prog_1_method_1_code
def yX5_init : MethodName := ⟨RX5, "<init>", "()V"⟩
abbrev cX5_type : ByteArray := prog_1_method_2_code
def yX5_type : MethodName := ⟨RX5, "type", "(I)I"⟩
abbrev cX5_clear : ByteArray := prog_1_method_3_code
def yX5_clear : MethodName := ⟨RX5, "clear", "()I"⟩
abbrev cX5_desk : ByteArray := prog_1_method_4_code
def yX5_desk : MethodName := ⟨RX5, "desk", "()I"⟩
abbrev cX5_source : ByteArray := prog_1_method_5_code
def yX5_source : MethodName := ⟨RX5, "source", "(II)J"⟩
abbrev cX5_joint : ByteArray := prog_1_method_6_code
def yX5_joint : MethodName := ⟨RX5, "joint", "(II)J"⟩
abbrev cX5_values : ByteArray := prog_1_method_7_code
def yX5_values : MethodName := ⟨RX5, "values", "(II)I"⟩
abbrev cX5_spreads : ByteArray := prog_1_method_8_code
def yX5_spreads : MethodName := ⟨RX5, "spreads", "(II)I"⟩
abbrev cX5_joints : ByteArray := prog_1_method_9_code
def yX5_joints : MethodName := ⟨RX5, "joints", "(III)I"⟩
abbrev cX5_undo : ByteArray := prog_1_method_10_code
def yX5_undo : MethodName := ⟨RX5, "undo", "()I"⟩
abbrev cX5_value : ByteArray := prog_1_method_11_code
def yX5_value : MethodName := ⟨RX5, "value", "(I)J"⟩
abbrev cX5_slope : ByteArray := prog_1_method_12_code
def yX5_slope : MethodName := ⟨RX5, "slope", "(II)J"⟩
abbrev cX5_bend : ByteArray := prog_1_method_13_code
def yX5_bend : MethodName := ⟨RX5, "bend", "(III)J"⟩
abbrev cX5_whole : ByteArray := prog_1_method_14_code
def yX5_whole : MethodName := ⟨RX5, "whole", "(I)J"⟩
abbrev cX5_together : ByteArray := prog_1_method_15_code
def yX5_together : MethodName := ⟨RX5, "together", "(II)J"⟩
abbrev cX5_share : ByteArray := prog_1_method_16_code
def yX5_share : MethodName := ⟨RX5, "share", "(II)J"⟩
abbrev cX5_left : ByteArray := prog_1_method_17_code
def yX5_left : MethodName := ⟨RX5, "left", "(II)J"⟩
abbrev cX5_fewest : ByteArray := prog_1_method_18_code
def yX5_fewest : MethodName := ⟨RX5, "fewest", "(IJ)I"⟩
abbrev cX5_takes : ByteArray := prog_1_method_19_code
def yX5_takes : MethodName := ⟨RX5, "takes", "(II)J"⟩
abbrev cX5_first : ByteArray := prog_1_method_20_code
def yX5_first : MethodName := ⟨RX5, "first", "(II)I"⟩
abbrev cX5_off : ByteArray := prog_1_method_21_code
def yX5_off : MethodName := ⟨RX5, "off", "(III)J"⟩
abbrev cX5_sees : ByteArray := prog_1_method_22_code
def yX5_sees : MethodName := ⟨RX5, "sees", "(IJ)I"⟩
abbrev cX5_forget : ByteArray := prog_1_method_23_code
def yX5_forget : MethodName := ⟨RX5, "forget", "()I"⟩
abbrev cX5_unseen : ByteArray := prog_1_method_24_code
def yX5_unseen : MethodName := ⟨RX5, "unseen", "(I)I"⟩
abbrev cX5_keep : ByteArray := prog_1_method_25_code
def yX5_keep : MethodName := ⟨RX5, "keep", "(I)I"⟩
abbrev cX5_back : ByteArray := prog_1_method_26_code
def yX5_back : MethodName := ⟨RX5, "back", "(I)I"⟩
abbrev cX5_formula : ByteArray := prog_1_method_27_code
def yX5_formula : MethodName := ⟨RX5, "formula", "(II)I"⟩
abbrev cX5_count : ByteArray := prog_1_method_28_code
def yX5_count : MethodName := ⟨RX5, "count", "(I)I"⟩
abbrev cX5_isSource : ByteArray := prog_1_method_29_code
def yX5_isSource : MethodName := ⟨RX5, "isSource", "(I)Z"⟩
abbrev cX5_isMove : ByteArray := prog_1_method_30_code
def yX5_isMove : MethodName := ⟨RX5, "isMove", "(I)Z"⟩
abbrev cX5_isTold : ByteArray := prog_1_method_31_code
def yX5_isTold : MethodName := ⟨RX5, "isTold", "(I)Z"⟩
abbrev cX5_remains : ByteArray := prog_1_method_32_code
def yX5_remains : MethodName := ⟨RX5, "remains", "(II)J"⟩
abbrev cX5_taken : ByteArray := prog_1_method_33_code
def yX5_taken : MethodName := ⟨RX5, "taken", "(I)J"⟩
abbrev cX5_product : ByteArray := prog_1_method_34_code
def yX5_product : MethodName := ⟨RX5, "product", "([J[JI)J"⟩
abbrev cX5_part : ByteArray := prog_1_method_35_code
def yX5_part : MethodName := ⟨RX5, "part", "([J[JII)J"⟩
abbrev cX5_explains : ByteArray := prog_1_method_36_code
def yX5_explains : MethodName := ⟨RX5, "explains", "(II)Z"⟩
def RX6 : String := "SpreadDeskModel"
def TX6 : u_T := fun k => match k with
  | 0 => ("SpreadDeskModel", "thrown", "I", false)
  | 1 => ("SpreadDeskModel", "text", "[I", true)
  | 2 => ("SpreadDeskModel", "typed", "I", false)
  | 3 => ("SpreadDeskModel", "at", "I", false)
  | 4 => ("SpreadDeskModel", "token", "I", false)
  | 5 => ("SpreadDeskModel", "place", "I", false)
  | 6 => ("SpreadDeskModel", "value", "I", false)
  | 7 => ("SpreadDeskModel", "fault", "I", false)
  | 8 => ("SpreadDeskModel", "formulas", "I", false)
  | 9 => ("SpreadDeskModel", "size", "[I", true)
  | 10 => ("SpreadDeskModel", "sort", "[I", true)
  | 11 => ("SpreadDeskModel", "arg", "[I", true)
  | 12 => ("SpreadDeskModel", "left", "[I", true)
  | 13 => ("SpreadDeskModel", "right", "[I", true)
  | 14 => ("SpreadDeskModel", "draftFormulas", "I", false)
  | 15 => ("SpreadDeskModel", "draftSize", "[I", true)
  | 16 => ("SpreadDeskModel", "draftSort", "[I", true)
  | 17 => ("SpreadDeskModel", "draftArg", "[I", true)
  | 18 => ("SpreadDeskModel", "draftLeft", "[I", true)
  | 19 => ("SpreadDeskModel", "draftRight", "[I", true)
  | 20 => ("SpreadDeskModel", "draft", "[I", true)
  | 21 => ("SpreadDeskModel", "s", "[I", true)
  | 22 => ("SpreadDeskModel", "undos", "[I", true)
  | 23 => ("SpreadDeskModel", "undoMany", "I", false)
  | 24 => ("SpreadDeskModel", "kept", "[I", true)
  | 25 => ("SpreadDeskModel", "isKept", "[Z", true)
  | 26 => ("SpreadDeskModel", "seenFormula", "[I", true)
  | 27 => ("SpreadDeskModel", "seenValue", "[J", true)
  | 28 => ("SpreadDeskModel", "seenMany", "I", false)
  | 29 => ("SpreadDeskModel", "parts", "[I", true)
  | 30 => ("SpreadDeskModel", "partMany", "I", false)
  | 31 => ("SpreadDeskModel", "waiting", "[I", true)
  | 32 => ("SpreadDeskModel", "waitMany", "I", false)
  | 33 => ("SpreadDeskModel", "opened", "I", false)
  | 34 => ("SpreadDeskModel", "nodes", "I", false)
  | 35 => ("SpreadDeskModel", "worth", "[J", true)
  | 36 => ("SpreadDeskModel", "slopes", "[J", true)
  | 37 => ("SpreadDeskModel", "bends", "[J", true)
  | 38 => ("SpreadDeskModel", "stepsOf", "[I", true)
  | _ => ("SpreadDeskModel", "named", "[I", true)
def tyX6 : Nat → FieldType := fun k => match k with
  | 0 => .int
  | 1 => .array .int
  | 2 => .int
  | 3 => .int
  | 4 => .int
  | 5 => .int
  | 6 => .int
  | 7 => .int
  | 8 => .int
  | 9 => .array .int
  | 10 => .array .int
  | 11 => .array .int
  | 12 => .array .int
  | 13 => .array .int
  | 14 => .int
  | 15 => .array .int
  | 16 => .array .int
  | 17 => .array .int
  | 18 => .array .int
  | 19 => .array .int
  | 20 => .array .int
  | 21 => .array .int
  | 22 => .array .int
  | 23 => .int
  | 24 => .array .int
  | 25 => .array .boolean
  | 26 => .array .int
  | 27 => .array .long
  | 28 => .int
  | 29 => .array .int
  | 30 => .int
  | 31 => .array .int
  | 32 => .int
  | 33 => .int
  | 34 => .int
  | 35 => .array .long
  | 36 => .array .long
  | 37 => .array .long
  | 38 => .array .int
  | _ => .array .int
theorem nmX6 : ∀ a, a < 40 → ∀ b, b < 40 → a ≠ b → (TX6 a).2.1 ≠ (TX6 b).2.1 := by decide +kernel
theorem tyX6_ok : ∀ k, k < 40 → parseFieldDescriptor (TX6 k).2.2.1 = some (tyX6 k) := by decide +kernel
abbrev cX6_init : ByteArray := prog_8_method_1_code
def yX6_init : MethodName := ⟨RX6, "<init>", "()V"⟩
abbrev cX6_in : ByteArray := prog_8_method_3_code
def yX6_in : MethodName := ⟨RX6, "in", "(III)Z"⟩
abbrev cX6_has : ByteArray := prog_8_method_4_code
def yX6_has : MethodName := ⟨RX6, "has", "(II)Z"⟩
abbrev cX6_ones : ByteArray := prog_8_method_5_code
def yX6_ones : MethodName := ⟨RX6, "ones", "(I)I"⟩
abbrev cX6_type : ByteArray := prog_8_method_6_code
def yX6_type : MethodName := ⟨RX6, "type", "(I)I"⟩
abbrev cX6_clear : ByteArray := prog_8_method_7_code
def yX6_clear : MethodName := ⟨RX6, "clear", "()I"⟩
abbrev cX6_letterAt : ByteArray := prog_8_method_8_code
def yX6_letterAt : MethodName := ⟨RX6, "letterAt", "(I)I"⟩
abbrev cX6_isSign : ByteArray := prog_8_method_9_code
def yX6_isSign : MethodName := ⟨RX6, "isSign", "(I)Z"⟩
abbrev cX6_advances : ByteArray := prog_8_method_10_code
def yX6_advances : MethodName := ⟨RX6, "advances", "()V"⟩
abbrev cX6_isWell : ByteArray := prog_8_method_11_code
def yX6_isWell : MethodName := ⟨RX6, "isWell", "()Z"⟩
abbrev cX6_takes : ByteArray := prog_8_method_12_code
def yX6_takes : MethodName := ⟨RX6, "takes", "(Z)I"⟩
abbrev cX6_isThis : ByteArray := prog_8_method_13_code
def yX6_isThis : MethodName := ⟨RX6, "isThis", "(I)Z"⟩
abbrev cX6_isSourceSign : ByteArray := prog_8_method_14_code
def yX6_isSourceSign : MethodName := ⟨RX6, "isSourceSign", "()Z"⟩
abbrev cX6_isNumber : ByteArray := prog_8_method_15_code
def yX6_isNumber : MethodName := ⟨RX6, "isNumber", "(II)Z"⟩
abbrev cX6_signed : ByteArray := prog_8_method_16_code
def yX6_signed : MethodName := ⟨RX6, "signed", "()I"⟩
abbrev cX6_begins : ByteArray := prog_8_method_17_code
def yX6_begins : MethodName := ⟨RX6, "begins", "()V"⟩
abbrev cX6_counts : ByteArray := prog_8_method_18_code
def yX6_counts : MethodName := ⟨RX6, "counts", "()Z"⟩
abbrev cX6_makes : ByteArray := prog_8_method_19_code
def yX6_makes : MethodName := ⟨RX6, "makes", "(IIII)V"⟩
abbrev cX6_lastWaiting : ByteArray := prog_8_method_20_code
def yX6_lastWaiting : MethodName := ⟨RX6, "lastWaiting", "()I"⟩
abbrev cX6_waits : ByteArray := prog_8_method_21_code
def yX6_waits : MethodName := ⟨RX6, "waits", "(I)V"⟩
abbrev cX6_doesLast : ByteArray := prog_8_method_22_code
def yX6_doesLast : MethodName := ⟨RX6, "doesLast", "()V"⟩
abbrev cX6_partDone : ByteArray := prog_8_method_23_code
def yX6_partDone : MethodName := ⟨RX6, "partDone", "()V"⟩
abbrev cX6_readsPart : ByteArray := prog_8_method_24_code
def yX6_readsPart : MethodName := ⟨RX6, "readsPart", "()Z"⟩
abbrev cX6_readsBehind : ByteArray := prog_8_method_25_code
def yX6_readsBehind : MethodName := ⟨RX6, "readsBehind", "()Z"⟩
abbrev cX6_readsSum : ByteArray := prog_8_method_26_code
def yX6_readsSum : MethodName := ⟨RX6, "readsSum", "()V"⟩
abbrev cX6_readsItem : ByteArray := prog_8_method_27_code
def yX6_readsItem : MethodName := ⟨RX6, "readsItem", "(I)V"⟩
abbrev cX6_desk : ByteArray := prog_8_method_28_code
def yX6_desk : MethodName := ⟨RX6, "desk", "()I"⟩
abbrev cX6_settles : ByteArray := prog_8_method_29_code
def yX6_settles : MethodName := ⟨RX6, "settles", "()V"⟩
abbrev cX6_isFormula : ByteArray := prog_8_method_30_code
def yX6_isFormula : MethodName := ⟨RX6, "isFormula", "(I)Z"⟩
abbrev cX6_isSource : ByteArray := prog_8_method_31_code
def yX6_isSource : MethodName := ⟨RX6, "isSource", "(I)Z"⟩
abbrev cX6_source : ByteArray := prog_8_method_32_code
def yX6_source : MethodName := ⟨RX6, "source", "(II)J"⟩
abbrev cX6_jointOf : ByteArray := prog_8_method_33_code
def yX6_jointOf : MethodName := ⟨RX6, "jointOf", "(II)I"⟩
abbrev cX6_joint : ByteArray := prog_8_method_34_code
def yX6_joint : MethodName := ⟨RX6, "joint", "(II)J"⟩
abbrev cX6_notes : ByteArray := prog_8_method_35_code
def yX6_notes : MethodName := ⟨RX6, "notes", "()V"⟩
abbrev cX6_values : ByteArray := prog_8_method_36_code
def yX6_values : MethodName := ⟨RX6, "values", "(II)I"⟩
abbrev cX6_spreads : ByteArray := prog_8_method_37_code
def yX6_spreads : MethodName := ⟨RX6, "spreads", "(II)I"⟩
abbrev cX6_joints : ByteArray := prog_8_method_38_code
def yX6_joints : MethodName := ⟨RX6, "joints", "(III)I"⟩
abbrev cX6_undo : ByteArray := prog_8_method_39_code
def yX6_undo : MethodName := ⟨RX6, "undo", "()I"⟩
abbrev cX6_power : ByteArray := prog_8_method_40_code
def yX6_power : MethodName := ⟨RX6, "power", "(JI)J"⟩
abbrev cX6_copiesNode : ByteArray := prog_8_method_41_code
def yX6_copiesNode : MethodName := ⟨RX6, "copiesNode", "(II)V"⟩
abbrev cX6_goesLeaf : ByteArray := prog_8_method_42_code
def yX6_goesLeaf : MethodName := ⟨RX6, "goesLeaf", "(I)V"⟩
abbrev cX6_goesOne : ByteArray := prog_8_method_43_code
def yX6_goesOne : MethodName := ⟨RX6, "goesOne", "(II)V"⟩
abbrev cX6_goesTwo : ByteArray := prog_8_method_44_code
def yX6_goesTwo : MethodName := ⟨RX6, "goesTwo", "(III)V"⟩
abbrev cX6_rootOf : ByteArray := prog_8_method_45_code
def yX6_rootOf : MethodName := ⟨RX6, "rootOf", "(I)I"⟩
abbrev cX6_goes : ByteArray := prog_8_method_46_code
def yX6_goes : MethodName := ⟨RX6, "goes", "()V"⟩
abbrev cX6_value : ByteArray := prog_8_method_47_code
def yX6_value : MethodName := ⟨RX6, "value", "(I)J"⟩
abbrev cX6_slopeOf : ByteArray := prog_8_method_48_code
def yX6_slopeOf : MethodName := ⟨RX6, "slopeOf", "(II)J"⟩
abbrev cX6_slope : ByteArray := prog_8_method_49_code
def yX6_slope : MethodName := ⟨RX6, "slope", "(II)J"⟩
abbrev cX6_bend : ByteArray := prog_8_method_50_code
def yX6_bend : MethodName := ⟨RX6, "bend", "(III)J"⟩
abbrev cX6_togetherOf : ByteArray := prog_8_method_51_code
def yX6_togetherOf : MethodName := ⟨RX6, "togetherOf", "(III)J"⟩
abbrev cX6_shareOf : ByteArray := prog_8_method_52_code
def yX6_shareOf : MethodName := ⟨RX6, "shareOf", "(II)J"⟩
abbrev cX6_takesOf : ByteArray := prog_8_method_53_code
def yX6_takesOf : MethodName := ⟨RX6, "takesOf", "(II)J"⟩
abbrev cX6_whole : ByteArray := prog_8_method_54_code
def yX6_whole : MethodName := ⟨RX6, "whole", "(I)J"⟩
abbrev cX6_together : ByteArray := prog_8_method_55_code
def yX6_together : MethodName := ⟨RX6, "together", "(II)J"⟩
abbrev cX6_share : ByteArray := prog_8_method_56_code
def yX6_share : MethodName := ⟨RX6, "share", "(II)J"⟩
abbrev cX6_left : ByteArray := prog_8_method_57_code
def yX6_left : MethodName := ⟨RX6, "left", "(II)J"⟩
abbrev cX6_fewest : ByteArray := prog_8_method_58_code
def yX6_fewest : MethodName := ⟨RX6, "fewest", "(IJ)I"⟩
abbrev cX6_takes_ : ByteArray := prog_8_method_59_code
def yX6_takes_ : MethodName := ⟨RX6, "takes", "(II)J"⟩
abbrev cX6_first : ByteArray := prog_8_method_60_code
def yX6_first : MethodName := ⟨RX6, "first", "(II)I"⟩
abbrev cX6_valueIf : ByteArray := prog_8_method_61_code
def yX6_valueIf : MethodName := ⟨RX6, "valueIf", "(III)J"⟩
abbrev cX6_off : ByteArray := prog_8_method_62_code
def yX6_off : MethodName := ⟨RX6, "off", "(III)J"⟩
abbrev cX6_sees : ByteArray := prog_8_method_63_code
def yX6_sees : MethodName := ⟨RX6, "sees", "(IJ)I"⟩
abbrev cX6_forget : ByteArray := prog_8_method_64_code
def yX6_forget : MethodName := ⟨RX6, "forget", "()I"⟩
abbrev cX6_unseen : ByteArray := prog_8_method_65_code
def yX6_unseen : MethodName := ⟨RX6, "unseen", "(I)I"⟩
abbrev cX6_keep : ByteArray := prog_8_method_66_code
def yX6_keep : MethodName := ⟨RX6, "keep", "(I)I"⟩
abbrev cX6_back : ByteArray := prog_8_method_67_code
def yX6_back : MethodName := ⟨RX6, "back", "(I)I"⟩
abbrev cX6_formula : ByteArray := prog_8_method_68_code
def yX6_formula : MethodName := ⟨RX6, "formula", "(II)I"⟩
abbrev cX6_count : ByteArray := prog_8_method_69_code
def yX6_count : MethodName := ⟨RX6, "count", "(I)I"⟩
def RJ6 : String := "java/lang/Integer"
def TJ6 : u_T := fun k => match k with
  | _ => ("", "", "", false)
def tyJ6 : Nat → FieldType := fun k => match k with
  | _ => .int
theorem nmJ6 : ∀ a, a < 0 → ∀ b, b < 0 → a ≠ b → (TJ6 a).2.1 ≠ (TJ6 b).2.1 := by decide +kernel
theorem tyJ6_ok : ∀ k, k < 0 → parseFieldDescriptor (TJ6 k).2.2.1 = some (tyJ6 k) := by decide +kernel
abbrev cJ6_bitCount_0f7a4 : ByteArray := prog_9_method_49_code
def yJ6_bitCount_0f7a4 : MethodName := ⟨RJ6, "bitCount", "(I)I"⟩
def RL : String := "SpreadDeskLaw"
abbrev cL_law : ByteArray := code
def yL_law : MethodName := ⟨RL, "law", "([I)Z"⟩
