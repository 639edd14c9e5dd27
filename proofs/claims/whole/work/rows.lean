section
-- ===== PART A: goes FIRST, ahead of the names: the tables' words, and 'selects' of the private methods out of them =====
/-- a private method of a class that the tables say can be made, by its rows of tables_1 -/
def lw_okq (q : MethodName × Nat) : Prop := (q.1.cls ≠ "java/lang/invoke/MethodHandle" ∧ q.1.cls ≠ "java/lang/invoke/VarHandle") ∧ Cond.instantiable q.1.cls q.2 ∈ tables_1 ∧ Cond.privateMethod q.1 ∈ tables_1 ∧ Cond.instanceMethod q.1 ∈ tables_1
theorem lw_p0 : lw_okq (⟨"SpreadDesk$Reader", "pass", "()V"⟩, 9) := ⟨⟨by decide +kernel, by decide +kernel⟩, List.mem_of_getElem? (i := 66) (by decide +kernel), List.mem_of_getElem? (i := 230) (by decide +kernel), List.mem_of_getElem? (i := 231) (by decide +kernel)⟩
theorem lw_p1 : lw_okq (⟨"SpreadDesk$Reader", "passDigits", "(I)V"⟩, 9) := ⟨⟨by decide +kernel, by decide +kernel⟩, List.mem_of_getElem? (i := 66) (by decide +kernel), List.mem_of_getElem? (i := 237) (by decide +kernel), List.mem_of_getElem? (i := 238) (by decide +kernel)⟩
theorem lw_p2 : lw_okq (⟨"SpreadDesk$Reader", "readItem", "()Z"⟩, 9) := ⟨⟨by decide +kernel, by decide +kernel⟩, List.mem_of_getElem? (i := 66) (by decide +kernel), List.mem_of_getElem? (i := 241) (by decide +kernel), List.mem_of_getElem? (i := 242) (by decide +kernel)⟩
theorem lw_p3 : lw_okq (⟨"SpreadDesk$Reader", "readSource", "()Z"⟩, 9) := ⟨⟨by decide +kernel, by decide +kernel⟩, List.mem_of_getElem? (i := 66) (by decide +kernel), List.mem_of_getElem? (i := 245) (by decide +kernel), List.mem_of_getElem? (i := 246) (by decide +kernel)⟩
theorem lw_p4 : lw_okq (⟨"SpreadDesk$Reader", "sourceAtHand", "()I"⟩, 9) := ⟨⟨by decide +kernel, by decide +kernel⟩, List.mem_of_getElem? (i := 66) (by decide +kernel), List.mem_of_getElem? (i := 249) (by decide +kernel), List.mem_of_getElem? (i := 250) (by decide +kernel)⟩
theorem lw_p5 : lw_okq (⟨"SpreadDesk$Reader", "passSign", "()I"⟩, 9) := ⟨⟨by decide +kernel, by decide +kernel⟩, List.mem_of_getElem? (i := 66) (by decide +kernel), List.mem_of_getElem? (i := 256) (by decide +kernel), List.mem_of_getElem? (i := 257) (by decide +kernel)⟩
theorem lw_p6 : lw_okq (⟨"SpreadDesk$Reader", "readJoint", "()Z"⟩, 9) := ⟨⟨by decide +kernel, by decide +kernel⟩, List.mem_of_getElem? (i := 66) (by decide +kernel), List.mem_of_getElem? (i := 269) (by decide +kernel), List.mem_of_getElem? (i := 270) (by decide +kernel)⟩
theorem lw_p7 : lw_okq (⟨"SpreadDesk$Reader", "readFormula", "()Z"⟩, 9) := ⟨⟨by decide +kernel, by decide +kernel⟩, List.mem_of_getElem? (i := 66) (by decide +kernel), List.mem_of_getElem? (i := 273) (by decide +kernel), List.mem_of_getElem? (i := 274) (by decide +kernel)⟩
theorem lw_p8 : lw_okq (⟨"SpreadDesk$Reader", "readSum", "(I)I"⟩, 9) := ⟨⟨by decide +kernel, by decide +kernel⟩, List.mem_of_getElem? (i := 66) (by decide +kernel), List.mem_of_getElem? (i := 281) (by decide +kernel), List.mem_of_getElem? (i := 282) (by decide +kernel)⟩
theorem lw_p9 : lw_okq (⟨"SpreadDesk$Reader", "readProduct", "(I)I"⟩, 9) := ⟨⟨by decide +kernel, by decide +kernel⟩, List.mem_of_getElem? (i := 66) (by decide +kernel), List.mem_of_getElem? (i := 285) (by decide +kernel), List.mem_of_getElem? (i := 286) (by decide +kernel)⟩
theorem lw_p10 : lw_okq (⟨"SpreadDesk$Reader", "readPower", "(I)I"⟩, 9) := ⟨⟨by decide +kernel, by decide +kernel⟩, List.mem_of_getElem? (i := 66) (by decide +kernel), List.mem_of_getElem? (i := 289) (by decide +kernel), List.mem_of_getElem? (i := 290) (by decide +kernel)⟩
theorem lw_p11 : lw_okq (⟨"SpreadDesk$Reader", "readPart", "(I)I"⟩, 9) := ⟨⟨by decide +kernel, by decide +kernel⟩, List.mem_of_getElem? (i := 66) (by decide +kernel), List.mem_of_getElem? (i := 293) (by decide +kernel), List.mem_of_getElem? (i := 294) (by decide +kernel)⟩
theorem lw_p12 : lw_okq (⟨"SpreadDesk$Reader", "countNode", "()Z"⟩, 9) := ⟨⟨by decide +kernel, by decide +kernel⟩, List.mem_of_getElem? (i := 66) (by decide +kernel), List.mem_of_getElem? (i := 297) (by decide +kernel), List.mem_of_getElem? (i := 298) (by decide +kernel)⟩
theorem lw_p13 : lw_okq (⟨"SpreadDesk$Reader", "readBarePart", "(I)I"⟩, 9) := ⟨⟨by decide +kernel, by decide +kernel⟩, List.mem_of_getElem? (i := 66) (by decide +kernel), List.mem_of_getElem? (i := 301) (by decide +kernel), List.mem_of_getElem? (i := 302) (by decide +kernel)⟩
theorem lw_p14 : lw_okq (⟨"SpreadDesk$Reader", "readInner", "(I)I"⟩, 9) := ⟨⟨by decide +kernel, by decide +kernel⟩, List.mem_of_getElem? (i := 66) (by decide +kernel), List.mem_of_getElem? (i := 305) (by decide +kernel), List.mem_of_getElem? (i := 306) (by decide +kernel)⟩
theorem lw_p15 : lw_okq (⟨"SpreadDesk$Reader", "readEarlier", "()I"⟩, 9) := ⟨⟨by decide +kernel, by decide +kernel⟩, List.mem_of_getElem? (i := 66) (by decide +kernel), List.mem_of_getElem? (i := 309) (by decide +kernel), List.mem_of_getElem? (i := 310) (by decide +kernel)⟩
def lw_privs_1 : List (MethodName × Nat) := [(⟨"SpreadDesk$Reader", "pass", "()V"⟩, 9), (⟨"SpreadDesk$Reader", "passDigits", "(I)V"⟩, 9), (⟨"SpreadDesk$Reader", "readItem", "()Z"⟩, 9), (⟨"SpreadDesk$Reader", "readSource", "()Z"⟩, 9), (⟨"SpreadDesk$Reader", "sourceAtHand", "()I"⟩, 9), (⟨"SpreadDesk$Reader", "passSign", "()I"⟩, 9), (⟨"SpreadDesk$Reader", "readJoint", "()Z"⟩, 9), (⟨"SpreadDesk$Reader", "readFormula", "()Z"⟩, 9), (⟨"SpreadDesk$Reader", "readSum", "(I)I"⟩, 9), (⟨"SpreadDesk$Reader", "readProduct", "(I)I"⟩, 9), (⟨"SpreadDesk$Reader", "readPower", "(I)I"⟩, 9), (⟨"SpreadDesk$Reader", "readPart", "(I)I"⟩, 9), (⟨"SpreadDesk$Reader", "countNode", "()Z"⟩, 9), (⟨"SpreadDesk$Reader", "readBarePart", "(I)I"⟩, 9), (⟨"SpreadDesk$Reader", "readInner", "(I)I"⟩, 9), (⟨"SpreadDesk$Reader", "readEarlier", "()I"⟩, 9)]
theorem lw_r1 : ∀ q ∈ lw_privs_1, lw_okq q := List.forall_mem_cons.mpr ⟨lw_p0, List.forall_mem_cons.mpr ⟨lw_p1, List.forall_mem_cons.mpr ⟨lw_p2, List.forall_mem_cons.mpr ⟨lw_p3, List.forall_mem_cons.mpr ⟨lw_p4, List.forall_mem_cons.mpr ⟨lw_p5, List.forall_mem_cons.mpr ⟨lw_p6, List.forall_mem_cons.mpr ⟨lw_p7, List.forall_mem_cons.mpr ⟨lw_p8, List.forall_mem_cons.mpr ⟨lw_p9, List.forall_mem_cons.mpr ⟨lw_p10, List.forall_mem_cons.mpr ⟨lw_p11, List.forall_mem_cons.mpr ⟨lw_p12, List.forall_mem_cons.mpr ⟨lw_p13, List.forall_mem_cons.mpr ⟨lw_p14, List.forall_mem_cons.mpr ⟨lw_p15, fun _ h => absurd h List.not_mem_nil⟩⟩⟩⟩⟩⟩⟩⟩⟩⟩⟩⟩⟩⟩⟩⟩
theorem lw_p16 : lw_okq (⟨"SpreadDesk$Tape", "add", "(IIIII)I"⟩, 8) := ⟨⟨by decide +kernel, by decide +kernel⟩, List.mem_of_getElem? (i := 32) (by decide +kernel), List.mem_of_getElem? (i := 333) (by decide +kernel), List.mem_of_getElem? (i := 334) (by decide +kernel)⟩
theorem lw_p17 : lw_okq (⟨"SpreadDesk$Past", "loseOldest", "()V"⟩, 4) := ⟨⟨by decide +kernel, by decide +kernel⟩, List.mem_of_getElem? (i := 106) (by decide +kernel), List.mem_of_getElem? (i := 391) (by decide +kernel), List.mem_of_getElem? (i := 392) (by decide +kernel)⟩
theorem lw_p18 : lw_okq (⟨"SpreadDesk", "isTold", "(I)Z"⟩, 14) := ⟨⟨by decide +kernel, by decide +kernel⟩, List.mem_of_getElem? (i := 10) (by decide +kernel), List.mem_of_getElem? (i := 423) (by decide +kernel), List.mem_of_getElem? (i := 424) (by decide +kernel)⟩
theorem lw_p19 : lw_okq (⟨"SpreadDesk$Sweep", "walkWorth", "(III)V"⟩, 6) := ⟨⟨by decide +kernel, by decide +kernel⟩, List.mem_of_getElem? (i := 125) (by decide +kernel), List.mem_of_getElem? (i := 433) (by decide +kernel), List.mem_of_getElem? (i := 434) (by decide +kernel)⟩
theorem lw_p20 : lw_okq (⟨"SpreadDesk$Sweep", "worthOf", "(III)J"⟩, 6) := ⟨⟨by decide +kernel, by decide +kernel⟩, List.mem_of_getElem? (i := 125) (by decide +kernel), List.mem_of_getElem? (i := 437) (by decide +kernel), List.mem_of_getElem? (i := 438) (by decide +kernel)⟩
theorem lw_p21 : lw_okq (⟨"SpreadDesk$Sweep", "walkSlope", "([JII)V"⟩, 6) := ⟨⟨by decide +kernel, by decide +kernel⟩, List.mem_of_getElem? (i := 125) (by decide +kernel), List.mem_of_getElem? (i := 457) (by decide +kernel), List.mem_of_getElem? (i := 458) (by decide +kernel)⟩
theorem lw_p22 : lw_okq (⟨"SpreadDesk$Sweep", "slopeOf", "([JII)J"⟩, 6) := ⟨⟨by decide +kernel, by decide +kernel⟩, List.mem_of_getElem? (i := 125) (by decide +kernel), List.mem_of_getElem? (i := 461) (by decide +kernel), List.mem_of_getElem? (i := 462) (by decide +kernel)⟩
theorem lw_p23 : lw_okq (⟨"SpreadDesk$Sweep", "walkBend", "(I)V"⟩, 6) := ⟨⟨by decide +kernel, by decide +kernel⟩, List.mem_of_getElem? (i := 125) (by decide +kernel), List.mem_of_getElem? (i := 473) (by decide +kernel), List.mem_of_getElem? (i := 474) (by decide +kernel)⟩
theorem lw_p24 : lw_okq (⟨"SpreadDesk$Sweep", "bendOf", "(I)J"⟩, 6) := ⟨⟨by decide +kernel, by decide +kernel⟩, List.mem_of_getElem? (i := 125) (by decide +kernel), List.mem_of_getElem? (i := 477) (by decide +kernel), List.mem_of_getElem? (i := 478) (by decide +kernel)⟩
theorem lw_p25 : lw_okq (⟨"SpreadDesk", "remains", "(II)J"⟩, 14) := ⟨⟨by decide +kernel, by decide +kernel⟩, List.mem_of_getElem? (i := 10) (by decide +kernel), List.mem_of_getElem? (i := 485) (by decide +kernel), List.mem_of_getElem? (i := 486) (by decide +kernel)⟩
theorem lw_p26 : lw_okq (⟨"SpreadDesk", "product", "([J[JI)J"⟩, 14) := ⟨⟨by decide +kernel, by decide +kernel⟩, List.mem_of_getElem? (i := 10) (by decide +kernel), List.mem_of_getElem? (i := 493) (by decide +kernel), List.mem_of_getElem? (i := 494) (by decide +kernel)⟩
theorem lw_p27 : lw_okq (⟨"SpreadDesk", "part", "([J[JII)J"⟩, 14) := ⟨⟨by decide +kernel, by decide +kernel⟩, List.mem_of_getElem? (i := 10) (by decide +kernel), List.mem_of_getElem? (i := 497) (by decide +kernel), List.mem_of_getElem? (i := 498) (by decide +kernel)⟩
theorem lw_p28 : lw_okq (⟨"SpreadDesk", "taken", "(I)J"⟩, 14) := ⟨⟨by decide +kernel, by decide +kernel⟩, List.mem_of_getElem? (i := 10) (by decide +kernel), List.mem_of_getElem? (i := 527) (by decide +kernel), List.mem_of_getElem? (i := 528) (by decide +kernel)⟩
theorem lw_p29 : lw_okq (⟨"SpreadDesk", "explains", "(II)Z"⟩, 14) := ⟨⟨by decide +kernel, by decide +kernel⟩, List.mem_of_getElem? (i := 10) (by decide +kernel), List.mem_of_getElem? (i := 554) (by decide +kernel), List.mem_of_getElem? (i := 555) (by decide +kernel)⟩
theorem lw_p30 : lw_okq (⟨"SpreadDeskModel", "begins", "()V"⟩, 40) := ⟨⟨by decide +kernel, by decide +kernel⟩, List.mem_of_getElem? (i := 582) (by decide +kernel), List.mem_of_getElem? (i := 588) (by decide +kernel), List.mem_of_getElem? (i := 589) (by decide +kernel)⟩
theorem lw_p31 : lw_okq (⟨"SpreadDeskModel", "settles", "()V"⟩, 40) := ⟨⟨by decide +kernel, by decide +kernel⟩, List.mem_of_getElem? (i := 582) (by decide +kernel), List.mem_of_getElem? (i := 592) (by decide +kernel), List.mem_of_getElem? (i := 593) (by decide +kernel)⟩
def lw_privs_2 : List (MethodName × Nat) := [(⟨"SpreadDesk$Tape", "add", "(IIIII)I"⟩, 8), (⟨"SpreadDesk$Past", "loseOldest", "()V"⟩, 4), (⟨"SpreadDesk", "isTold", "(I)Z"⟩, 14), (⟨"SpreadDesk$Sweep", "walkWorth", "(III)V"⟩, 6), (⟨"SpreadDesk$Sweep", "worthOf", "(III)J"⟩, 6), (⟨"SpreadDesk$Sweep", "walkSlope", "([JII)V"⟩, 6), (⟨"SpreadDesk$Sweep", "slopeOf", "([JII)J"⟩, 6), (⟨"SpreadDesk$Sweep", "walkBend", "(I)V"⟩, 6), (⟨"SpreadDesk$Sweep", "bendOf", "(I)J"⟩, 6), (⟨"SpreadDesk", "remains", "(II)J"⟩, 14), (⟨"SpreadDesk", "product", "([J[JI)J"⟩, 14), (⟨"SpreadDesk", "part", "([J[JII)J"⟩, 14), (⟨"SpreadDesk", "taken", "(I)J"⟩, 14), (⟨"SpreadDesk", "explains", "(II)Z"⟩, 14), (⟨"SpreadDeskModel", "begins", "()V"⟩, 40), (⟨"SpreadDeskModel", "settles", "()V"⟩, 40)]
theorem lw_r2 : ∀ q ∈ lw_privs_2, lw_okq q := List.forall_mem_cons.mpr ⟨lw_p16, List.forall_mem_cons.mpr ⟨lw_p17, List.forall_mem_cons.mpr ⟨lw_p18, List.forall_mem_cons.mpr ⟨lw_p19, List.forall_mem_cons.mpr ⟨lw_p20, List.forall_mem_cons.mpr ⟨lw_p21, List.forall_mem_cons.mpr ⟨lw_p22, List.forall_mem_cons.mpr ⟨lw_p23, List.forall_mem_cons.mpr ⟨lw_p24, List.forall_mem_cons.mpr ⟨lw_p25, List.forall_mem_cons.mpr ⟨lw_p26, List.forall_mem_cons.mpr ⟨lw_p27, List.forall_mem_cons.mpr ⟨lw_p28, List.forall_mem_cons.mpr ⟨lw_p29, List.forall_mem_cons.mpr ⟨lw_p30, List.forall_mem_cons.mpr ⟨lw_p31, fun _ h => absurd h List.not_mem_nil⟩⟩⟩⟩⟩⟩⟩⟩⟩⟩⟩⟩⟩⟩⟩⟩
theorem lw_p32 : lw_okq (⟨"SpreadDeskModel", "advances", "()V"⟩, 40) := ⟨⟨by decide +kernel, by decide +kernel⟩, List.mem_of_getElem? (i := 582) (by decide +kernel), List.mem_of_getElem? (i := 733) (by decide +kernel), List.mem_of_getElem? (i := 734) (by decide +kernel)⟩
theorem lw_p33 : lw_okq (⟨"SpreadDeskModel", "letterAt", "(I)I"⟩, 40) := ⟨⟨by decide +kernel, by decide +kernel⟩, List.mem_of_getElem? (i := 582) (by decide +kernel), List.mem_of_getElem? (i := 737) (by decide +kernel), List.mem_of_getElem? (i := 738) (by decide +kernel)⟩
theorem lw_p34 : lw_okq (⟨"SpreadDeskModel", "isWell", "()Z"⟩, 40) := ⟨⟨by decide +kernel, by decide +kernel⟩, List.mem_of_getElem? (i := 582) (by decide +kernel), List.mem_of_getElem? (i := 744) (by decide +kernel), List.mem_of_getElem? (i := 745) (by decide +kernel)⟩
theorem lw_p35 : lw_okq (⟨"SpreadDeskModel", "isThis", "(I)Z"⟩, 40) := ⟨⟨by decide +kernel, by decide +kernel⟩, List.mem_of_getElem? (i := 582) (by decide +kernel), List.mem_of_getElem? (i := 748) (by decide +kernel), List.mem_of_getElem? (i := 749) (by decide +kernel)⟩
theorem lw_p36 : lw_okq (⟨"SpreadDeskModel", "takes", "(Z)I"⟩, 40) := ⟨⟨by decide +kernel, by decide +kernel⟩, List.mem_of_getElem? (i := 582) (by decide +kernel), List.mem_of_getElem? (i := 752) (by decide +kernel), List.mem_of_getElem? (i := 753) (by decide +kernel)⟩
theorem lw_p37 : lw_okq (⟨"SpreadDeskModel", "readsItem", "(I)V"⟩, 40) := ⟨⟨by decide +kernel, by decide +kernel⟩, List.mem_of_getElem? (i := 582) (by decide +kernel), List.mem_of_getElem? (i := 756) (by decide +kernel), List.mem_of_getElem? (i := 757) (by decide +kernel)⟩
theorem lw_p38 : lw_okq (⟨"SpreadDeskModel", "readsSum", "()V"⟩, 40) := ⟨⟨by decide +kernel, by decide +kernel⟩, List.mem_of_getElem? (i := 582) (by decide +kernel), List.mem_of_getElem? (i := 760) (by decide +kernel), List.mem_of_getElem? (i := 761) (by decide +kernel)⟩
theorem lw_p39 : lw_okq (⟨"SpreadDeskModel", "readsPart", "()Z"⟩, 40) := ⟨⟨by decide +kernel, by decide +kernel⟩, List.mem_of_getElem? (i := 582) (by decide +kernel), List.mem_of_getElem? (i := 764) (by decide +kernel), List.mem_of_getElem? (i := 765) (by decide +kernel)⟩
theorem lw_p40 : lw_okq (⟨"SpreadDeskModel", "waits", "(I)V"⟩, 40) := ⟨⟨by decide +kernel, by decide +kernel⟩, List.mem_of_getElem? (i := 582) (by decide +kernel), List.mem_of_getElem? (i := 768) (by decide +kernel), List.mem_of_getElem? (i := 769) (by decide +kernel)⟩
theorem lw_p41 : lw_okq (⟨"SpreadDeskModel", "counts", "()Z"⟩, 40) := ⟨⟨by decide +kernel, by decide +kernel⟩, List.mem_of_getElem? (i := 582) (by decide +kernel), List.mem_of_getElem? (i := 772) (by decide +kernel), List.mem_of_getElem? (i := 773) (by decide +kernel)⟩
theorem lw_p42 : lw_okq (⟨"SpreadDeskModel", "isNumber", "(II)Z"⟩, 40) := ⟨⟨by decide +kernel, by decide +kernel⟩, List.mem_of_getElem? (i := 582) (by decide +kernel), List.mem_of_getElem? (i := 776) (by decide +kernel), List.mem_of_getElem? (i := 777) (by decide +kernel)⟩
theorem lw_p43 : lw_okq (⟨"SpreadDeskModel", "makes", "(IIII)V"⟩, 40) := ⟨⟨by decide +kernel, by decide +kernel⟩, List.mem_of_getElem? (i := 582) (by decide +kernel), List.mem_of_getElem? (i := 780) (by decide +kernel), List.mem_of_getElem? (i := 781) (by decide +kernel)⟩
theorem lw_p44 : lw_okq (⟨"SpreadDeskModel", "isSourceSign", "()Z"⟩, 40) := ⟨⟨by decide +kernel, by decide +kernel⟩, List.mem_of_getElem? (i := 582) (by decide +kernel), List.mem_of_getElem? (i := 784) (by decide +kernel), List.mem_of_getElem? (i := 785) (by decide +kernel)⟩
theorem lw_p45 : lw_okq (⟨"SpreadDeskModel", "partDone", "()V"⟩, 40) := ⟨⟨by decide +kernel, by decide +kernel⟩, List.mem_of_getElem? (i := 582) (by decide +kernel), List.mem_of_getElem? (i := 788) (by decide +kernel), List.mem_of_getElem? (i := 789) (by decide +kernel)⟩
theorem lw_p46 : lw_okq (⟨"SpreadDeskModel", "lastWaiting", "()I"⟩, 40) := ⟨⟨by decide +kernel, by decide +kernel⟩, List.mem_of_getElem? (i := 582) (by decide +kernel), List.mem_of_getElem? (i := 792) (by decide +kernel), List.mem_of_getElem? (i := 793) (by decide +kernel)⟩
theorem lw_p47 : lw_okq (⟨"SpreadDeskModel", "doesLast", "()V"⟩, 40) := ⟨⟨by decide +kernel, by decide +kernel⟩, List.mem_of_getElem? (i := 582) (by decide +kernel), List.mem_of_getElem? (i := 796) (by decide +kernel), List.mem_of_getElem? (i := 797) (by decide +kernel)⟩
def lw_privs_3 : List (MethodName × Nat) := [(⟨"SpreadDeskModel", "advances", "()V"⟩, 40), (⟨"SpreadDeskModel", "letterAt", "(I)I"⟩, 40), (⟨"SpreadDeskModel", "isWell", "()Z"⟩, 40), (⟨"SpreadDeskModel", "isThis", "(I)Z"⟩, 40), (⟨"SpreadDeskModel", "takes", "(Z)I"⟩, 40), (⟨"SpreadDeskModel", "readsItem", "(I)V"⟩, 40), (⟨"SpreadDeskModel", "readsSum", "()V"⟩, 40), (⟨"SpreadDeskModel", "readsPart", "()Z"⟩, 40), (⟨"SpreadDeskModel", "waits", "(I)V"⟩, 40), (⟨"SpreadDeskModel", "counts", "()Z"⟩, 40), (⟨"SpreadDeskModel", "isNumber", "(II)Z"⟩, 40), (⟨"SpreadDeskModel", "makes", "(IIII)V"⟩, 40), (⟨"SpreadDeskModel", "isSourceSign", "()Z"⟩, 40), (⟨"SpreadDeskModel", "partDone", "()V"⟩, 40), (⟨"SpreadDeskModel", "lastWaiting", "()I"⟩, 40), (⟨"SpreadDeskModel", "doesLast", "()V"⟩, 40)]
theorem lw_r3 : ∀ q ∈ lw_privs_3, lw_okq q := List.forall_mem_cons.mpr ⟨lw_p32, List.forall_mem_cons.mpr ⟨lw_p33, List.forall_mem_cons.mpr ⟨lw_p34, List.forall_mem_cons.mpr ⟨lw_p35, List.forall_mem_cons.mpr ⟨lw_p36, List.forall_mem_cons.mpr ⟨lw_p37, List.forall_mem_cons.mpr ⟨lw_p38, List.forall_mem_cons.mpr ⟨lw_p39, List.forall_mem_cons.mpr ⟨lw_p40, List.forall_mem_cons.mpr ⟨lw_p41, List.forall_mem_cons.mpr ⟨lw_p42, List.forall_mem_cons.mpr ⟨lw_p43, List.forall_mem_cons.mpr ⟨lw_p44, List.forall_mem_cons.mpr ⟨lw_p45, List.forall_mem_cons.mpr ⟨lw_p46, List.forall_mem_cons.mpr ⟨lw_p47, fun _ h => absurd h List.not_mem_nil⟩⟩⟩⟩⟩⟩⟩⟩⟩⟩⟩⟩⟩⟩⟩⟩
theorem lw_p48 : lw_okq (⟨"SpreadDeskModel", "readsBehind", "()Z"⟩, 40) := ⟨⟨by decide +kernel, by decide +kernel⟩, List.mem_of_getElem? (i := 582) (by decide +kernel), List.mem_of_getElem? (i := 800) (by decide +kernel), List.mem_of_getElem? (i := 801) (by decide +kernel)⟩
theorem lw_p49 : lw_okq (⟨"SpreadDeskModel", "signed", "()I"⟩, 40) := ⟨⟨by decide +kernel, by decide +kernel⟩, List.mem_of_getElem? (i := 582) (by decide +kernel), List.mem_of_getElem? (i := 804) (by decide +kernel), List.mem_of_getElem? (i := 805) (by decide +kernel)⟩
theorem lw_p50 : lw_okq (⟨"SpreadDeskModel", "jointOf", "(II)I"⟩, 40) := ⟨⟨by decide +kernel, by decide +kernel⟩, List.mem_of_getElem? (i := 582) (by decide +kernel), List.mem_of_getElem? (i := 820) (by decide +kernel), List.mem_of_getElem? (i := 821) (by decide +kernel)⟩
theorem lw_p51 : lw_okq (⟨"SpreadDeskModel", "notes", "()V"⟩, 40) := ⟨⟨by decide +kernel, by decide +kernel⟩, List.mem_of_getElem? (i := 582) (by decide +kernel), List.mem_of_getElem? (i := 828) (by decide +kernel), List.mem_of_getElem? (i := 829) (by decide +kernel)⟩
theorem lw_p52 : lw_okq (⟨"SpreadDeskModel", "isFormula", "(I)Z"⟩, 40) := ⟨⟨by decide +kernel, by decide +kernel⟩, List.mem_of_getElem? (i := 582) (by decide +kernel), List.mem_of_getElem? (i := 848) (by decide +kernel), List.mem_of_getElem? (i := 849) (by decide +kernel)⟩
theorem lw_p53 : lw_okq (⟨"SpreadDeskModel", "goes", "()V"⟩, 40) := ⟨⟨by decide +kernel, by decide +kernel⟩, List.mem_of_getElem? (i := 582) (by decide +kernel), List.mem_of_getElem? (i := 852) (by decide +kernel), List.mem_of_getElem? (i := 853) (by decide +kernel)⟩
theorem lw_p54 : lw_okq (⟨"SpreadDeskModel", "goesLeaf", "(I)V"⟩, 40) := ⟨⟨by decide +kernel, by decide +kernel⟩, List.mem_of_getElem? (i := 582) (by decide +kernel), List.mem_of_getElem? (i := 856) (by decide +kernel), List.mem_of_getElem? (i := 857) (by decide +kernel)⟩
theorem lw_p55 : lw_okq (⟨"SpreadDeskModel", "rootOf", "(I)I"⟩, 40) := ⟨⟨by decide +kernel, by decide +kernel⟩, List.mem_of_getElem? (i := 582) (by decide +kernel), List.mem_of_getElem? (i := 860) (by decide +kernel), List.mem_of_getElem? (i := 861) (by decide +kernel)⟩
theorem lw_p56 : lw_okq (⟨"SpreadDeskModel", "copiesNode", "(II)V"⟩, 40) := ⟨⟨by decide +kernel, by decide +kernel⟩, List.mem_of_getElem? (i := 582) (by decide +kernel), List.mem_of_getElem? (i := 864) (by decide +kernel), List.mem_of_getElem? (i := 865) (by decide +kernel)⟩
theorem lw_p57 : lw_okq (⟨"SpreadDeskModel", "goesOne", "(II)V"⟩, 40) := ⟨⟨by decide +kernel, by decide +kernel⟩, List.mem_of_getElem? (i := 582) (by decide +kernel), List.mem_of_getElem? (i := 868) (by decide +kernel), List.mem_of_getElem? (i := 869) (by decide +kernel)⟩
theorem lw_p58 : lw_okq (⟨"SpreadDeskModel", "goesTwo", "(III)V"⟩, 40) := ⟨⟨by decide +kernel, by decide +kernel⟩, List.mem_of_getElem? (i := 582) (by decide +kernel), List.mem_of_getElem? (i := 876) (by decide +kernel), List.mem_of_getElem? (i := 877) (by decide +kernel)⟩
theorem lw_p59 : lw_okq (⟨"SpreadDeskModel", "slopeOf", "(II)J"⟩, 40) := ⟨⟨by decide +kernel, by decide +kernel⟩, List.mem_of_getElem? (i := 582) (by decide +kernel), List.mem_of_getElem? (i := 884) (by decide +kernel), List.mem_of_getElem? (i := 885) (by decide +kernel)⟩
theorem lw_p60 : lw_okq (⟨"SpreadDeskModel", "togetherOf", "(III)J"⟩, 40) := ⟨⟨by decide +kernel, by decide +kernel⟩, List.mem_of_getElem? (i := 582) (by decide +kernel), List.mem_of_getElem? (i := 896) (by decide +kernel), List.mem_of_getElem? (i := 897) (by decide +kernel)⟩
theorem lw_p61 : lw_okq (⟨"SpreadDeskModel", "shareOf", "(II)J"⟩, 40) := ⟨⟨by decide +kernel, by decide +kernel⟩, List.mem_of_getElem? (i := 582) (by decide +kernel), List.mem_of_getElem? (i := 911) (by decide +kernel), List.mem_of_getElem? (i := 912) (by decide +kernel)⟩
theorem lw_p62 : lw_okq (⟨"SpreadDeskModel", "takesOf", "(II)J"⟩, 40) := ⟨⟨by decide +kernel, by decide +kernel⟩, List.mem_of_getElem? (i := 582) (by decide +kernel), List.mem_of_getElem? (i := 930) (by decide +kernel), List.mem_of_getElem? (i := 931) (by decide +kernel)⟩
theorem lw_p63 : lw_okq (⟨"SpreadDeskModel", "valueIf", "(III)J"⟩, 40) := ⟨⟨by decide +kernel, by decide +kernel⟩, List.mem_of_getElem? (i := 582) (by decide +kernel), List.mem_of_getElem? (i := 942) (by decide +kernel), List.mem_of_getElem? (i := 943) (by decide +kernel)⟩
def lw_privs_4 : List (MethodName × Nat) := [(⟨"SpreadDeskModel", "readsBehind", "()Z"⟩, 40), (⟨"SpreadDeskModel", "signed", "()I"⟩, 40), (⟨"SpreadDeskModel", "jointOf", "(II)I"⟩, 40), (⟨"SpreadDeskModel", "notes", "()V"⟩, 40), (⟨"SpreadDeskModel", "isFormula", "(I)Z"⟩, 40), (⟨"SpreadDeskModel", "goes", "()V"⟩, 40), (⟨"SpreadDeskModel", "goesLeaf", "(I)V"⟩, 40), (⟨"SpreadDeskModel", "rootOf", "(I)I"⟩, 40), (⟨"SpreadDeskModel", "copiesNode", "(II)V"⟩, 40), (⟨"SpreadDeskModel", "goesOne", "(II)V"⟩, 40), (⟨"SpreadDeskModel", "goesTwo", "(III)V"⟩, 40), (⟨"SpreadDeskModel", "slopeOf", "(II)J"⟩, 40), (⟨"SpreadDeskModel", "togetherOf", "(III)J"⟩, 40), (⟨"SpreadDeskModel", "shareOf", "(II)J"⟩, 40), (⟨"SpreadDeskModel", "takesOf", "(II)J"⟩, 40), (⟨"SpreadDeskModel", "valueIf", "(III)J"⟩, 40)]
theorem lw_r4 : ∀ q ∈ lw_privs_4, lw_okq q := List.forall_mem_cons.mpr ⟨lw_p48, List.forall_mem_cons.mpr ⟨lw_p49, List.forall_mem_cons.mpr ⟨lw_p50, List.forall_mem_cons.mpr ⟨lw_p51, List.forall_mem_cons.mpr ⟨lw_p52, List.forall_mem_cons.mpr ⟨lw_p53, List.forall_mem_cons.mpr ⟨lw_p54, List.forall_mem_cons.mpr ⟨lw_p55, List.forall_mem_cons.mpr ⟨lw_p56, List.forall_mem_cons.mpr ⟨lw_p57, List.forall_mem_cons.mpr ⟨lw_p58, List.forall_mem_cons.mpr ⟨lw_p59, List.forall_mem_cons.mpr ⟨lw_p60, List.forall_mem_cons.mpr ⟨lw_p61, List.forall_mem_cons.mpr ⟨lw_p62, List.forall_mem_cons.mpr ⟨lw_p63, fun _ h => absurd h List.not_mem_nil⟩⟩⟩⟩⟩⟩⟩⟩⟩⟩⟩⟩⟩⟩⟩⟩
def lw_privs : List (MethodName × Nat) := lw_privs_1 ++ (lw_privs_2 ++ (lw_privs_3 ++ (lw_privs_4)))
def lw_tbl : List Cond := k2_sels lw_privs ++ tables_1
theorem lw_privs_ok : ∀ q ∈ lw_privs, lw_okq q := by
  show ∀ q ∈ lw_privs_1 ++ (lw_privs_2 ++ (lw_privs_3 ++ (lw_privs_4))), lw_okq q
  exact List.forall_mem_append.mpr ⟨lw_r1, List.forall_mem_append.mpr ⟨lw_r2, List.forall_mem_append.mpr ⟨lw_r3, lw_r4⟩⟩⟩
def RX0 : String := "SpreadDesk$Figures"
def TX0 : u_T := fun k => match k with
  | 0 => ("SpreadDesk$Figures", "worth", "[I", true)
  | _ => ("SpreadDesk$Figures", "spread", "[I", true)
def tyX0 : Nat → FieldType := fun k => match k with
  | 0 => .array .int
  | _ => .array .int
theorem nmX0 : ∀ a, a < 2 → ∀ b, b < 2 → a ≠ b → (TX0 a).2.1 ≠ (TX0 b).2.1 := by decide +kernel
theorem tyX0_ok : ∀ k, k < 2 → parseFieldDescriptor (TX0 k).2.2.1 = some (tyX0 k) := by decide +kernel
abbrev cX0_init : ByteArray := prog_2_method_1_code
def yX0_init : MethodName := ⟨RX0, "<init>", "()V"⟩
abbrev cX0_worth : ByteArray := prog_2_method_2_code
def yX0_worth : MethodName := ⟨RX0, "worth", "(I)I"⟩
abbrev cX0_spread : ByteArray := prog_2_method_3_code
def yX0_spread : MethodName := ⟨RX0, "spread", "(II)I"⟩
abbrev cX0_setWorth : ByteArray := prog_2_method_4_code
def yX0_setWorth : MethodName := ⟨RX0, "setWorth", "(II)V"⟩
abbrev cX0_setSpread : ByteArray := prog_2_method_5_code
def yX0_setSpread : MethodName := ⟨RX0, "setSpread", "(III)V"⟩
abbrev cX0_reset : ByteArray := prog_2_method_6_code
def yX0_reset : MethodName := ⟨RX0, "reset", "()V"⟩
abbrev cX0_take : ByteArray := prog_2_method_7_code
def yX0_take : MethodName := ⟨RX0, "take", "(LSpreadDesk$Figures;)V"⟩
def RX1 : String := "SpreadDesk$Past"
def TX1 : u_T := fun k => match k with
  | 0 => ("SpreadDesk$Past", "source", "[I", true)
  | 1 => ("SpreadDesk$Past", "other", "[I", true)
  | 2 => ("SpreadDesk$Past", "was", "[I", true)
  | _ => ("SpreadDesk$Past", "known", "I", false)
def tyX1 : Nat → FieldType := fun k => match k with
  | 0 => .array .int
  | 1 => .array .int
  | 2 => .array .int
  | _ => .int
theorem nmX1 : ∀ a, a < 4 → ∀ b, b < 4 → a ≠ b → (TX1 a).2.1 ≠ (TX1 b).2.1 := by decide +kernel
theorem tyX1_ok : ∀ k, k < 4 → parseFieldDescriptor (TX1 k).2.2.1 = some (tyX1 k) := by decide +kernel
abbrev cX1_init : ByteArray := prog_3_method_1_code
def yX1_init : MethodName := ⟨RX1, "<init>", "()V"⟩
abbrev cX1_known : ByteArray := prog_3_method_2_code
def yX1_known : MethodName := ⟨RX1, "known", "()I"⟩
abbrev cX1_lose : ByteArray := prog_3_method_3_code
def yX1_lose : MethodName := ⟨RX1, "lose", "()V"⟩
abbrev cX1_add : ByteArray := prog_3_method_4_code
def yX1_add : MethodName := ⟨RX1, "add", "(III)V"⟩
abbrev cX1_takeBack : ByteArray := prog_3_method_5_code
def yX1_takeBack : MethodName := ⟨RX1, "takeBack", "(LSpreadDesk$Figures;)Z"⟩
abbrev cX1_loseOldest : ByteArray := prog_3_method_6_code
def yX1_loseOldest : MethodName := ⟨RX1, "loseOldest", "()V"⟩
def RX2 : String := "SpreadDesk$Reader"
def TX2 : u_T := fun k => match k with
  | 0 => ("SpreadDesk$Reader", "figures", "LSpreadDesk$Figures;", true)
  | 1 => ("SpreadDesk$Reader", "tape", "LSpreadDesk$Tape;", true)
  | 2 => ("SpreadDesk$Reader", "letter", "[I", true)
  | 3 => ("SpreadDesk$Reader", "length", "I", false)
  | 4 => ("SpreadDesk$Reader", "token", "I", false)
  | 5 => ("SpreadDesk$Reader", "place", "I", false)
  | 6 => ("SpreadDesk$Reader", "behind", "I", false)
  | 7 => ("SpreadDesk$Reader", "number", "I", false)
  | _ => ("SpreadDesk$Reader", "nodes", "I", false)
def tyX2 : Nat → FieldType := fun k => match k with
  | 0 => .object "SpreadDesk$Figures"
  | 1 => .object "SpreadDesk$Tape"
  | 2 => .array .int
  | 3 => .int
  | 4 => .int
  | 5 => .int
  | 6 => .int
  | 7 => .int
  | _ => .int
theorem nmX2 : ∀ a, a < 9 → ∀ b, b < 9 → a ≠ b → (TX2 a).2.1 ≠ (TX2 b).2.1 := by decide +kernel
theorem tyX2_ok : ∀ k, k < 9 → parseFieldDescriptor (TX2 k).2.2.1 = some (tyX2 k) := by decide +kernel
abbrev cX2_init : ByteArray := prog_4_method_1_code
def yX2_init : MethodName := ⟨RX2, "<init>", "()V"⟩
abbrev cX2_letters : ByteArray := prog_4_method_2_code
def yX2_letters : MethodName := ⟨RX2, "letters", "()I"⟩
abbrev cX2_drop : ByteArray := prog_4_method_3_code
def yX2_drop : MethodName := ⟨RX2, "drop", "()V"⟩
abbrev cX2_add : ByteArray := prog_4_method_4_code
def yX2_add : MethodName := ⟨RX2, "add", "(I)Z"⟩
abbrev cX2_read : ByteArray := prog_4_method_5_code
def yX2_read : MethodName := ⟨RX2, "read", "()I"⟩
abbrev cX2_readItem : ByteArray := prog_4_method_6_code
def yX2_readItem : MethodName := ⟨RX2, "readItem", "()Z"⟩
abbrev cX2_readSource : ByteArray := prog_4_method_7_code
def yX2_readSource : MethodName := ⟨RX2, "readSource", "()Z"⟩
abbrev cX2_readJoint : ByteArray := prog_4_method_8_code
def yX2_readJoint : MethodName := ⟨RX2, "readJoint", "()Z"⟩
abbrev cX2_readFormula : ByteArray := prog_4_method_9_code
def yX2_readFormula : MethodName := ⟨RX2, "readFormula", "()Z"⟩
abbrev cX2_readSum : ByteArray := prog_4_method_10_code
def yX2_readSum : MethodName := ⟨RX2, "readSum", "(I)I"⟩
abbrev cX2_readProduct : ByteArray := prog_4_method_11_code
def yX2_readProduct : MethodName := ⟨RX2, "readProduct", "(I)I"⟩
abbrev cX2_readPower : ByteArray := prog_4_method_12_code
def yX2_readPower : MethodName := ⟨RX2, "readPower", "(I)I"⟩
abbrev cX2_readPart : ByteArray := prog_4_method_13_code
def yX2_readPart : MethodName := ⟨RX2, "readPart", "(I)I"⟩
abbrev cX2_readBarePart : ByteArray := prog_4_method_14_code
def yX2_readBarePart : MethodName := ⟨RX2, "readBarePart", "(I)I"⟩
abbrev cX2_readInner : ByteArray := prog_4_method_15_code
def yX2_readInner : MethodName := ⟨RX2, "readInner", "(I)I"⟩
abbrev cX2_readEarlier : ByteArray := prog_4_method_16_code
def yX2_readEarlier : MethodName := ⟨RX2, "readEarlier", "()I"⟩
abbrev cX2_countNode : ByteArray := prog_4_method_17_code
def yX2_countNode : MethodName := ⟨RX2, "countNode", "()Z"⟩
abbrev cX2_passSign : ByteArray := prog_4_method_18_code
def yX2_passSign : MethodName := ⟨RX2, "passSign", "()I"⟩
abbrev cX2_sourceAtHand : ByteArray := prog_4_method_19_code
def yX2_sourceAtHand : MethodName := ⟨RX2, "sourceAtHand", "()I"⟩
abbrev cX2_pass : ByteArray := prog_4_method_20_code
def yX2_pass : MethodName := ⟨RX2, "pass", "()V"⟩
abbrev cX2_passDigits : ByteArray := prog_4_method_21_code
def yX2_passDigits : MethodName := ⟨RX2, "passDigits", "(I)V"⟩
abbrev cX2_isDigit : ByteArray := prog_4_method_22_code
def yX2_isDigit : MethodName := ⟨RX2, "isDigit", "(I)Z"⟩
def RX3 : String := "SpreadDesk$Sweep"
def TX3 : u_T := fun k => match k with
  | 0 => ("SpreadDesk$Sweep", "tape", "LSpreadDesk$Tape;", true)
  | 1 => ("SpreadDesk$Sweep", "figures", "LSpreadDesk$Figures;", true)
  | 2 => ("SpreadDesk$Sweep", "worth", "[J", true)
  | 3 => ("SpreadDesk$Sweep", "slope", "[J", true)
  | 4 => ("SpreadDesk$Sweep", "otherSlope", "[J", true)
  | _ => ("SpreadDesk$Sweep", "bend", "[J", true)
def tyX3 : Nat → FieldType := fun k => match k with
  | 0 => .object "SpreadDesk$Tape"
  | 1 => .object "SpreadDesk$Figures"
  | 2 => .array .long
  | 3 => .array .long
  | 4 => .array .long
  | _ => .array .long
theorem nmX3 : ∀ a, a < 6 → ∀ b, b < 6 → a ≠ b → (TX3 a).2.1 ≠ (TX3 b).2.1 := by decide +kernel
theorem tyX3_ok : ∀ k, k < 6 → parseFieldDescriptor (TX3 k).2.2.1 = some (tyX3 k) := by decide +kernel
abbrev cX3_init : ByteArray := prog_5_method_1_code
def yX3_init : MethodName := ⟨RX3, "<init>", "(LSpreadDesk$Tape;LSpreadDesk$Figures;)V"⟩
abbrev cX3_worth : ByteArray := prog_5_method_2_code
def yX3_worth : MethodName := ⟨RX3, "worth", "(III)J"⟩
abbrev cX3_slopeBy : ByteArray := prog_5_method_3_code
def yX3_slopeBy : MethodName := ⟨RX3, "slopeBy", "(II)J"⟩
abbrev cX3_bendBy : ByteArray := prog_5_method_4_code
def yX3_bendBy : MethodName := ⟨RX3, "bendBy", "(III)J"⟩
abbrev cX3_slopesInto : ByteArray := prog_5_method_5_code
def yX3_slopesInto : MethodName := ⟨RX3, "slopesInto", "([JI)V"⟩
abbrev cX3_walkWorth : ByteArray := prog_5_method_6_code
def yX3_walkWorth : MethodName := ⟨RX3, "walkWorth", "(III)V"⟩
abbrev cX3_worthOf : ByteArray := prog_5_method_7_code
def yX3_worthOf : MethodName := ⟨RX3, "worthOf", "(III)J"⟩
abbrev cX3_walkSlope : ByteArray := prog_5_method_8_code
def yX3_walkSlope : MethodName := ⟨RX3, "walkSlope", "([JII)V"⟩
abbrev cX3_slopeOf : ByteArray := prog_5_method_9_code
def yX3_slopeOf : MethodName := ⟨RX3, "slopeOf", "([JII)J"⟩
abbrev cX3_walkBend : ByteArray := prog_5_method_10_code
def yX3_walkBend : MethodName := ⟨RX3, "walkBend", "(I)V"⟩
abbrev cX3_bendOf : ByteArray := prog_5_method_11_code
def yX3_bendOf : MethodName := ⟨RX3, "bendOf", "(I)J"⟩
abbrev cX3_power : ByteArray := prog_5_method_12_code
def yX3_power : MethodName := ⟨RX3, "power", "(JI)J"⟩
abbrev cX3_at : ByteArray := prog_5_method_13_code
def yX3_at : MethodName := ⟨RX3, "at", "([JI)J"⟩
def RX4 : String := "SpreadDesk$Tape"
def TX4 : u_T := fun k => match k with
  | 0 => ("SpreadDesk$Tape", "kind", "[I", true)
  | 1 => ("SpreadDesk$Tape", "one", "[I", true)
  | 2 => ("SpreadDesk$Tape", "other", "[I", true)
  | 3 => ("SpreadDesk$Tape", "steps", "[I", true)
  | 4 => ("SpreadDesk$Tape", "names", "[I", true)
  | 5 => ("SpreadDesk$Tape", "stop", "[I", true)
  | 6 => ("SpreadDesk$Tape", "formulas", "I", false)
  | _ => ("SpreadDesk$Tape", "length", "I", false)
def tyX4 : Nat → FieldType := fun k => match k with
  | 0 => .array .int
  | 1 => .array .int
  | 2 => .array .int
  | 3 => .array .int
  | 4 => .array .int
  | 5 => .array .int
  | 6 => .int
  | _ => .int
theorem nmX4 : ∀ a, a < 8 → ∀ b, b < 8 → a ≠ b → (TX4 a).2.1 ≠ (TX4 b).2.1 := by decide +kernel
theorem tyX4_ok : ∀ k, k < 8 → parseFieldDescriptor (TX4 k).2.2.1 = some (tyX4 k) := by decide +kernel
abbrev cX4_init : ByteArray := prog_6_method_1_code
def yX4_init : MethodName := ⟨RX4, "<init>", "()V"⟩
abbrev cX4_formulas : ByteArray := prog_6_method_2_code
def yX4_formulas : MethodName := ⟨RX4, "formulas", "()I"⟩
abbrev cX4_start : ByteArray := prog_6_method_3_code
def yX4_start : MethodName := ⟨RX4, "start", "(I)I"⟩
abbrev cX4_stop : ByteArray := prog_6_method_4_code
def yX4_stop : MethodName := ⟨RX4, "stop", "(I)I"⟩
abbrev cX4_root : ByteArray := prog_6_method_5_code
def yX4_root : MethodName := ⟨RX4, "root", "(I)I"⟩
abbrev cX4_steps : ByteArray := prog_6_method_6_code
def yX4_steps : MethodName := ⟨RX4, "steps", "(I)I"⟩
abbrev cX4_names : ByteArray := prog_6_method_7_code
def yX4_names : MethodName := ⟨RX4, "names", "(I)I"⟩
abbrev cX4_reset : ByteArray := prog_6_method_8_code
def yX4_reset : MethodName := ⟨RX4, "reset", "()V"⟩
abbrev cX4_endFormula : ByteArray := prog_6_method_9_code
def yX4_endFormula : MethodName := ⟨RX4, "endFormula", "()V"⟩
abbrev cX4_addNumber : ByteArray := prog_6_method_10_code
def yX4_addNumber : MethodName := ⟨RX4, "addNumber", "(I)I"⟩
abbrev cX4_addSource : ByteArray := prog_6_method_11_code
def yX4_addSource : MethodName := ⟨RX4, "addSource", "(I)I"⟩
abbrev cX4_addOver : ByteArray := prog_6_method_12_code
def yX4_addOver : MethodName := ⟨RX4, "addOver", "(III)I"⟩
abbrev cX4_addBoth : ByteArray := prog_6_method_13_code
def yX4_addBoth : MethodName := ⟨RX4, "addBoth", "(III)I"⟩
abbrev cX4_take : ByteArray := prog_6_method_14_code
def yX4_take : MethodName := ⟨RX4, "take", "(LSpreadDesk$Tape;)V"⟩
abbrev cX4_add : ByteArray := prog_6_method_15_code
def yX4_add : MethodName := ⟨RX4, "add", "(IIIII)I"⟩
def RX5 : String := "SpreadDesk"
def TX5 : u_T := fun k => match k with
  | 0 => ("SpreadDesk", "figures", "LSpreadDesk$Figures;", true)
  | 1 => ("SpreadDesk", "tape", "LSpreadDesk$Tape;", true)
  | 2 => ("SpreadDesk", "reader", "LSpreadDesk$Reader;", true)
  | 3 => ("SpreadDesk", "past", "LSpreadDesk$Past;", true)
  | 4 => ("SpreadDesk", "sweep", "LSpreadDesk$Sweep;", true)
  | 5 => ("SpreadDesk", "image0", "LSpreadDesk$Figures;", true)
  | 6 => ("SpreadDesk", "image1", "LSpreadDesk$Figures;", true)
  | 7 => ("SpreadDesk", "kept0", "Z", false)
  | 8 => ("SpreadDesk", "kept1", "Z", false)
  | 9 => ("SpreadDesk", "seenFormula", "[I", true)
  | 10 => ("SpreadDesk", "seenValue", "[J", true)
  | 11 => ("SpreadDesk", "seen", "I", false)
  | 12 => ("SpreadDesk", "slopes", "[J", true)
  | _ => ("SpreadDesk", "otherSlopes", "[J", true)
def tyX5 : Nat → FieldType := fun k => match k with
  | 0 => .object "SpreadDesk$Figures"
  | 1 => .object "SpreadDesk$Tape"
  | 2 => .object "SpreadDesk$Reader"
  | 3 => .object "SpreadDesk$Past"
  | 4 => .object "SpreadDesk$Sweep"
  | 5 => .object "SpreadDesk$Figures"
  | 6 => .object "SpreadDesk$Figures"
  | 7 => .boolean
  | 8 => .boolean
  | 9 => .array .int
  | 10 => .array .long
  | 11 => .int
  | 12 => .array .long
  | _ => .array .long
theorem nmX5 : ∀ a, a < 14 → ∀ b, b < 14 → a ≠ b → (TX5 a).2.1 ≠ (TX5 b).2.1 := by decide +kernel
theorem tyX5_ok : ∀ k, k < 14 → parseFieldDescriptor (TX5 k).2.2.1 = some (tyX5 k) := by decide +kernel
abbrev cX5_init : ByteArray := prog_1_method_1_code
def yX5_init : MethodName := ⟨RX5, "<init>", "()V"⟩
abbrev cX5_type : ByteArray := prog_1_method_2_code
def yX5_type : MethodName := ⟨RX5, "type", "(I)I"⟩
abbrev cX5_clear : ByteArray := prog_1_method_3_code
def yX5_clear : MethodName := ⟨RX5, "clear", "()I"⟩
abbrev cX5_desk : ByteArray := prog_1_method_4_code
def yX5_desk : MethodName := ⟨RX5, "desk", "()I"⟩
abbrev cX5_source : ByteArray := prog_1_method_5_code
def yX5_source : MethodName := ⟨RX5, "source", "(II)J"⟩
abbrev cX5_joint : ByteArray := prog_1_method_6_code
def yX5_joint : MethodName := ⟨RX5, "joint", "(II)J"⟩
abbrev cX5_values : ByteArray := prog_1_method_7_code
def yX5_values : MethodName := ⟨RX5, "values", "(II)I"⟩
abbrev cX5_spreads : ByteArray := prog_1_method_8_code
def yX5_spreads : MethodName := ⟨RX5, "spreads", "(II)I"⟩
abbrev cX5_joints : ByteArray := prog_1_method_9_code
def yX5_joints : MethodName := ⟨RX5, "joints", "(III)I"⟩
abbrev cX5_undo : ByteArray := prog_1_method_10_code
def yX5_undo : MethodName := ⟨RX5, "undo", "()I"⟩
abbrev cX5_value : ByteArray := prog_1_method_11_code
def yX5_value : MethodName := ⟨RX5, "value", "(I)J"⟩
abbrev cX5_slope : ByteArray := prog_1_method_12_code
def yX5_slope : MethodName := ⟨RX5, "slope", "(II)J"⟩
abbrev cX5_bend : ByteArray := prog_1_method_13_code
def yX5_bend : MethodName := ⟨RX5, "bend", "(III)J"⟩
abbrev cX5_whole : ByteArray := prog_1_method_14_code
def yX5_whole : MethodName := ⟨RX5, "whole", "(I)J"⟩
abbrev cX5_together : ByteArray := prog_1_method_15_code
def yX5_together : MethodName := ⟨RX5, "together", "(II)J"⟩
abbrev cX5_share : ByteArray := prog_1_method_16_code
def yX5_share : MethodName := ⟨RX5, "share", "(II)J"⟩
abbrev cX5_left : ByteArray := prog_1_method_17_code
def yX5_left : MethodName := ⟨RX5, "left", "(II)J"⟩
abbrev cX5_fewest : ByteArray := prog_1_method_18_code
def yX5_fewest : MethodName := ⟨RX5, "fewest", "(IJ)I"⟩
abbrev cX5_takes : ByteArray := prog_1_method_19_code
def yX5_takes : MethodName := ⟨RX5, "takes", "(II)J"⟩
abbrev cX5_first : ByteArray := prog_1_method_20_code
def yX5_first : MethodName := ⟨RX5, "first", "(II)I"⟩
abbrev cX5_off : ByteArray := prog_1_method_21_code
def yX5_off : MethodName := ⟨RX5, "off", "(III)J"⟩
abbrev cX5_sees : ByteArray := prog_1_method_22_code
def yX5_sees : MethodName := ⟨RX5, "sees", "(IJ)I"⟩
abbrev cX5_forget : ByteArray := prog_1_method_23_code
def yX5_forget : MethodName := ⟨RX5, "forget", "()I"⟩
abbrev cX5_unseen : ByteArray := prog_1_method_24_code
def yX5_unseen : MethodName := ⟨RX5, "unseen", "(I)I"⟩
abbrev cX5_keep : ByteArray := prog_1_method_25_code
def yX5_keep : MethodName := ⟨RX5, "keep", "(I)I"⟩
abbrev cX5_back : ByteArray := prog_1_method_26_code
def yX5_back : MethodName := ⟨RX5, "back", "(I)I"⟩
abbrev cX5_formula : ByteArray := prog_1_method_27_code
def yX5_formula : MethodName := ⟨RX5, "formula", "(II)I"⟩
abbrev cX5_count : ByteArray := prog_1_method_28_code
def yX5_count : MethodName := ⟨RX5, "count", "(I)I"⟩
abbrev cX5_isSource : ByteArray := prog_1_method_29_code
def yX5_isSource : MethodName := ⟨RX5, "isSource", "(I)Z"⟩
abbrev cX5_isMove : ByteArray := prog_1_method_30_code
def yX5_isMove : MethodName := ⟨RX5, "isMove", "(I)Z"⟩
abbrev cX5_isTold : ByteArray := prog_1_method_31_code
def yX5_isTold : MethodName := ⟨RX5, "isTold", "(I)Z"⟩
abbrev cX5_remains : ByteArray := prog_1_method_32_code
def yX5_remains : MethodName := ⟨RX5, "remains", "(II)J"⟩
abbrev cX5_taken : ByteArray := prog_1_method_33_code
def yX5_taken : MethodName := ⟨RX5, "taken", "(I)J"⟩
abbrev cX5_product : ByteArray := prog_1_method_34_code
def yX5_product : MethodName := ⟨RX5, "product", "([J[JI)J"⟩
abbrev cX5_part : ByteArray := prog_1_method_35_code
def yX5_part : MethodName := ⟨RX5, "part", "([J[JII)J"⟩
abbrev cX5_explains : ByteArray := prog_1_method_36_code
def yX5_explains : MethodName := ⟨RX5, "explains", "(II)Z"⟩
def RX6 : String := "SpreadDeskModel"
def TX6 : u_T := fun k => match k with
  | 0 => ("SpreadDeskModel", "thrown", "I", false)
  | 1 => ("SpreadDeskModel", "text", "[I", true)
  | 2 => ("SpreadDeskModel", "typed", "I", false)
  | 3 => ("SpreadDeskModel", "at", "I", false)
  | 4 => ("SpreadDeskModel", "token", "I", false)
  | 5 => ("SpreadDeskModel", "place", "I", false)
  | 6 => ("SpreadDeskModel", "value", "I", false)
  | 7 => ("SpreadDeskModel", "fault", "I", false)
  | 8 => ("SpreadDeskModel", "formulas", "I", false)
  | 9 => ("SpreadDeskModel", "size", "[I", true)
  | 10 => ("SpreadDeskModel", "sort", "[I", true)
  | 11 => ("SpreadDeskModel", "arg", "[I", true)
  | 12 => ("SpreadDeskModel", "left", "[I", true)
  | 13 => ("SpreadDeskModel", "right", "[I", true)
  | 14 => ("SpreadDeskModel", "draftFormulas", "I", false)
  | 15 => ("SpreadDeskModel", "draftSize", "[I", true)
  | 16 => ("SpreadDeskModel", "draftSort", "[I", true)
  | 17 => ("SpreadDeskModel", "draftArg", "[I", true)
  | 18 => ("SpreadDeskModel", "draftLeft", "[I", true)
  | 19 => ("SpreadDeskModel", "draftRight", "[I", true)
  | 20 => ("SpreadDeskModel", "draft", "[I", true)
  | 21 => ("SpreadDeskModel", "s", "[I", true)
  | 22 => ("SpreadDeskModel", "undos", "[I", true)
  | 23 => ("SpreadDeskModel", "undoMany", "I", false)
  | 24 => ("SpreadDeskModel", "kept", "[I", true)
  | 25 => ("SpreadDeskModel", "isKept", "[Z", true)
  | 26 => ("SpreadDeskModel", "seenFormula", "[I", true)
  | 27 => ("SpreadDeskModel", "seenValue", "[J", true)
  | 28 => ("SpreadDeskModel", "seenMany", "I", false)
  | 29 => ("SpreadDeskModel", "parts", "[I", true)
  | 30 => ("SpreadDeskModel", "partMany", "I", false)
  | 31 => ("SpreadDeskModel", "waiting", "[I", true)
  | 32 => ("SpreadDeskModel", "waitMany", "I", false)
  | 33 => ("SpreadDeskModel", "opened", "I", false)
  | 34 => ("SpreadDeskModel", "nodes", "I", false)
  | 35 => ("SpreadDeskModel", "worth", "[J", true)
  | 36 => ("SpreadDeskModel", "slopes", "[J", true)
  | 37 => ("SpreadDeskModel", "bends", "[J", true)
  | 38 => ("SpreadDeskModel", "stepsOf", "[I", true)
  | _ => ("SpreadDeskModel", "named", "[I", true)
def tyX6 : Nat → FieldType := fun k => match k with
  | 0 => .int
  | 1 => .array .int
  | 2 => .int
  | 3 => .int
  | 4 => .int
  | 5 => .int
  | 6 => .int
  | 7 => .int
  | 8 => .int
  | 9 => .array .int
  | 10 => .array .int
  | 11 => .array .int
  | 12 => .array .int
  | 13 => .array .int
  | 14 => .int
  | 15 => .array .int
  | 16 => .array .int
  | 17 => .array .int
  | 18 => .array .int
  | 19 => .array .int
  | 20 => .array .int
  | 21 => .array .int
  | 22 => .array .int
  | 23 => .int
  | 24 => .array .int
  | 25 => .array .boolean
  | 26 => .array .int
  | 27 => .array .long
  | 28 => .int
  | 29 => .array .int
  | 30 => .int
  | 31 => .array .int
  | 32 => .int
  | 33 => .int
  | 34 => .int
  | 35 => .array .long
  | 36 => .array .long
  | 37 => .array .long
  | 38 => .array .int
  | _ => .array .int
theorem nmX6 : ∀ a, a < 40 → ∀ b, b < 40 → a ≠ b → (TX6 a).2.1 ≠ (TX6 b).2.1 := by decide +kernel
theorem tyX6_ok : ∀ k, k < 40 → parseFieldDescriptor (TX6 k).2.2.1 = some (tyX6 k) := by decide +kernel
abbrev cX6_init : ByteArray := prog_8_method_1_code
def yX6_init : MethodName := ⟨RX6, "<init>", "()V"⟩
abbrev cX6_in : ByteArray := prog_8_method_3_code
def yX6_in : MethodName := ⟨RX6, "in", "(III)Z"⟩
abbrev cX6_has : ByteArray := prog_8_method_4_code
def yX6_has : MethodName := ⟨RX6, "has", "(II)Z"⟩
abbrev cX6_ones : ByteArray := prog_8_method_5_code
def yX6_ones : MethodName := ⟨RX6, "ones", "(I)I"⟩
abbrev cX6_type : ByteArray := prog_8_method_6_code
def yX6_type : MethodName := ⟨RX6, "type", "(I)I"⟩
abbrev cX6_clear : ByteArray := prog_8_method_7_code
def yX6_clear : MethodName := ⟨RX6, "clear", "()I"⟩
abbrev cX6_letterAt : ByteArray := prog_8_method_8_code
def yX6_letterAt : MethodName := ⟨RX6, "letterAt", "(I)I"⟩
abbrev cX6_isSign : ByteArray := prog_8_method_9_code
def yX6_isSign : MethodName := ⟨RX6, "isSign", "(I)Z"⟩
abbrev cX6_advances : ByteArray := prog_8_method_10_code
def yX6_advances : MethodName := ⟨RX6, "advances", "()V"⟩
abbrev cX6_isWell : ByteArray := prog_8_method_11_code
def yX6_isWell : MethodName := ⟨RX6, "isWell", "()Z"⟩
abbrev cX6_takes : ByteArray := prog_8_method_12_code
def yX6_takes : MethodName := ⟨RX6, "takes", "(Z)I"⟩
abbrev cX6_isThis : ByteArray := prog_8_method_13_code
def yX6_isThis : MethodName := ⟨RX6, "isThis", "(I)Z"⟩
abbrev cX6_isSourceSign : ByteArray := prog_8_method_14_code
def yX6_isSourceSign : MethodName := ⟨RX6, "isSourceSign", "()Z"⟩
abbrev cX6_isNumber : ByteArray := prog_8_method_15_code
def yX6_isNumber : MethodName := ⟨RX6, "isNumber", "(II)Z"⟩
abbrev cX6_signed : ByteArray := prog_8_method_16_code
def yX6_signed : MethodName := ⟨RX6, "signed", "()I"⟩
abbrev cX6_begins : ByteArray := prog_8_method_17_code
def yX6_begins : MethodName := ⟨RX6, "begins", "()V"⟩
abbrev cX6_counts : ByteArray := prog_8_method_18_code
def yX6_counts : MethodName := ⟨RX6, "counts", "()Z"⟩
abbrev cX6_makes : ByteArray := prog_8_method_19_code
def yX6_makes : MethodName := ⟨RX6, "makes", "(IIII)V"⟩
abbrev cX6_lastWaiting : ByteArray := prog_8_method_20_code
def yX6_lastWaiting : MethodName := ⟨RX6, "lastWaiting", "()I"⟩
abbrev cX6_waits : ByteArray := prog_8_method_21_code
def yX6_waits : MethodName := ⟨RX6, "waits", "(I)V"⟩
abbrev cX6_doesLast : ByteArray := prog_8_method_22_code
def yX6_doesLast : MethodName := ⟨RX6, "doesLast", "()V"⟩
abbrev cX6_partDone : ByteArray := prog_8_method_23_code
def yX6_partDone : MethodName := ⟨RX6, "partDone", "()V"⟩
abbrev cX6_readsPart : ByteArray := prog_8_method_24_code
def yX6_readsPart : MethodName := ⟨RX6, "readsPart", "()Z"⟩
abbrev cX6_readsBehind : ByteArray := prog_8_method_25_code
def yX6_readsBehind : MethodName := ⟨RX6, "readsBehind", "()Z"⟩
abbrev cX6_readsSum : ByteArray := prog_8_method_26_code
def yX6_readsSum : MethodName := ⟨RX6, "readsSum", "()V"⟩
abbrev cX6_readsItem : ByteArray := prog_8_method_27_code
def yX6_readsItem : MethodName := ⟨RX6, "readsItem", "(I)V"⟩
abbrev cX6_desk : ByteArray := prog_8_method_28_code
def yX6_desk : MethodName := ⟨RX6, "desk", "()I"⟩
abbrev cX6_settles : ByteArray := prog_8_method_29_code
def yX6_settles : MethodName := ⟨RX6, "settles", "()V"⟩
abbrev cX6_isFormula : ByteArray := prog_8_method_30_code
def yX6_isFormula : MethodName := ⟨RX6, "isFormula", "(I)Z"⟩
abbrev cX6_isSource : ByteArray := prog_8_method_31_code
def yX6_isSource : MethodName := ⟨RX6, "isSource", "(I)Z"⟩
abbrev cX6_source : ByteArray := prog_8_method_32_code
def yX6_source : MethodName := ⟨RX6, "source", "(II)J"⟩
abbrev cX6_jointOf : ByteArray := prog_8_method_33_code
def yX6_jointOf : MethodName := ⟨RX6, "jointOf", "(II)I"⟩
abbrev cX6_joint : ByteArray := prog_8_method_34_code
def yX6_joint : MethodName := ⟨RX6, "joint", "(II)J"⟩
abbrev cX6_notes : ByteArray := prog_8_method_35_code
def yX6_notes : MethodName := ⟨RX6, "notes", "()V"⟩
abbrev cX6_values : ByteArray := prog_8_method_36_code
def yX6_values : MethodName := ⟨RX6, "values", "(II)I"⟩
abbrev cX6_spreads : ByteArray := prog_8_method_37_code
def yX6_spreads : MethodName := ⟨RX6, "spreads", "(II)I"⟩
abbrev cX6_joints : ByteArray := prog_8_method_38_code
def yX6_joints : MethodName := ⟨RX6, "joints", "(III)I"⟩
abbrev cX6_undo : ByteArray := prog_8_method_39_code
def yX6_undo : MethodName := ⟨RX6, "undo", "()I"⟩
abbrev cX6_power : ByteArray := prog_8_method_40_code
def yX6_power : MethodName := ⟨RX6, "power", "(JI)J"⟩
abbrev cX6_copiesNode : ByteArray := prog_8_method_41_code
def yX6_copiesNode : MethodName := ⟨RX6, "copiesNode", "(II)V"⟩
abbrev cX6_goesLeaf : ByteArray := prog_8_method_42_code
def yX6_goesLeaf : MethodName := ⟨RX6, "goesLeaf", "(I)V"⟩
abbrev cX6_goesOne : ByteArray := prog_8_method_43_code
def yX6_goesOne : MethodName := ⟨RX6, "goesOne", "(II)V"⟩
abbrev cX6_goesTwo : ByteArray := prog_8_method_44_code
def yX6_goesTwo : MethodName := ⟨RX6, "goesTwo", "(III)V"⟩
abbrev cX6_rootOf : ByteArray := prog_8_method_45_code
def yX6_rootOf : MethodName := ⟨RX6, "rootOf", "(I)I"⟩
abbrev cX6_goes : ByteArray := prog_8_method_46_code
def yX6_goes : MethodName := ⟨RX6, "goes", "()V"⟩
abbrev cX6_value : ByteArray := prog_8_method_47_code
def yX6_value : MethodName := ⟨RX6, "value", "(I)J"⟩
abbrev cX6_slopeOf : ByteArray := prog_8_method_48_code
def yX6_slopeOf : MethodName := ⟨RX6, "slopeOf", "(II)J"⟩
abbrev cX6_slope : ByteArray := prog_8_method_49_code
def yX6_slope : MethodName := ⟨RX6, "slope", "(II)J"⟩
abbrev cX6_bend : ByteArray := prog_8_method_50_code
def yX6_bend : MethodName := ⟨RX6, "bend", "(III)J"⟩
abbrev cX6_togetherOf : ByteArray := prog_8_method_51_code
def yX6_togetherOf : MethodName := ⟨RX6, "togetherOf", "(III)J"⟩
abbrev cX6_shareOf : ByteArray := prog_8_method_52_code
def yX6_shareOf : MethodName := ⟨RX6, "shareOf", "(II)J"⟩
abbrev cX6_takesOf : ByteArray := prog_8_method_53_code
def yX6_takesOf : MethodName := ⟨RX6, "takesOf", "(II)J"⟩
abbrev cX6_whole : ByteArray := prog_8_method_54_code
def yX6_whole : MethodName := ⟨RX6, "whole", "(I)J"⟩
abbrev cX6_together : ByteArray := prog_8_method_55_code
def yX6_together : MethodName := ⟨RX6, "together", "(II)J"⟩
abbrev cX6_share : ByteArray := prog_8_method_56_code
def yX6_share : MethodName := ⟨RX6, "share", "(II)J"⟩
abbrev cX6_left : ByteArray := prog_8_method_57_code
def yX6_left : MethodName := ⟨RX6, "left", "(II)J"⟩
abbrev cX6_fewest : ByteArray := prog_8_method_58_code
def yX6_fewest : MethodName := ⟨RX6, "fewest", "(IJ)I"⟩
abbrev cX6_takes_ : ByteArray := prog_8_method_59_code
def yX6_takes_ : MethodName := ⟨RX6, "takes", "(II)J"⟩
abbrev cX6_first : ByteArray := prog_8_method_60_code
def yX6_first : MethodName := ⟨RX6, "first", "(II)I"⟩
abbrev cX6_valueIf : ByteArray := prog_8_method_61_code
def yX6_valueIf : MethodName := ⟨RX6, "valueIf", "(III)J"⟩
abbrev cX6_off : ByteArray := prog_8_method_62_code
def yX6_off : MethodName := ⟨RX6, "off", "(III)J"⟩
abbrev cX6_sees : ByteArray := prog_8_method_63_code
def yX6_sees : MethodName := ⟨RX6, "sees", "(IJ)I"⟩
abbrev cX6_forget : ByteArray := prog_8_method_64_code
def yX6_forget : MethodName := ⟨RX6, "forget", "()I"⟩
abbrev cX6_unseen : ByteArray := prog_8_method_65_code
def yX6_unseen : MethodName := ⟨RX6, "unseen", "(I)I"⟩
abbrev cX6_keep : ByteArray := prog_8_method_66_code
def yX6_keep : MethodName := ⟨RX6, "keep", "(I)I"⟩
abbrev cX6_back : ByteArray := prog_8_method_67_code
def yX6_back : MethodName := ⟨RX6, "back", "(I)I"⟩
abbrev cX6_formula : ByteArray := prog_8_method_68_code
def yX6_formula : MethodName := ⟨RX6, "formula", "(II)I"⟩
abbrev cX6_count : ByteArray := prog_8_method_69_code
def yX6_count : MethodName := ⟨RX6, "count", "(I)I"⟩
def RJ6 : String := "java/lang/Integer"
def TJ6 : u_T := fun k => match k with
  | _ => ("", "", "", false)
def tyJ6 : Nat → FieldType := fun k => match k with
  | _ => .int
theorem nmJ6 : ∀ a, a < 0 → ∀ b, b < 0 → a ≠ b → (TJ6 a).2.1 ≠ (TJ6 b).2.1 := by decide +kernel
theorem tyJ6_ok : ∀ k, k < 0 → parseFieldDescriptor (TJ6 k).2.2.1 = some (tyJ6 k) := by decide +kernel
abbrev cJ6_bitCount_0f7a4 : ByteArray := prog_9_method_49_code
def yJ6_bitCount_0f7a4 : MethodName := ⟨RJ6, "bitCount", "(I)I"⟩
def RL : String := "SpreadDeskLaw"
abbrev cL_law : ByteArray := code
def yL_law : MethodName := ⟨RL, "law", "([I)Z"⟩
end
section
/-! THE ABSTRACT MACHINE: the heap from 'base' on is a list of cells (the shape 'sh': class and fields, or kind and length of an array) with contents I (ints), L (longs); a reference i stands for the address base + i -/
abbrev Ctx : Type := Launch × Nat × (Nat → ClassId) × (Nat → Nat → Nat) × ClassId × ClassId × ClassId
abbrev SH : Type := Nat × List Nat
abbrev MI : Type := Nat → Nat → Int32
abbrev ML : Type := Nat → Nat → Int64
abbrev MD : Type := MethodName × ByteArray × Nat × Option FieldType
abbrev TR : Type := Option Value × List SH × MI × ML
abbrev cls8 : List vw_C := [(RX0, TX0, 2), (RX1, TX1, 4), (RX2, TX2, 9), (RX3, TX3, 6), (RX4, TX4, 8), (RX5, TX5, 14), (RX6, TX6, 40)]
def tysX (X : Ctx) : List (ClassId × FieldType) := [(X.2.2.2.2.1, .int), (X.2.2.2.2.2.1, .long), (X.2.2.2.2.2.2, .boolean)]
def conc (X : Ctx) : Value → Value
  | .ref i => .ref (X.2.1 + i)
  | v => v
def isN : Value → Bool
  | .null => true
  | _ => false
def fieldV (X : Ctx) (r : Nat) (x : Int32) : Value := match r with
  | 0 => .int x
  | 1 => .null
  | n + 2 => .ref (X.2.1 + n)
def cellE (X : Ctx) (s : SH) (f : Nat → Int32) (g : Nat → Int64) : va_E :=
  if s.1 = 100 then .inl (X.2.2.2.2.1, s.2.headD 0, .inl f) else if s.1 = 101 then .inl (X.2.2.2.2.2.1, s.2.headD 0, .inr (.inl g)) else if s.1 = 102 then .inl (X.2.2.2.2.2.2, s.2.headD 0, .inl f)
  else .inr (s.1, s.2.mapIdx fun k r => fieldV X r (f k))
def wsM (X : Ctx) (sh : List SH) (I : MI) (L : ML) : va_W := sh.mapIdx fun i s => (X.2.1 + i, cellE X s (I i) (L i))
def WD (X : Ctx) (sh : List SH) (I : MI) (L : ML) (H : Heap) : Prop := H.size = X.2.1 + sh.length ∧ va_P (X.2.2.1, X.2.2.2.1) cls8 (wsM X sh I L) H
def AX (X : Ctx) : Nat → Prop := fun q => X.2.1 ≤ q
def nestWs : List Cond := [.fieldLinkNest "SpreadDesk$Sweep" 68 "SpreadDesk$Tape" "kind" "[I" "SpreadDesk", .fieldLinkNest "SpreadDesk$Sweep" 61 "SpreadDesk$Tape" "one" "[I" "SpreadDesk", .fieldLinkNest "SpreadDesk$Sweep" 65 "SpreadDesk$Tape" "other" "[I" "SpreadDesk", .fieldLinkNest "SpreadDesk" 80 "SpreadDesk$Reader" "figures" "LSpreadDesk$Figures;" "SpreadDesk", .fieldLinkNest "SpreadDesk" 85 "SpreadDesk$Reader" "tape" "LSpreadDesk$Tape;" "SpreadDesk", .methodLinkNest "SpreadDesk$Reader" 66 yX5_isSource "SpreadDesk", .methodLinkNest "SpreadDesk$Figures" 18 yX5_isSource "SpreadDesk"]
def KX (X : Ctx) (U : State) : Prop := va_K (X.2.2.1, X.2.2.2.1) cls8 (tysX X) U ∧ ∀ w ∈ nestWs, va_Nw w U
def gw : List Cond := lw_tbl.filter goodWord
theorem gw_of {w : Cond} (h : w ∈ lw_tbl) (hg : goodWord w = true) : w ∈ gw := List.mem_filter.mpr ⟨h, hg⟩
theorem KX.moved {X : Ctx} {u U : State} (hW : u.WarmedH U.vm) (h : KX X u) : KX X U := by
  refine ⟨va_K.moved hW.alike h.1, fun w hw => ?_⟩
  have h1 := h.2 w hw
  simp only [nestWs, List.mem_cons, List.not_mem_nil, or_false] at hw
  rcases hw with rfl | rfl | rfl | rfl | rfl | rfl | rfl
  · exact va_Nw.warmF hW h1
  · exact va_Nw.warmF hW h1
  · exact va_Nw.warmF hW h1
  · exact va_Nw.warmF hW h1
  · exact va_Nw.warmF hW h1
  · exact va_Nw.warmM hW h1
  · exact va_Nw.warmM hW h1
theorem KX.same {X : Ctx} {u U : State} (hvm : u.vm = U.vm) (h : KX X u) : KX X U := by
  refine ⟨va_K.moved (by rw [hvm]; exact Vm.Alike.refl U.vm) h.1, fun w hw => ?_⟩
  have h1 := h.2 w hw
  simp only [nestWs, List.mem_cons, List.not_mem_nil, or_false] at hw
  rcases hw with rfl | rfl | rfl | rfl | rfl | rfl | rfl <;> exact va_Nw.same rfl hvm h1
/-! the list of cells -/
theorem wsM_get {X : Ctx} {sh : List SH} {I : MI} {L : ML} {i : Nat} {s : SH} (h : sh[i]? = some s) : (wsM X sh I L)[i]? = some (X.2.1 + i, cellE X s (I i) (L i)) := by
  simp [wsM, List.getElem?_mapIdx, h]
theorem wsM_len (X : Ctx) (sh : List SH) (I : MI) (L : ML) : (wsM X sh I L).length = sh.length := by simp [wsM]
theorem wsM_D (X : Ctx) (sh : List SH) (I : MI) (L : ML) : va_D (AX X) (wsM X sh I L) := by
  refine ⟨fun i j p q hp hq h => ?_, fun k q hk => ?_⟩
  · simp only [wsM, List.getElem?_mapIdx, Option.map_eq_some_iff] at hp hq
    obtain ⟨a, -, rfl⟩ := hp
    obtain ⟨b, -, rfl⟩ := hq
    have h' : X.2.1 + i = X.2.1 + j := h
    omega
  · simp only [wsM, List.getElem?_mapIdx, Option.map_eq_some_iff] at hk
    obtain ⟨a, -, rfl⟩ := hk
    exact Nat.le_add_right _ _
/-- one cell of the list is changed -/
theorem wsM_set {X : Ctx} {sh sh' : List SH} {I I' : MI} {L L' : ML} {i : Nat} {s : SH} (c : va_E) (h : sh'[i]? = some s) (hl : sh'.length = sh.length) (hs : ∀ j, j ≠ i → sh'[j]? = sh[j]?) (hI : ∀ j, j ≠ i → I' j = I j) (hL : ∀ j, j ≠ i → L' j = L j) (hc : c = cellE X s (I' i) (L' i)) :
    (wsM X sh I L).set i (X.2.1 + i, c) = wsM X sh' I' L' := by
  apply List.ext_getElem?
  intro j
  rw [List.getElem?_set]
  by_cases hj : i = j
  · subst hj
    have hlt : i < sh'.length := (List.getElem?_eq_some_iff.mp h).1
    rw [if_pos rfl, if_pos (by rw [wsM_len]; omega), wsM_get h, hc]
  · rw [if_neg hj]
    have hj' : j ≠ i := fun q => hj q.symm
    simp only [wsM, List.getElem?_mapIdx]
    rw [hs j hj', hI j hj', hL j hj']
theorem wsM_push {X : Ctx} {sh : List SH} {I : MI} {L : ML} (s : SH) (c : va_E) {I' : MI} {L' : ML} (hI : ∀ j, j < sh.length → I' j = I j) (hL : ∀ j, j < sh.length → L' j = L j) (hc : c = cellE X s (I' sh.length) (L' sh.length)) :
    wsM X sh I L ++ [(X.2.1 + sh.length, c)] = wsM X (sh ++ [s]) I' L' := by
  apply List.ext_getElem?
  intro j
  by_cases hj : j < sh.length
  · rw [List.getElem?_append_left (by rw [wsM_len]; exact hj)]
    simp only [wsM, List.getElem?_mapIdx]
    rw [List.getElem?_append_left hj, hI j hj, hL j hj]
  · rw [List.getElem?_append_right (by rw [wsM_len]; omega), wsM_len]
    by_cases he : j = sh.length
    · subst he
      rw [Nat.sub_self]
      simp only [wsM, List.getElem?_mapIdx]
      simp [hc]
    · have h1 : ([(X.2.1 + sh.length, c)] : va_W)[j - sh.length]? = none := List.getElem?_eq_none_iff.mpr (by simp; omega)
      rw [h1]
      simp only [wsM, List.getElem?_mapIdx]
      rw [List.getElem?_eq_none_iff.mpr (by simp; omega)]
      rfl
theorem cell_i {X : Ctx} {n : Nat} {r : List Nat} {f : Nat → Int32} {g : Nat → Int64} : cellE X (100, n :: r) f g = .inl (X.2.2.2.2.1, n, .inl f) := rfl
theorem cell_l {X : Ctx} {n : Nat} {r : List Nat} {f : Nat → Int32} {g : Nat → Int64} : cellE X (101, n :: r) f g = .inl (X.2.2.2.2.2.1, n, .inr (.inl g)) := rfl
theorem cell_z {X : Ctx} {n : Nat} {r : List Nat} {f : Nat → Int32} {g : Nat → Int64} : cellE X (102, n :: r) f g = .inl (X.2.2.2.2.2.2, n, .inl f) := rfl
theorem cell_o {X : Ctx} {ci : Nat} {r : List Nat} {f : Nat → Int32} {g : Nat → Int64} (h : ci < 100) : cellE X (ci, r) f g = .inr (ci, r.mapIdx fun k r => fieldV X r (f k)) := by
  unfold cellE
  rw [if_neg (by show ¬ ci = 100; omega), if_neg (by show ¬ ci = 101; omega), if_neg (by show ¬ ci = 102; omega)]
/-! locals: by place; null where nothing is held -/
def asc (X : Ctx) (lo : List Value) : List (Nat × Value) := (lo.mapIdx fun i v => (i, conc X v)).filter (fun q => !isN q.2)
def LH (X : Ctx) (ls : Array Slot) (nL : Nat) (lo : List Value) : Prop := lv_has ls nL (asc X lo)
theorem isN_conc (X : Ctx) (v : Value) : isN (conc X v) = isN v := by cases v <;> rfl
theorem cat_conc (X : Ctx) (v : Value) : (conc X v).category = v.category := by cases v <;> rfl
theorem asc_mem {X : Ctx} {lo : List Value} {q : Nat × Value} : q ∈ asc X lo ↔ ∃ v, lo[q.1]? = some v ∧ isN v = false ∧ q.2 = conc X v := by
  unfold asc
  rw [List.mem_filter, List.mem_mapIdx]
  constructor
  · rintro ⟨⟨i, h, rfl⟩, h2⟩
    refine ⟨lo[i], ?_, ?_, rfl⟩
    · exact List.getElem?_eq_getElem h
    · simpa [isN_conc] using h2
  · rintro ⟨v, h1, h2, h3⟩
    obtain ⟨hlt, rfl⟩ := List.getElem?_eq_some_iff.mp h1
    refine ⟨⟨q.1, hlt, ?_⟩, ?_⟩
    · rw [← h3]
    · rw [h3]; simpa [isN_conc] using h2
theorem LH.get {X : Ctx} {ls : Array Slot} {nL : Nat} {lo : List Value} (h : LH X ls nL lo) {i : Nat} {v : Value} (hi : lo[i]? = some v) (hn : isN v = false) : ls[i]? = some (.val (conc X v)) :=
  h.2.2 (i, conc X v) (asc_mem.mpr ⟨v, hi, hn, rfl⟩)
/-- what stands ahead of place i is no long -/
def okS (lo : List Value) (i : Nat) : Bool := match i with
  | 0 => true
  | j + 1 => match lo[j]? with
    | some v => v.category != 2
    | none => true
theorem okS_at {lo : List Value} {i j : Nat} {v : Value} (h : okS lo i = true) (hj : j + 1 = i) (hv : lo[j]? = some v) : ¬ v.category = 2 := by
  subst hj
  simp only [okS, hv] at h
  simpa using h
theorem LH.put1 {X : Ctx} {ls : Array Slot} {nL : Nat} {lo : List Value} {i : Nat} {w : Value} (hk : okS lo i = true)
    (h : lv_has ls nL ((i, conc X w) :: (asc X lo).filter (fun q => !(q.1 == i) && !(q.1 + 1 == i && q.2.category == 2)))) : LH X ls nL (lo.set i w) := by
  refine ⟨h.1, h.2.1, fun q hq => h.2.2 q ?_⟩
  obtain ⟨v, h1, h2, h3⟩ := asc_mem.mp hq
  rw [List.getElem?_set] at h1
  by_cases hj : i = q.1
  · rw [if_pos hj] at h1
    split at h1
    · cases h1
      exact List.mem_cons.mpr (Or.inl (by rw [← h3, hj]))
    · cases h1
  · rw [if_neg hj] at h1
    refine List.mem_cons_of_mem _ (List.mem_filter.mpr ⟨asc_mem.mpr ⟨v, h1, h2, h3⟩, ?_⟩)
    have hne : (q.1 == i) = false := by simpa using fun e => hj e.symm
    by_cases he : q.1 + 1 = i
    · have hc := okS_at hk he h1
      rw [h3]
      simp [hne, cat_conc, hc]
    · simp [hne, he]
theorem LH.put2 {X : Ctx} {ls : Array Slot} {nL : Nat} {lo : List Value} {i : Nat} {w : Value} (hk : okS lo i = true)
    (h : lv_has ls nL ((i, conc X w) :: (asc X lo).filter (fun q => !(q.1 == i) && (!(q.1 == i + 1) && !(q.1 + 1 == i && q.2.category == 2))))) : LH X ls nL ((lo.set i w).set (i + 1) .null) := by
  refine ⟨h.1, h.2.1, fun q hq => h.2.2 q ?_⟩
  obtain ⟨v, h1, h2, h3⟩ := asc_mem.mp hq
  rw [List.getElem?_set] at h1
  by_cases hj1 : i + 1 = q.1
  · rw [if_pos hj1] at h1
    split at h1
    · cases h1; cases h2
    · cases h1
  rw [if_neg hj1, List.getElem?_set] at h1
  by_cases hj : i = q.1
  · rw [if_pos hj] at h1
    split at h1
    · cases h1
      exact List.mem_cons.mpr (Or.inl (by rw [← h3, hj]))
    · cases h1
  · rw [if_neg hj] at h1
    refine List.mem_cons_of_mem _ (List.mem_filter.mpr ⟨asc_mem.mpr ⟨v, h1, h2, h3⟩, ?_⟩)
    have hne : (q.1 == i) = false := by simpa using fun e => hj e.symm
    have hne1 : (q.1 == i + 1) = false := by simpa using fun e => hj1 e.symm
    by_cases he : q.1 + 1 = i
    · have hc := okS_at hk he h1
      rw [h3]
      simp [hne, hne1, cat_conc, hc]
    · simp [hne, hne1, he]
def loA : List Value → List Value
  | [] => []
  | v :: r => if v.category = 2 then v :: .null :: loA r else v :: loA r
theorem loA_args (X : Ctx) (n : Nat) (av : List Value) : ∀ (i : Nat) (q : Nat × Value) (v : Value), (loA av ++ List.replicate n Value.null)[q.1]? = some v → isN v = false → q.2 = conc X v → (i + q.1, q.2) ∈ lv_args i (av.map (conc X)) := by
  induction av with
  | nil =>
    intro i q v h1 h2 h3
    simp only [loA, List.nil_append] at h1
    have := List.eq_of_mem_replicate (List.mem_of_getElem? h1)
    subst this
    cases h2
  | cons a r ih =>
    intro i q v h1 h2 h3
    obtain ⟨k, w⟩ := q
    by_cases hc : a.category = 2
    · have hl : lv_args i ((a :: r).map (conc X)) = (i, conc X a) :: lv_args (i + 2) (r.map (conc X)) := by
        simp [lv_args, cat_conc, hc]
      rw [hl]
      simp only [loA, if_pos hc] at h1
      match k, h1 with
      | 0, h1 =>
        simp at h1
        subst h1
        exact List.mem_cons.mpr (Or.inl (by rw [show w = conc X a from h3]; rfl))
      | 1, h1 =>
        simp at h1
        subst h1
        cases h2
      | k + 2, h1 =>
        simp at h1
        have := ih (i + 2) (k, w) v (by simpa using h1) h2 h3
        refine List.mem_cons_of_mem _ ?_
        have e : i + (k + 2) = i + 2 + k := by omega
        rw [show ((i + (k + 2), w) : Nat × Value) = (i + 2 + k, w) by rw [e]]
        exact this
    · have hl : lv_args i ((a :: r).map (conc X)) = (i, conc X a) :: lv_args (i + 1) (r.map (conc X)) := by
        simp [lv_args, cat_conc, hc]
      rw [hl]
      simp only [loA, if_neg hc] at h1
      match k, h1 with
      | 0, h1 =>
        simp at h1
        subst h1
        exact List.mem_cons.mpr (Or.inl (by rw [show w = conc X a from h3]; rfl))
      | k + 1, h1 =>
        simp at h1
        have := ih (i + 1) (k, w) v (by simpa using h1) h2 h3
        refine List.mem_cons_of_mem _ ?_
        have e : i + (k + 1) = i + 1 + k := by omega
        rw [show ((i + (k + 1), w) : Nat × Value) = (i + 1 + k, w) by rw [e]]
        exact this
theorem LH.entry (X : Ctx) (av : List Value) {n : Nat} (hlen : (lg_sl (av.map (conc X))).length ≤ n) (k : Nat) : LH X ((lg_sl (av.map (conc X)) ++ List.replicate (n - (lg_sl (av.map (conc X))).length) Slot.unset).toArray) n (loA av ++ List.replicate k Value.null) := by
  have h := lv_entry (av.map (conc X)) hlen
  refine ⟨h.1, h.2.1, fun q hq => h.2.2 q ?_⟩
  obtain ⟨v, h1, h2, h3⟩ := asc_mem.mp hq
  have := loA_args X k av 0 q v h1 h2 h3
  simpa using this
/-! the judgement -/
def rmX (d : Nat) (ct : Nat × Nat) : Room := { frames := d, cells := ct.1, slots := ct.2, locals := 40 * d }
def QX (X : Ctx) (T : TR) : Array Value → State → Outcome → State → Prop := fun _ st oc t => oc = .returned (T.1.map (conc X)) ∧ WD X T.2.1 T.2.2.1 T.2.2.2 t.heap ∧ va_F (AX X) st t
def CX (X : Ctx) (M : MD) (p : Program) (s : State) (m : MethodId) (args : Array Value) (meth : Method) (c : Code) : Prop :=
  p.tables.exec = Jvm.exec ∧ c.code = M.2.1 ∧ c.maxLocals = M.2.2.1 ∧ s.vm.findClass M.1.cls = some m.cls ∧ meth.sig.returnType = M.2.2.2 ∧ meth.locks = false ∧ meth.name = M.1.name ∧ (∀ w ∈ gw, w.before args s = true) ∧ KX X s ∧ X.2.1 ≤ s.heap.size
def Ev (X : Ctx) (M : MD) (d : Nat) (ct cs : Nat × Nat) (T : TR) (pc : Nat) (lo st : List Value) (sh : List SH) (I : MI) (L : ML) : Prop :=
  ∀ (p : Program) (e : Env) (s : State) (m : MethodId) (args : Array Value) (below : List Frame) (meth : Method) (c : Code) (H : Heap) (locs : List Loc) (ls : Array Slot),
    CX X M p s m args meth c → WD X sh I L H → va_S (AX X) s.heap H locs → LH X ls M.2.2.1 lo →
    W p X.1 e (rmX d ct) s m args below meth c H locs cs.1 cs.2 (MQ below (QX X T) args s ct.1 ct.2 (AX X)) (F0 m pc ls (st.map (conc X)))
def Sp (X : Ctx) (M : MD) (d : Nat) (ct : Nat × Nat) (av : List Value) (sh : List SH) (I : MI) (L : ML) (T : TR) : Prop :=
  Met X.1 M.1 (.code M.1 M.2.1 M.2.2.1 M.2.2.2 :: gw) (rmX d ct) (va_Pc (av.map (conc X)) (fun U => WD X sh I L U.heap ∧ KX X U)) (QX X T) ct.1 ct.2 (AX X)
def OKM (M : MD) (n : Nat) : Prop := plainName M.1.cls = true ∧ Cond.code M.1 M.2.1 M.2.2.1 M.2.2.2 ∈ gw ∧ (M.1.cls ≠ "java/lang/invoke/MethodHandle" ∧ M.1.cls ≠ "java/lang/invoke/VarHandle") ∧ (parseMethodDescriptor M.1.desc).map (fun d => d.parameters.length) = some n ∧ Cond.initialized M.1.cls ∈ gw ∧ M.2.2.1 ≤ 20
theorem gw_good : ∀ w ∈ gw, (w.onTables && w.keeps) = true ∨ ∃ ty, w = .arrayClass ty := fun _ h => good_of_word (List.mem_filter.mp h).2
theorem gw_pay {s : State} {args : Array Value} (hts : ∀ w ∈ gw, w.before args s = true) {ws : List Cond} (hw : ∀ w ∈ ws, w ∈ gw) : GoodIn gw ws := fun w h => ⟨hw w h, gw_good w (hw w h)⟩
set_option maxHeartbeats 1000000 in
theorem Sp.of {X : Ctx} {M : MD} {d n : Nat} {ct : Nat × Nat} {av : List Value} {sh : List SH} {I : MI} {L : ML} {T : TR} (hok : OKM M n) (lo : List Value) (k : Nat) (hlo : loA av ++ List.replicate k Value.null = lo) (hlen : (lg_sl (av.map (conc X))).length ≤ M.2.2.1)
    (h : Ev X M d ct (0, 0) T 0 lo [] sh I L) : Sp X M d ct av sh I L T := by
  obtain ⟨y, cc, nL, ret⟩ := M
  subst hlo
  refine Met.ofW (cc := cc) (maxL := nL) (ret := ret) hok.1 rfl ?_
  intro p e s m args below meth c s₁ B hml hv
  obtain ⟨rfl, hW, hK⟩ := hv
  have hts := atoms_spec (ws := Cond.code y cc nL ret :: gw) B.pre
  rw [lg_entry_eq]
  exact h p e s m _ below meth c s.heap [] _ ⟨B.exec, B.bytes, hml, findClass_of_methodNamed B.named, B.returns, B.notSynchronized, (name_of_methodNamed B.named B.method).1, fun w hw => hts w (List.mem_cons_of_mem _ hw), hK, by rw [hW.1]; exact Nat.le_add_right _ _⟩ hW va_S.rf (LH.entry X av hlen k)
section ROWS
variable {X : Ctx} {M : MD} {d : Nat} {ct cs : Nat × Nat} {T : TR} {pc : Nat} {lo st rest : List Value} {sh : List SH} {I : MI} {L : ML}
theorem r_iconst {n : Int} {v : Int32} (hdg : decode M.2.1 pc = .ok (.iconst n, 1)) (hv : Int32.ofInt n = v) (k : Ev X M d ct cs T (pc + 1) lo (.int v :: st) sh I L) : Ev X M d ct cs T pc lo st sh I L :=
  fun p e s m args below meth c H locs ls hC hW hS hl0 => lv_iconst hC.1 hC.2.1 hdg hv (k p e s m args below meth c H locs ls hC hW hS hl0)
theorem r_bipush {n : Int} {v : Int32} (hdg : decode M.2.1 pc = .ok (.bipush n, 2)) (hv : (Int8.ofInt n).toInt32 = v) (k : Ev X M d ct cs T (pc + 2) lo (.int v :: st) sh I L) : Ev X M d ct cs T pc lo st sh I L :=
  fun p e s m args below meth c H locs ls hC hW hS hl0 => lv_bipush hC.1 hC.2.1 hdg hv (k p e s m args below meth c H locs ls hC hW hS hl0)
theorem r_sipush {n : Int} {v : Int32} (hdg : decode M.2.1 pc = .ok (.sipush n, 3)) (hv : (Int16.ofInt n).toInt32 = v) (k : Ev X M d ct cs T (pc + 3) lo (.int v :: st) sh I L) : Ev X M d ct cs T pc lo st sh I L :=
  fun p e s m args below meth c H locs ls hC hW hS hl0 => lv_sipush hC.1 hC.2.1 hdg hv (k p e s m args below meth c H locs ls hC hW hS hl0)
theorem r_lconst {n : Fin 2} {v : Int64} (hdg : decode M.2.1 pc = .ok (.lconst n, 1)) (hv : Int64.ofNat (n : Nat) = v) (k : Ev X M d ct cs T (pc + 1) lo (.long v :: st) sh I L) : Ev X M d ct cs T pc lo st sh I L :=
  fun p e s m args below meth c H locs ls hC hW hS hl0 => lv_lconst hC.1 hC.2.1 hdg hv (k p e s m args below meth c H locs ls hC hW hS hl0)
theorem r_iload_n {j : Fin 4} {x : Int32} (hdg : decode M.2.1 pc = .ok (.iload_n j, 1)) (hl : lo[(j : Nat)]? = some (.int x)) (k : Ev X M d ct cs T (pc + 1) lo (.int x :: st) sh I L) : Ev X M d ct cs T pc lo st sh I L :=
  fun p e s m args below meth c H locs ls hC hW hS hl0 => lv_iload_n hC.1 hC.2.1 hdg rfl (hl0.get hl rfl) (k p e s m args below meth c H locs ls hC hW hS hl0)
theorem r_iload {j : Nat} {x : Int32} (hdg : decode M.2.1 pc = .ok (.iload j, 2)) (hl : lo[j]? = some (.int x)) (k : Ev X M d ct cs T (pc + 2) lo (.int x :: st) sh I L) : Ev X M d ct cs T pc lo st sh I L :=
  fun p e s m args below meth c H locs ls hC hW hS hl0 => lv_iload hC.1 hC.2.1 hdg (hl0.get hl rfl) (k p e s m args below meth c H locs ls hC hW hS hl0)
theorem r_lload_n {j : Fin 4} {x : Int64} (hdg : decode M.2.1 pc = .ok (.lload_n j, 1)) (hl : lo[(j : Nat)]? = some (.long x)) (k : Ev X M d ct cs T (pc + 1) lo (.long x :: st) sh I L) : Ev X M d ct cs T pc lo st sh I L :=
  fun p e s m args below meth c H locs ls hC hW hS hl0 => lv_lload_n hC.1 hC.2.1 hdg rfl (hl0.get hl rfl) (k p e s m args below meth c H locs ls hC hW hS hl0)
theorem r_lload {j : Nat} {x : Int64} (hdg : decode M.2.1 pc = .ok (.lload j, 2)) (hl : lo[j]? = some (.long x)) (k : Ev X M d ct cs T (pc + 2) lo (.long x :: st) sh I L) : Ev X M d ct cs T pc lo st sh I L :=
  fun p e s m args below meth c H locs ls hC hW hS hl0 => lv_lload hC.1 hC.2.1 hdg (hl0.get hl rfl) (k p e s m args below meth c H locs ls hC hW hS hl0)
theorem r_aload_n {j : Fin 4} {x : Nat} (hdg : decode M.2.1 pc = .ok (.aload_n j, 1)) (hl : lo[(j : Nat)]? = some (.ref x)) (k : Ev X M d ct cs T (pc + 1) lo (.ref x :: st) sh I L) : Ev X M d ct cs T pc lo st sh I L :=
  fun p e s m args below meth c H locs ls hC hW hS hl0 => lv_aload_n hC.1 hC.2.1 hdg rfl (hl0.get hl rfl) (k p e s m args below meth c H locs ls hC hW hS hl0)
theorem r_aload {j : Nat} {x : Nat} (hdg : decode M.2.1 pc = .ok (.aload j, 2)) (hl : lo[j]? = some (.ref x)) (k : Ev X M d ct cs T (pc + 2) lo (.ref x :: st) sh I L) : Ev X M d ct cs T pc lo st sh I L :=
  fun p e s m args below meth c H locs ls hC hW hS hl0 => lv_aload hC.1 hC.2.1 hdg (hl0.get hl rfl) (k p e s m args below meth c H locs ls hC hW hS hl0)
theorem r_istore_n {j : Fin 4} {x : Int32} {lo1 : List Value} (hdg : decode M.2.1 pc = .ok (.istore_n j, 1)) (hk : okS lo j = true) (hn : (j : Nat) < M.2.2.1) (h1 : lo.set j (.int x) = lo1) (k : Ev X M d ct cs T (pc + 1) lo1 st sh I L) : Ev X M d ct cs T pc lo (.int x :: st) sh I L :=
  fun p e s m args below meth c H locs ls hC hW hS hl0 => by subst h1; exact lv_istore_n hC.1 hC.2.1 hdg rfl hl0 hn rfl (fun ls1 hl1 => k p e s m args below meth c H locs ls1 hC hW hS (LH.put1 hk hl1))
theorem r_istore {j : Nat} {x : Int32} {lo1 : List Value} (hdg : decode M.2.1 pc = .ok (.istore j, 2)) (hk : okS lo j = true) (hn : j < M.2.2.1) (h1 : lo.set j (.int x) = lo1) (k : Ev X M d ct cs T (pc + 2) lo1 st sh I L) : Ev X M d ct cs T pc lo (.int x :: st) sh I L :=
  fun p e s m args below meth c H locs ls hC hW hS hl0 => by subst h1; exact lv_istore hC.1 hC.2.1 hdg hl0 hn rfl (fun ls1 hl1 => k p e s m args below meth c H locs ls1 hC hW hS (LH.put1 hk hl1))
theorem r_astore_n {j : Fin 4} {x : Nat} {lo1 : List Value} (hdg : decode M.2.1 pc = .ok (.astore_n j, 1)) (hk : okS lo j = true) (hn : (j : Nat) < M.2.2.1) (h1 : lo.set j (.ref x) = lo1) (k : Ev X M d ct cs T (pc + 1) lo1 st sh I L) : Ev X M d ct cs T pc lo (.ref x :: st) sh I L :=
  fun p e s m args below meth c H locs ls hC hW hS hl0 => by subst h1; exact lv_astore_n hC.1 hC.2.1 hdg rfl hl0 hn rfl (fun ls1 hl1 => k p e s m args below meth c H locs ls1 hC hW hS (LH.put1 hk hl1))
theorem r_astore {j : Nat} {x : Nat} {lo1 : List Value} (hdg : decode M.2.1 pc = .ok (.astore j, 2)) (hk : okS lo j = true) (hn : j < M.2.2.1) (h1 : lo.set j (.ref x) = lo1) (k : Ev X M d ct cs T (pc + 2) lo1 st sh I L) : Ev X M d ct cs T pc lo (.ref x :: st) sh I L :=
  fun p e s m args below meth c H locs ls hC hW hS hl0 => by subst h1; exact lv_astore hC.1 hC.2.1 hdg hl0 hn rfl (fun ls1 hl1 => k p e s m args below meth c H locs ls1 hC hW hS (LH.put1 hk hl1))
theorem r_lstore_n {j : Fin 4} {x : Int64} {lo1 : List Value} (hdg : decode M.2.1 pc = .ok (.lstore_n j, 1)) (hk : okS lo j = true) (hn : (j : Nat) + 1 < M.2.2.1) (h1 : (lo.set j (.long x)).set (j + 1) .null = lo1) (k : Ev X M d ct cs T (pc + 1) lo1 st sh I L) : Ev X M d ct cs T pc lo (.long x :: st) sh I L :=
  fun p e s m args below meth c H locs ls hC hW hS hl0 => by subst h1; exact lv_lstore_n hC.1 hC.2.1 hdg rfl hl0 hn rfl (fun ls1 hl1 => k p e s m args below meth c H locs ls1 hC hW hS (LH.put2 hk hl1))
theorem r_lstore {j : Nat} {x : Int64} {lo1 : List Value} (hdg : decode M.2.1 pc = .ok (.lstore j, 2)) (hk : okS lo j = true) (hn : j + 1 < M.2.2.1) (h1 : (lo.set j (.long x)).set (j + 1) .null = lo1) (k : Ev X M d ct cs T (pc + 2) lo1 st sh I L) : Ev X M d ct cs T pc lo (.long x :: st) sh I L :=
  fun p e s m args below meth c H locs ls hC hW hS hl0 => by subst h1; exact lv_lstore hC.1 hC.2.1 hdg hl0 hn rfl (fun ls1 hl1 => k p e s m args below meth c H locs ls1 hC hW hS (LH.put2 hk hl1))
theorem asc_at {X : Ctx} {lo : List Value} {i : Nat} {v : Value} (h : lo[i]? = some v) (hn : isN v = false) : ∃ k : Nat, (asc X lo)[k]? = some (i, conc X v) := List.getElem?_of_mem (asc_mem.mpr ⟨v, h, hn, rfl⟩)
theorem r_iinc {j : Nat} {n : Int} {x v : Int32} {lo1 : List Value} (hdg : decode M.2.1 pc = .ok (.iinc j n, 3)) (hj : lo[j]? = some (.int x)) (hk : okS lo j = true) (hv : x + Int32.ofInt n = v) (hn : j < M.2.2.1) (h1 : lo.set j (.int v) = lo1) (k : Ev X M d ct cs T (pc + 3) lo1 st sh I L) : Ev X M d ct cs T pc lo st sh I L :=
  fun p e s m args below meth c H locs ls hC hW hS hl0 => by subst h1; obtain ⟨kk, hkk⟩ := asc_at (X := X) hj rfl; exact lv_iinc hC.1 hC.2.1 hdg hl0 hkk hv hn rfl (fun ls1 hl1 => k p e s m args below meth c H locs ls1 hC hW hS (LH.put1 hk hl1))
theorem r_iadd {x y : Int32} (hdg : decode M.2.1 pc = .ok (.iadd, 1)) (k : Ev X M d ct cs T (pc + 1) lo (.int (x + y) :: st) sh I L) : Ev X M d ct cs T pc lo (.int y :: .int x :: st) sh I L :=
  fun p e s m args below meth c H locs ls hC hW hS hl0 => lv_iadd hC.1 hC.2.1 hdg (k p e s m args below meth c H locs ls hC hW hS hl0)
theorem r_isub {x y : Int32} (hdg : decode M.2.1 pc = .ok (.isub, 1)) (k : Ev X M d ct cs T (pc + 1) lo (.int (x - y) :: st) sh I L) : Ev X M d ct cs T pc lo (.int y :: .int x :: st) sh I L :=
  fun p e s m args below meth c H locs ls hC hW hS hl0 => lv_isub hC.1 hC.2.1 hdg (k p e s m args below meth c H locs ls hC hW hS hl0)
theorem r_imul {x y : Int32} (hdg : decode M.2.1 pc = .ok (.imul, 1)) (k : Ev X M d ct cs T (pc + 1) lo (.int (x * y) :: st) sh I L) : Ev X M d ct cs T pc lo (.int y :: .int x :: st) sh I L :=
  fun p e s m args below meth c H locs ls hC hW hS hl0 => lv_imul hC.1 hC.2.1 hdg (k p e s m args below meth c H locs ls hC hW hS hl0)
theorem r_iand {x y : Int32} (hdg : decode M.2.1 pc = .ok (.iand, 1)) (k : Ev X M d ct cs T (pc + 1) lo (.int (x &&& y) :: st) sh I L) : Ev X M d ct cs T pc lo (.int y :: .int x :: st) sh I L :=
  fun p e s m args below meth c H locs ls hC hW hS hl0 => lv_iand hC.1 hC.2.1 hdg (k p e s m args below meth c H locs ls hC hW hS hl0)
theorem r_ior {x y : Int32} (hdg : decode M.2.1 pc = .ok (.ior, 1)) (k : Ev X M d ct cs T (pc + 1) lo (.int (x ||| y) :: st) sh I L) : Ev X M d ct cs T pc lo (.int y :: .int x :: st) sh I L :=
  fun p e s m args below meth c H locs ls hC hW hS hl0 => lv_ior hC.1 hC.2.1 hdg (k p e s m args below meth c H locs ls hC hW hS hl0)
theorem r_ishl {x y : Int32} (hdg : decode M.2.1 pc = .ok (.ishl, 1)) (k : Ev X M d ct cs T (pc + 1) lo (.int (x <<< (y &&& 31)) :: st) sh I L) : Ev X M d ct cs T pc lo (.int y :: .int x :: st) sh I L :=
  fun p e s m args below meth c H locs ls hC hW hS hl0 => lv_ishl hC.1 hC.2.1 hdg (k p e s m args below meth c H locs ls hC hW hS hl0)
theorem r_ishr {x y : Int32} (hdg : decode M.2.1 pc = .ok (.ishr, 1)) (k : Ev X M d ct cs T (pc + 1) lo (.int (x >>> (y &&& 31)) :: st) sh I L) : Ev X M d ct cs T pc lo (.int y :: .int x :: st) sh I L :=
  fun p e s m args below meth c H locs ls hC hW hS hl0 => lv_ishr hC.1 hC.2.1 hdg (k p e s m args below meth c H locs ls hC hW hS hl0)
theorem r_ladd {x y : Int64} (hdg : decode M.2.1 pc = .ok (.ladd, 1)) (k : Ev X M d ct cs T (pc + 1) lo (.long (x + y) :: st) sh I L) : Ev X M d ct cs T pc lo (.long y :: .long x :: st) sh I L :=
  fun p e s m args below meth c H locs ls hC hW hS hl0 => lv_ladd hC.1 hC.2.1 hdg (k p e s m args below meth c H locs ls hC hW hS hl0)
theorem r_lsub {x y : Int64} (hdg : decode M.2.1 pc = .ok (.lsub, 1)) (k : Ev X M d ct cs T (pc + 1) lo (.long (x - y) :: st) sh I L) : Ev X M d ct cs T pc lo (.long y :: .long x :: st) sh I L :=
  fun p e s m args below meth c H locs ls hC hW hS hl0 => lv_lsub hC.1 hC.2.1 hdg (k p e s m args below meth c H locs ls hC hW hS hl0)
theorem r_lmul {x y : Int64} (hdg : decode M.2.1 pc = .ok (.lmul, 1)) (k : Ev X M d ct cs T (pc + 1) lo (.long (x * y) :: st) sh I L) : Ev X M d ct cs T pc lo (.long y :: .long x :: st) sh I L :=
  fun p e s m args below meth c H locs ls hC hW hS hl0 => lv_lmul hC.1 hC.2.1 hdg (k p e s m args below meth c H locs ls hC hW hS hl0)
theorem r_land {x y : Int64} (hdg : decode M.2.1 pc = .ok (.land, 1)) (k : Ev X M d ct cs T (pc + 1) lo (.long (x &&& y) :: st) sh I L) : Ev X M d ct cs T pc lo (.long y :: .long x :: st) sh I L :=
  fun p e s m args below meth c H locs ls hC hW hS hl0 => lv_land hC.1 hC.2.1 hdg (k p e s m args below meth c H locs ls hC hW hS hl0)
theorem r_lor {x y : Int64} (hdg : decode M.2.1 pc = .ok (.lor, 1)) (k : Ev X M d ct cs T (pc + 1) lo (.long (x ||| y) :: st) sh I L) : Ev X M d ct cs T pc lo (.long y :: .long x :: st) sh I L :=
  fun p e s m args below meth c H locs ls hC hW hS hl0 => lv_lor hC.1 hC.2.1 hdg (k p e s m args below meth c H locs ls hC hW hS hl0)
theorem r_idiv {x y : Int32} (hdg : decode M.2.1 pc = .ok (.idiv, 1)) (hne : ¬ y = 0) (k : Ev X M d ct cs T (pc + 1) lo (.int (x / y) :: st) sh I L) : Ev X M d ct cs T pc lo (.int y :: .int x :: st) sh I L :=
  fun p e s m args below meth c H locs ls hC hW hS hl0 => lv_idiv hC.1 hC.2.1 hdg hne (k p e s m args below meth c H locs ls hC hW hS hl0)
theorem r_irem {x y : Int32} (hdg : decode M.2.1 pc = .ok (.irem, 1)) (hne : ¬ y = 0) (k : Ev X M d ct cs T (pc + 1) lo (.int (x - x / y * y) :: st) sh I L) : Ev X M d ct cs T pc lo (.int y :: .int x :: st) sh I L :=
  fun p e s m args below meth c H locs ls hC hW hS hl0 => lv_irem hC.1 hC.2.1 hdg hne (k p e s m args below meth c H locs ls hC hW hS hl0)
theorem r_ineg {x : Int32} (hdg : decode M.2.1 pc = .ok (.ineg, 1)) (k : Ev X M d ct cs T (pc + 1) lo (.int (-x) :: st) sh I L) : Ev X M d ct cs T pc lo (.int x :: st) sh I L :=
  fun p e s m args below meth c H locs ls hC hW hS hl0 => lv_ineg hC.1 hC.2.1 hdg (k p e s m args below meth c H locs ls hC hW hS hl0)
theorem r_lneg {x : Int64} (hdg : decode M.2.1 pc = .ok (.lneg, 1)) (k : Ev X M d ct cs T (pc + 1) lo (.long (-x) :: st) sh I L) : Ev X M d ct cs T pc lo (.long x :: st) sh I L :=
  fun p e s m args below meth c H locs ls hC hW hS hl0 => lv_lneg hC.1 hC.2.1 hdg (k p e s m args below meth c H locs ls hC hW hS hl0)
theorem r_i2l {x : Int32} (hdg : decode M.2.1 pc = .ok (.i2l, 1)) (k : Ev X M d ct cs T (pc + 1) lo (.long x.toInt64 :: st) sh I L) : Ev X M d ct cs T pc lo (.int x :: st) sh I L :=
  fun p e s m args below meth c H locs ls hC hW hS hl0 => lv_i2l hC.1 hC.2.1 hdg rfl (k p e s m args below meth c H locs ls hC hW hS hl0)
theorem r_iushr {x y : Int32} (hdg : decode M.2.1 pc = .ok (.iushr, 1)) (k : Ev X M d ct cs T (pc + 1) lo (.int (x.toUInt32 >>> (y.toUInt32 &&& Int32.toUInt32 31)).toInt32 :: st) sh I L) : Ev X M d ct cs T pc lo (.int y :: .int x :: st) sh I L :=
  fun p e s m args below meth c H locs ls hC hW hS hl0 => lv_iushr hC.1 hC.2.1 hdg rfl (k p e s m args below meth c H locs ls hC hW hS hl0)
theorem r_lshl {x : Int64} {y : Int32} (hdg : decode M.2.1 pc = .ok (.lshl, 1)) (k : Ev X M d ct cs T (pc + 1) lo (.long (x <<< (y.toInt64 &&& 63)) :: st) sh I L) : Ev X M d ct cs T pc lo (.int y :: .long x :: st) sh I L :=
  fun p e s m args below meth c H locs ls hC hW hS hl0 => lv_lshl hC.1 hC.2.1 hdg rfl (k p e s m args below meth c H locs ls hC hW hS hl0)
theorem r_lcmp {x y : Int64} (hdg : decode M.2.1 pc = .ok (.lcmp, 1)) (k : Ev X M d ct cs T (pc + 1) lo (.int (lg_cmp x y) :: st) sh I L) : Ev X M d ct cs T pc lo (.long y :: .long x :: st) sh I L :=
  fun p e s m args below meth c H locs ls hC hW hS hl0 => W.lcmp hC.1 hC.2.1 hdg (k p e s m args below meth c H locs ls hC hW hS hl0)
theorem r_dup {v : Value} (hdg : decode M.2.1 pc = .ok (.dup, 1)) (hv : v.category = 1) (k : Ev X M d ct cs T (pc + 1) lo (v :: v :: st) sh I L) : Ev X M d ct cs T pc lo (v :: st) sh I L :=
  fun p e s m args below meth c H locs ls hC hW hS hl0 => lv_dup hC.1 hC.2.1 hdg (by rw [cat_conc]; exact hv) (k p e s m args below meth c H locs ls hC hW hS hl0)
theorem r_pop {v : Value} (hdg : decode M.2.1 pc = .ok (.pop, 1)) (hv : v.category = 1) (k : Ev X M d ct cs T (pc + 1) lo st sh I L) : Ev X M d ct cs T pc lo (v :: st) sh I L :=
  fun p e s m args below meth c H locs ls hC hW hS hl0 => lv_pop hC.1 hC.2.1 hdg (by rw [cat_conc]; exact hv) (k p e s m args below meth c H locs ls hC hW hS hl0)
theorem r_dup2 {v w : Value} (hdg : decode M.2.1 pc = .ok (.dup2, 1)) (hv : v.category = 1) (hw : w.category = 1) (k : Ev X M d ct cs T (pc + 1) lo (v :: w :: v :: w :: st) sh I L) : Ev X M d ct cs T pc lo (v :: w :: st) sh I L :=
  fun p e s m args below meth c H locs ls hC hW hS hl0 => lv_dup2_11 hC.1 hC.2.1 hdg (by rw [cat_conc]; exact hv) (by rw [cat_conc]; exact hw) (k p e s m args below meth c H locs ls hC hW hS hl0)
theorem r_goto {off : Int} {tgt : Nat} (hdg : decode M.2.1 pc = .ok (.goto off, 3)) (ht : (pc : Int) + off = (tgt : Int)) (k : Ev X M d ct cs T tgt lo st sh I L) : Ev X M d ct cs T pc lo st sh I L :=
  fun p e s m args below meth c H locs ls hC hW hS hl0 => lv_goto hC.1 hC.2.1 hdg ht (k p e s m args below meth c H locs ls hC hW hS hl0)
theorem r_if_eq {x : Int32} {off : Int} {tgt : Nat} (hdg : decode M.2.1 pc = .ok (.ifCond .eq off, 3)) (ht : (pc : Int) + off = (tgt : Int)) (kt : x = 0 → Ev X M d ct cs T tgt lo st sh I L) (kf : ¬ x = 0 → Ev X M d ct cs T (pc + 3) lo st sh I L) : Ev X M d ct cs T pc lo (.int x :: st) sh I L :=
  fun p e s m args below meth c H locs ls hC hW hS hl => lv_if_eq hC.1 hC.2.1 hdg ht (fun q => kt q p e s m args below meth c H locs ls hC hW hS hl) (fun q => kf q p e s m args below meth c H locs ls hC hW hS hl)
theorem r_icmp_eq {x y : Int32} {off : Int} {tgt : Nat} (hdg : decode M.2.1 pc = .ok (.if_icmp .eq off, 3)) (ht : (pc : Int) + off = (tgt : Int)) (kt : x = y → Ev X M d ct cs T tgt lo st sh I L) (kf : ¬ x = y → Ev X M d ct cs T (pc + 3) lo st sh I L) : Ev X M d ct cs T pc lo (.int y :: .int x :: st) sh I L :=
  fun p e s m args below meth c H locs ls hC hW hS hl => lv_icmp_eq hC.1 hC.2.1 hdg ht (fun q => kt q p e s m args below meth c H locs ls hC hW hS hl) (fun q => kf q p e s m args below meth c H locs ls hC hW hS hl)
theorem r_if_ne {x : Int32} {off : Int} {tgt : Nat} (hdg : decode M.2.1 pc = .ok (.ifCond .ne off, 3)) (ht : (pc : Int) + off = (tgt : Int)) (kt : ¬ x = 0 → Ev X M d ct cs T tgt lo st sh I L) (kf : x = 0 → Ev X M d ct cs T (pc + 3) lo st sh I L) : Ev X M d ct cs T pc lo (.int x :: st) sh I L :=
  fun p e s m args below meth c H locs ls hC hW hS hl => lv_if_ne hC.1 hC.2.1 hdg ht (fun q => kt q p e s m args below meth c H locs ls hC hW hS hl) (fun q => kf q p e s m args below meth c H locs ls hC hW hS hl)
theorem r_icmp_ne {x y : Int32} {off : Int} {tgt : Nat} (hdg : decode M.2.1 pc = .ok (.if_icmp .ne off, 3)) (ht : (pc : Int) + off = (tgt : Int)) (kt : ¬ x = y → Ev X M d ct cs T tgt lo st sh I L) (kf : x = y → Ev X M d ct cs T (pc + 3) lo st sh I L) : Ev X M d ct cs T pc lo (.int y :: .int x :: st) sh I L :=
  fun p e s m args below meth c H locs ls hC hW hS hl => lv_icmp_ne hC.1 hC.2.1 hdg ht (fun q => kt q p e s m args below meth c H locs ls hC hW hS hl) (fun q => kf q p e s m args below meth c H locs ls hC hW hS hl)
theorem r_if_lt {x : Int32} {off : Int} {tgt : Nat} (hdg : decode M.2.1 pc = .ok (.ifCond .lt off, 3)) (ht : (pc : Int) + off = (tgt : Int)) (kt : x < 0 → Ev X M d ct cs T tgt lo st sh I L) (kf : ¬ x < 0 → Ev X M d ct cs T (pc + 3) lo st sh I L) : Ev X M d ct cs T pc lo (.int x :: st) sh I L :=
  fun p e s m args below meth c H locs ls hC hW hS hl => lv_if_lt hC.1 hC.2.1 hdg ht (fun q => kt q p e s m args below meth c H locs ls hC hW hS hl) (fun q => kf q p e s m args below meth c H locs ls hC hW hS hl)
theorem r_icmp_lt {x y : Int32} {off : Int} {tgt : Nat} (hdg : decode M.2.1 pc = .ok (.if_icmp .lt off, 3)) (ht : (pc : Int) + off = (tgt : Int)) (kt : x < y → Ev X M d ct cs T tgt lo st sh I L) (kf : ¬ x < y → Ev X M d ct cs T (pc + 3) lo st sh I L) : Ev X M d ct cs T pc lo (.int y :: .int x :: st) sh I L :=
  fun p e s m args below meth c H locs ls hC hW hS hl => lv_icmp_lt hC.1 hC.2.1 hdg ht (fun q => kt q p e s m args below meth c H locs ls hC hW hS hl) (fun q => kf q p e s m args below meth c H locs ls hC hW hS hl)
theorem r_if_ge {x : Int32} {off : Int} {tgt : Nat} (hdg : decode M.2.1 pc = .ok (.ifCond .ge off, 3)) (ht : (pc : Int) + off = (tgt : Int)) (kt : 0 ≤ x → Ev X M d ct cs T tgt lo st sh I L) (kf : ¬ 0 ≤ x → Ev X M d ct cs T (pc + 3) lo st sh I L) : Ev X M d ct cs T pc lo (.int x :: st) sh I L :=
  fun p e s m args below meth c H locs ls hC hW hS hl => lv_if_ge hC.1 hC.2.1 hdg ht (fun q => kt q p e s m args below meth c H locs ls hC hW hS hl) (fun q => kf q p e s m args below meth c H locs ls hC hW hS hl)
theorem r_icmp_ge {x y : Int32} {off : Int} {tgt : Nat} (hdg : decode M.2.1 pc = .ok (.if_icmp .ge off, 3)) (ht : (pc : Int) + off = (tgt : Int)) (kt : y ≤ x → Ev X M d ct cs T tgt lo st sh I L) (kf : ¬ y ≤ x → Ev X M d ct cs T (pc + 3) lo st sh I L) : Ev X M d ct cs T pc lo (.int y :: .int x :: st) sh I L :=
  fun p e s m args below meth c H locs ls hC hW hS hl => lv_icmp_ge hC.1 hC.2.1 hdg ht (fun q => kt q p e s m args below meth c H locs ls hC hW hS hl) (fun q => kf q p e s m args below meth c H locs ls hC hW hS hl)
theorem r_if_gt {x : Int32} {off : Int} {tgt : Nat} (hdg : decode M.2.1 pc = .ok (.ifCond .gt off, 3)) (ht : (pc : Int) + off = (tgt : Int)) (kt : 0 < x → Ev X M d ct cs T tgt lo st sh I L) (kf : ¬ 0 < x → Ev X M d ct cs T (pc + 3) lo st sh I L) : Ev X M d ct cs T pc lo (.int x :: st) sh I L :=
  fun p e s m args below meth c H locs ls hC hW hS hl => lv_if_gt hC.1 hC.2.1 hdg ht (fun q => kt q p e s m args below meth c H locs ls hC hW hS hl) (fun q => kf q p e s m args below meth c H locs ls hC hW hS hl)
theorem r_icmp_gt {x y : Int32} {off : Int} {tgt : Nat} (hdg : decode M.2.1 pc = .ok (.if_icmp .gt off, 3)) (ht : (pc : Int) + off = (tgt : Int)) (kt : y < x → Ev X M d ct cs T tgt lo st sh I L) (kf : ¬ y < x → Ev X M d ct cs T (pc + 3) lo st sh I L) : Ev X M d ct cs T pc lo (.int y :: .int x :: st) sh I L :=
  fun p e s m args below meth c H locs ls hC hW hS hl => lv_icmp_gt hC.1 hC.2.1 hdg ht (fun q => kt q p e s m args below meth c H locs ls hC hW hS hl) (fun q => kf q p e s m args below meth c H locs ls hC hW hS hl)
theorem r_if_le {x : Int32} {off : Int} {tgt : Nat} (hdg : decode M.2.1 pc = .ok (.ifCond .le off, 3)) (ht : (pc : Int) + off = (tgt : Int)) (kt : x ≤ 0 → Ev X M d ct cs T tgt lo st sh I L) (kf : ¬ x ≤ 0 → Ev X M d ct cs T (pc + 3) lo st sh I L) : Ev X M d ct cs T pc lo (.int x :: st) sh I L :=
  fun p e s m args below meth c H locs ls hC hW hS hl => lv_if_le hC.1 hC.2.1 hdg ht (fun q => kt q p e s m args below meth c H locs ls hC hW hS hl) (fun q => kf q p e s m args below meth c H locs ls hC hW hS hl)
theorem r_icmp_le {x y : Int32} {off : Int} {tgt : Nat} (hdg : decode M.2.1 pc = .ok (.if_icmp .le off, 3)) (ht : (pc : Int) + off = (tgt : Int)) (kt : x ≤ y → Ev X M d ct cs T tgt lo st sh I L) (kf : ¬ x ≤ y → Ev X M d ct cs T (pc + 3) lo st sh I L) : Ev X M d ct cs T pc lo (.int y :: .int x :: st) sh I L :=
  fun p e s m args below meth c H locs ls hC hW hS hl => lv_icmp_le hC.1 hC.2.1 hdg ht (fun q => kt q p e s m args below meth c H locs ls hC hW hS hl) (fun q => kf q p e s m args below meth c H locs ls hC hW hS hl)
theorem r_swOut {dflt a b : Int} {offs : Array Int} {len : Nat} {x : Int32} {tgt : Nat} (hdg : decode M.2.1 pc = .ok (.tableswitch dflt a b offs, len)) (h : x.toInt < a ∨ b < x.toInt) (ht : (pc : Int) + dflt = (tgt : Int)) (k : Ev X M d ct cs T tgt lo st sh I L) : Ev X M d ct cs T pc lo (.int x :: st) sh I L :=
  fun p e s m args below meth c H locs ls hC hW hS hl0 => lv_tableOut hC.1 hC.2.1 hdg h ht (k p e s m args below meth c H locs ls hC hW hS hl0)
theorem r_swIn {dflt a b : Int} {offs : Array Int} {len : Nat} {x : Int32} {off : Int} {tgt : Nat} (hdg : decode M.2.1 pc = .ok (.tableswitch dflt a b offs, len)) (h1 : ¬ x.toInt < a) (h2 : ¬ b < x.toInt) (ho : offs[(x.toInt - a).toNat]? = some off) (ht : (pc : Int) + off = (tgt : Int)) (k : Ev X M d ct cs T tgt lo st sh I L) : Ev X M d ct cs T pc lo (.int x :: st) sh I L :=
  fun p e s m args below meth c H locs ls hC hW hS hl0 => lv_tableIn hC.1 hC.2.1 hdg h1 h2 ho ht (k p e s m args below meth c H locs ls hC hW hS hl0)
theorem r_ldc2 {idx : Nat} {v : Int64} (hdg : decode M.2.1 pc = .ok (.ldc2_w idx, 3)) (hw : Cond.constantLong M.1.cls idx v ∈ gw) (k : Ev X M d ct cs T (pc + 3) lo (.long v :: st) sh I L) : Ev X M d ct cs T pc lo st sh I L :=
  fun p e s m args below meth c H locs ls hC hW hS hl0 => lv_ldc2 hC.1 hC.2.1 hC.2.2.2.1 (hC.2.2.2.2.2.2.2.1 _ hw) hdg (k p e s m args below meth c H locs ls hC hW hS hl0)
theorem r_ldcw {idx : Nat} {v : Int32} (hdg : decode M.2.1 pc = .ok (.ldc_w idx, 3)) (hw : Cond.constant M.1.cls idx v ∈ gw) (k : Ev X M d ct cs T (pc + 3) lo (.int v :: st) sh I L) : Ev X M d ct cs T pc lo st sh I L :=
  fun p e s m args below meth c H locs ls hC hW hS hl0 => lv_ldcw hC.1 hC.2.1 hC.2.2.2.1 (hC.2.2.2.2.2.2.2.1 _ hw) hdg (k p e s m args below meth c H locs ls hC hW hS hl0)
def u2 (I : MI) (c j : Nat) (x : Int32) : MI := fun c' => if c' = c then upd (I c) j x else I c'
def v2 (L : ML) (c j : Nat) (x : Int64) : ML := fun c' => if c' = c then vp_updL (L c) j x else L c'
theorem u2_off {I : MI} {c j c' : Nat} {x : Int32} (h : c' ≠ c) : u2 I c j x c' = I c' := if_neg h
theorem u2_on {I : MI} {c j : Nat} {x : Int32} : u2 I c j x c = upd (I c) j x := if_pos rfl
theorem v2_off {I : ML} {c j c' : Nat} {x : Int64} (h : c' ≠ c) : v2 I c j x c' = I c' := if_neg h
theorem v2_on {I : ML} {c j : Nat} {x : Int64} : v2 I c j x c = vp_updL (I c) j x := if_pos rfl
theorem WD.put {sh sh' : List SH} {I I' : MI} {L L' : ML} {H0 : Heap} {ws : va_W} (h : H0.size = X.2.1 + sh.length) (hP : va_P (X.2.2.1, X.2.2.2.1) cls8 ws H0) (hl : sh'.length = sh.length) (he : ws = wsM X sh' I' L') : WD X sh' I' L' H0 := by
  subst he
  exact ⟨by rw [h, hl], hP⟩
theorem r_iald {a n : Nat} {i : Int32} {j : Nat} (hdg : decode M.2.1 pc = .ok (.iaload, 1)) (hs : sh[a]? = some (100, [n])) (hi : i = nI j) (hj : j < n) (hn : n < 2 ^ 31) (k : Ev X M d ct cs T (pc + 1) lo (.int (I a j) :: st) sh I L) : Ev X M d ct cs T pc lo (.int i :: .ref a :: st) sh I L :=
  fun p e s m args below meth c H locs ls hC hW hS hl => by
    subst hi
    refine va_iald hC.1 hC.2.1 hC.2.2.2.2.2.2.2.2.1.1 hW.2 a 0 (wsM_get hs) rfl (vp_in_nI hj hn) hdg ?_
    rw [nI_clamp (by omega)]
    exact k p e s m args below meth c H locs ls hC hW hS hl
theorem r_lald {a n : Nat} {i : Int32} {j : Nat} (hdg : decode M.2.1 pc = .ok (.laload, 1)) (hs : sh[a]? = some (101, [n])) (hi : i = nI j) (hj : j < n) (hn : n < 2 ^ 31) (k : Ev X M d ct cs T (pc + 1) lo (.long (L a j) :: st) sh I L) : Ev X M d ct cs T pc lo (.int i :: .ref a :: st) sh I L :=
  fun p e s m args below meth c H locs ls hC hW hS hl => by
    subst hi
    refine va_lald hC.1 hC.2.1 hC.2.2.2.2.2.2.2.2.1.1 hW.2 a 1 (wsM_get hs) rfl (vp_in_nI hj hn) hdg ?_
    rw [nI_clamp (by omega)]
    exact k p e s m args below meth c H locs ls hC hW hS hl
theorem r_zald {a n : Nat} {i : Int32} {j : Nat} (hdg : decode M.2.1 pc = .ok (.baload, 1)) (hs : sh[a]? = some (102, [n])) (hi : i = nI j) (hj : j < n) (hn : n < 2 ^ 31) (k : Ev X M d ct cs T (pc + 1) lo (.int (I a j) :: st) sh I L) : Ev X M d ct cs T pc lo (.int i :: .ref a :: st) sh I L :=
  fun p e s m args below meth c H locs ls hC hW hS hl => by
    subst hi
    refine va_zald hC.1 hC.2.1 hC.2.2.2.2.2.2.2.2.1.1 hW.2 a 2 (wsM_get hs) rfl (vp_in_nI hj hn) hdg ?_
    rw [nI_clamp (by omega)]
    exact k p e s m args below meth c H locs ls hC hW hS hl
theorem r_alen {a t n : Nat} (hdg : decode M.2.1 pc = .ok (.arraylength, 1)) (hs : sh[a]? = some (t, [n])) (ht : t = 100 ∨ t = 101 ∨ t = 102) (k : Ev X M d ct cs T (pc + 1) lo (.int (nI n) :: st) sh I L) : Ev X M d ct cs T pc lo (.ref a :: st) sh I L :=
  fun p e s m args below meth c H locs ls hC hW hS hl => by
    rcases ht with rfl | rfl | rfl
    · exact va_alen hC.1 hC.2.1 hC.2.2.2.2.2.2.2.2.1.1 hW.2 a 0 (wsM_get hs) (ty := .int) rfl rfl hdg (k p e s m args below meth c H locs ls hC hW hS hl)
    · exact va_alen hC.1 hC.2.1 hC.2.2.2.2.2.2.2.2.1.1 hW.2 a 1 (wsM_get hs) (ty := .long) rfl rfl hdg (k p e s m args below meth c H locs ls hC hW hS hl)
    · exact va_alen hC.1 hC.2.1 hC.2.2.2.2.2.2.2.2.1.1 hW.2 a 2 (wsM_get hs) (ty := .boolean) rfl rfl hdg (k p e s m args below meth c H locs ls hC hW hS hl)
theorem upd_arr (f : Nat → Int32) (j : Nat) (x : Int32) : (fun q => Value.int (upd f j x q)) = updV (fun q => Value.int (f q)) j (.int x) := by
  funext q
  by_cases hq : q = j
  · subst hq; simp [updV, upd]
  · simp [updV, upd, hq]
theorem updL_arr (f : Nat → Int64) (j : Nat) (x : Int64) : (fun q => Value.long (vp_updL f j x q)) = updV (fun q => Value.long (f q)) j (.long x) := by
  funext q
  by_cases hq : q = j
  · subst hq; simp [updV, vp_updL]
  · simp [updV, vp_updL, hq]
theorem r_iast {a n : Nat} {i x : Int32} {j : Nat} (hdg : decode M.2.1 pc = .ok (.iastore, 1)) (hs : sh[a]? = some (100, [n])) (hi : i = nI j) (hj : j < n) (hn : n < 2 ^ 31) (k : Ev X M d ct cs T (pc + 1) lo st sh (u2 I a j x) L) : Ev X M d ct cs T pc lo (.int x :: .int i :: .ref a :: st) sh I L :=
  fun p e s m args below meth c H locs ls hC hW hS hl => by
    subst hi
    have hin := vp_in_nI hj hn
    have hg := wsM_get (X := X) (I := I) (L := L) hs
    refine W.iast hC.1 hC.2.1 (hW.2 a _ hg) ((hC.2.2.2.2.2.2.2.2.1.1.2 0 _ rfl).1 n (fun q => .int (I a q))) (fun q => by cases q) (by show ¬ (nI j < 0 ∨ (arrV _ _ _).slots.size ≤ _); rw [arrV_size]; exact hin) rfl rfl hdg fun H1 ec z oq => ?_
    have he : (wsM X sh I L).set a (X.2.1 + a, Sum.inl (X.2.2.2.2.1, n, Sum.inl (upd (I a) j x))) = wsM X sh (u2 I a j x) L := wsM_set (s := (100, [n])) _ hs rfl (fun _ _ => rfl) (fun _ h => u2_off h) (fun _ _ => rfl) (by rw [u2_on]; rfl)
    refine k p e s m args below meth c H1 _ ls hC ⟨by rw [z]; exact hW.1, he ▸ hW.2.set (wsM_D X sh I L) hg ?_ oq⟩ (hS.put z oq (Nat.le_add_right _ _)) hl
    show H1[X.2.1 + a]? = some (vp_cell _ _)
    rw [ec, nI_clamp (by omega)]
    show some ((arrV X.2.2.2.2.1 n (fun q => Value.int (I a q))).setSlot j (.int x)) = some (arrV X.2.2.2.2.1 n (fun q => Value.int (upd (I a) j x q)))
    rw [arrV_store, upd_arr]
theorem r_last {a n : Nat} {i : Int32} {x : Int64} {j : Nat} (hdg : decode M.2.1 pc = .ok (.lastore, 1)) (hs : sh[a]? = some (101, [n])) (hi : i = nI j) (hj : j < n) (hn : n < 2 ^ 31) (k : Ev X M d ct cs T (pc + 1) lo st sh I (v2 L a j x)) : Ev X M d ct cs T pc lo (.long x :: .int i :: .ref a :: st) sh I L :=
  fun p e s m args below meth c H locs ls hC hW hS hl => by
    subst hi
    have hin := vp_in_nI hj hn
    have hg := wsM_get (X := X) (I := I) (L := L) hs
    refine W.last hC.1 hC.2.1 (hW.2 a _ hg) ((hC.2.2.2.2.2.2.2.2.1.1.2 1 _ rfl).1 n (fun q => .long (L a q))) (fun q => by cases q) (by show ¬ (nI j < 0 ∨ (arrV _ _ _).slots.size ≤ _); rw [arrV_size]; exact hin) rfl rfl hdg fun H1 ec z oq => ?_
    have he : (wsM X sh I L).set a (X.2.1 + a, Sum.inl (X.2.2.2.2.2.1, n, Sum.inr (Sum.inl (vp_updL (L a) j x)))) = wsM X sh I (v2 L a j x) := wsM_set (s := (101, [n])) _ hs rfl (fun _ _ => rfl) (fun _ _ => rfl) (fun _ h => v2_off h) (by rw [v2_on]; rfl)
    refine k p e s m args below meth c H1 _ ls hC ⟨by rw [z]; exact hW.1, he ▸ hW.2.set (wsM_D X sh I L) hg ?_ oq⟩ (hS.put z oq (Nat.le_add_right _ _)) hl
    show H1[X.2.1 + a]? = some (vp_cell _ _)
    rw [ec, nI_clamp (by omega)]
    show some ((arrV X.2.2.2.2.2.1 n (fun q => Value.long (L a q))).setSlot j (.long x)) = some (arrV X.2.2.2.2.2.1 n (fun q => Value.long (vp_updL (L a) j x q)))
    rw [arrV_store, updL_arr]
theorem r_zast {a n : Nat} {i x : Int32} {j : Nat} (hdg : decode M.2.1 pc = .ok (.bastore, 1)) (hs : sh[a]? = some (102, [n])) (hi : i = nI j) (hj : j < n) (hn : n < 2 ^ 31) (hx : narrow .boolean (.int x) = .int x) (k : Ev X M d ct cs T (pc + 1) lo st sh (u2 I a j x) L) : Ev X M d ct cs T pc lo (.int x :: .int i :: .ref a :: st) sh I L :=
  fun p e s m args below meth c H locs ls hC hW hS hl => by
    subst hi
    have hin := vp_in_nI hj hn
    have hg := wsM_get (X := X) (I := I) (L := L) hs
    refine W.zast hC.1 hC.2.1 (hW.2 a _ hg) ((hC.2.2.2.2.2.2.2.2.1.1.2 2 _ rfl).1 n (fun q => .int (I a q))) (fun q => by cases q) (by show ¬ (nI j < 0 ∨ (arrV _ _ _).slots.size ≤ _); rw [arrV_size]; exact hin) rfl rfl hdg fun H1 ec z oq => ?_
    have he : (wsM X sh I L).set a (X.2.1 + a, Sum.inl (X.2.2.2.2.2.2, n, Sum.inl (upd (I a) j x))) = wsM X sh (u2 I a j x) L := wsM_set (s := (102, [n])) _ hs rfl (fun _ _ => rfl) (fun _ h => u2_off h) (fun _ _ => rfl) (by rw [u2_on]; rfl)
    refine k p e s m args below meth c H1 _ ls hC ⟨by rw [z]; exact hW.1, he ▸ hW.2.set (wsM_D X sh I L) hg ?_ oq⟩ (hS.put z oq (Nat.le_add_right _ _)) hl
    show H1[X.2.1 + a]? = some (vp_cell _ _)
    rw [ec, nI_clamp (by omega), hx]
    show some ((arrV X.2.2.2.2.2.2 n (fun q => Value.int (I a q))).setSlot j (.int x)) = some (arrV X.2.2.2.2.2.2 n (fun q => Value.int (upd (I a) j x q)))
    rw [arrV_store, upd_arr]
/-! fields -/
def CLK (ci : Nat) : Prop := ∃ (q : vw_C) (ty : Nat → FieldType), cls8[ci]? = some q ∧ (∀ w ∈ u_ws q.1 q.2.1 q.2.2, w ∈ gw) ∧ (∀ k, k < q.2.2 → parseFieldDescriptor (q.2.1 k).2.2.1 = some (ty k)) ∧ (∀ a, a < q.2.2 → ∀ b, b < q.2.2 → a ≠ b → (q.2.1 a).2.1 ≠ (q.2.1 b).2.1)
def FLK (own : String) (idx ci k : Nat) : Prop := CLK ci ∧ ci < 100 ∧ ∀ q : vw_C, cls8[ci]? = some q → k < q.2.2 ∧ (Cond.fieldLink own idx (q.2.1 k).1 (q.2.1 k).2.1 (q.2.1 k).2.2.1 ∈ gw ∨ ∃ host, Cond.fieldLinkNest own idx (q.2.1 k).1 (q.2.1 k).2.1 (q.2.1 k).2.2.1 host ∈ nestWs)
theorem get_core {a idx ci j : Nat} {r : List Nat} {v : Value} (hdg : decode M.2.1 pc = .ok (.getfield idx, 3)) (hf : FLK M.1.cls idx ci j) (hs : sh[a]? = some (ci, r)) (hv : (r.mapIdx fun k r => fieldV X r (I a k))[j]? = some (conc X v))
    (k : Ev X M d ct cs T (pc + 3) lo (v :: st) sh I L) : Ev X M d ct cs T pc lo (.ref a :: st) sh I L :=
  fun p e s m args below meth c H locs ls hC hW hS hl => by
    obtain ⟨⟨q, ty, hq, hin, hty, hnm⟩, h100, hf⟩ := hf
    obtain ⟨hk, hlk⟩ := hf q hq
    have hg := wsM_get (X := X) (I := I) (L := L) hs
    rw [cell_o h100] at hg
    rcases hlk with hlk | ⟨host, hlk⟩
    · exact va_get hC.1 hC.2.1 hC.2.2.2.2.2.2.2.1 hin hC.2.2.2.1 hC.2.2.2.2.2.2.2.2.1.1 hW.2 a hg hq j hk (hC.2.2.2.2.2.2.2.1 _ hlk) (fun _ h => h) hv hdg (k p e s m args below meth c H locs ls hC hW hS hl)
    · exact va_getN hC.1 hC.2.1 hC.2.2.2.2.2.2.2.1 hin hC.2.2.2.1 hC.2.2.2.2.2.2.2.2.1.1 hW.2 a hg hq j hk (va_Nw.use rfl (hC.2.2.2.2.2.2.2.2.1.2 _ hlk)) (fun _ h => h) hv hdg (k p e s m args below meth c H locs ls hC hW hS hl)
theorem r_get {a idx ci j : Nat} {r : List Nat} (hdg : decode M.2.1 pc = .ok (.getfield idx, 3)) (hf : FLK M.1.cls idx ci j) (hs : sh[a]? = some (ci, r)) (hr : r[j]? = some 0) (k : Ev X M d ct cs T (pc + 3) lo (.int (I a j) :: st) sh I L) : Ev X M d ct cs T pc lo (.ref a :: st) sh I L :=
  get_core (v := .int (I a j)) hdg hf hs (by simp [List.getElem?_mapIdx, hr, fieldV, conc]) k
theorem r_getR {a b idx ci j : Nat} {r : List Nat} (hdg : decode M.2.1 pc = .ok (.getfield idx, 3)) (hf : FLK M.1.cls idx ci j) (hs : sh[a]? = some (ci, r)) (hr : r[j]? = some (b + 2)) (k : Ev X M d ct cs T (pc + 3) lo (.ref b :: st) sh I L) : Ev X M d ct cs T pc lo (.ref a :: st) sh I L :=
  get_core (v := .ref b) hdg hf hs (by simp [List.getElem?_mapIdx, hr, fieldV, conc]) k
theorem r_put {a idx ci j : Nat} {x : Int32} {r : List Nat} (ty : FieldType) (hdg : decode M.2.1 pc = .ok (.putfield idx, 3)) (hf : FLK M.1.cls idx ci j) (hs : sh[a]? = some (ci, r)) (hr : r[j]? = some 0)
    (hcl : ∀ q : vw_C, cls8[ci]? = some q → (q.2.1 j).2.2.2 = false ∧ parseFieldDescriptor (q.2.1 j).2.2.1 = some ty) (hnr : narrow ty (.int x) = .int x) (hft : fits ty (.int x) = true) (k : Ev X M d ct cs T (pc + 3) lo st sh (u2 I a j x) L) : Ev X M d ct cs T pc lo (.int x :: .ref a :: st) sh I L :=
  fun p e s m args below meth c H locs ls hC hW hS hl => by
    obtain ⟨⟨q, tys, hq, hin, hty, hnm⟩, h100, hf⟩ := hf
    obtain ⟨hk, hlk⟩ := hf q hq
    obtain ⟨hfin, hd⟩ := hcl q hq
    obtain ⟨C0, T0, N0⟩ := q
    have hg := wsM_get (X := X) (I := I) (L := L) hs
    rw [cell_o h100] at hg
    have hK := hC.2.2.2.2.2.2.2.2.1.1
    have hts := hC.2.2.2.2.2.2.2.1
    have hown := hC.2.2.2.1
    have hap := va_apart (own := M.1.cls) hts hin tys hty hnm hK hq
    obtain ⟨rr, h1, cell, q1, q2, q3, q4⟩ := hW.2 a _ hg
    have hrr : rr = (C0, T0, N0) := Option.some.inj (h1.symm.trans hq)
    subst hrr
    obtain ⟨hSl, hfc, kC, hkC, hkind⟩ := hK.1 ci _ hq
    obtain ⟨cf, kf, fi, f, hi, hsl⟩ := hSl j hk
    have hlay := hts _ (hin _ (u_in_lay hk))
    unfold u_lay at hlay
    rw [if_neg (by rw [hfin]; decide)] at hlay
    have hst := (u_facts hfc hkC (u_lays hts hin hk) hi).1
    have h6 := u_store hfc hkC hkind hlay hi hd hnr hft
    have he : (wsM X sh I L).set a (X.2.1 + a, Sum.inr (ci, (r.mapIdx fun k r => fieldV X r (I a k)).set j (.int x))) = wsM X sh (u2 I a j x) L := by
      refine wsM_set (s := (ci, r)) _ hs rfl (fun _ _ => rfl) (fun _ h => u2_off h) (fun _ _ => rfl) ?_
      rw [cell_o h100, u2_on]
      congr 2
      apply List.ext_getElem?
      intro z
      rw [List.getElem?_set]
      by_cases hz : j = z
      · subst hz
        have hlt : j < r.length := (List.getElem?_eq_some_iff.mp hr).1
        rw [if_pos rfl, if_pos (by simpa using hlt)]
        simp only [List.getElem?_mapIdx, hr, Option.map_some, fieldV, upd, if_true]
      · rw [if_neg hz]
        simp only [List.getElem?_mapIdx, upd, if_neg (fun e : z = j => hz e.symm)]
    have hlt : j < (r.mapIdx fun k r => fieldV X r (I a k)).length := by simpa using (List.getElem?_eq_some_iff.mp hr).1
    have fin : ∀ H1 : Heap, H1[X.2.1 + a]? = some (cell.setSlot f.slot (.int x)) → H1.size = H.size → (∀ q : Nat, q ≠ X.2.1 + a → H1[q]? = H[q]?) → W p X.1 e (rmX d ct) s m args below meth c H1 (locs ++ [⟨X.2.1 + a, f.slot⟩]) cs.1 cs.2 (MQ below (QX X T) args s ct.1 ct.2 (AX X)) (F0 m (pc + 3) ls (st.map (conc X))) := by
      intro H1 e1 e2 e3
      rw [hsl] at e1
      exact k p e s m args below meth c H1 _ ls hC ⟨by rw [e2]; exact hW.1, he ▸ hW.2.set (wsM_D X sh I L) hg ⟨_, hq, t_OB.to (V := updV (vp_V (r.mapIdx fun k r => fieldV X r (I a k))) j (.int x)) ⟨_, e1, q2, q3, t_set q4 hap hk (.int x)⟩ (fun z _ => vp_updV_set hlt (.int x) z)⟩ e3⟩ (hS.put e2 e3 (Nat.le_add_right _ _)) hl
    rcases hlk with hlk | ⟨host, hlk⟩
    · exact W.putK hC.1 hC.2.1 (f := f) ⟨hown, hts _ hlk, ⟨_, _, _, hi⟩, hst⟩ (by rw [q2]; exact h6) q1 q3 (by rw [hsl]; exact k2_hasslot (q4 j hk)) rfl rfl hdg fin
    · exact va_WputK hC.1 hC.2.1 hown (va_Nw.use rfl (hC.2.2.2.2.2.2.2.2.1.2 _ hlk)) hi hst (by rw [q2]; exact h6) q1 q3 (by rw [hsl]; exact k2_hasslot (q4 j hk)) rfl rfl hdg fin
/-- a final field of a reference, in its constructor -/
theorem r_putR {a b idx ci j : Nat} {r : List Nat} (ty : FieldType) {sh1 : List SH} (hdg : decode M.2.1 pc = .ok (.putfield idx, 3)) (hf : FLK M.1.cls idx ci j) (hs : sh[a]? = some (ci, r)) (hr : j < r.length) (hnest : ∀ q : vw_C, cls8[ci]? = some q → Cond.fieldLink M.1.cls idx (q.2.1 j).1 (q.2.1 j).2.1 (q.2.1 j).2.2.1 ∈ gw)
    (hcl : ∀ q : vw_C, cls8[ci]? = some q → (q.2.1 j).2.2.2 = true ∧ (q.2.1 j).1 = M.1.cls ∧ parseFieldDescriptor (q.2.1 j).2.2.1 = some ty) (hini : M.1.name = "<init>") (hnr : ∀ z, narrow ty (.ref z) = .ref z) (hft : ∀ z, fits ty (.ref z) = true) (hsh : sh.set a (ci, r.set j (b + 2)) = sh1)
    (k : Ev X M d ct cs T (pc + 3) lo st sh1 I L) : Ev X M d ct cs T pc lo (.ref b :: .ref a :: st) sh I L :=
  fun p e s m args below meth c H locs ls hC hW hS hl => by
    subst hsh
    obtain ⟨⟨q, tys, hq, hin, hty, hnm⟩, h100, hf⟩ := hf
    obtain ⟨hk, -⟩ := hf q hq
    have hlk := hnest q hq
    obtain ⟨hfin, hdecl, hd⟩ := hcl q hq
    obtain ⟨C0, T0, N0⟩ := q
    have hg := wsM_get (X := X) (I := I) (L := L) hs
    rw [cell_o h100] at hg
    have hK := hC.2.2.2.2.2.2.2.2.1.1
    have hts := hC.2.2.2.2.2.2.2.1
    have hown := hC.2.2.2.1
    have hap := va_apart (own := M.1.cls) hts hin tys hty hnm hK hq
    obtain ⟨rr, h1, cell, q1, q2, q3, q4⟩ := hW.2 a _ hg
    have hrr : rr = (C0, T0, N0) := Option.some.inj (h1.symm.trans hq)
    subst hrr
    obtain ⟨hSl, hfc, kC, hkC, hkind⟩ := hK.1 ci _ hq
    obtain ⟨cf, kf, fi, f, hi, hsl⟩ := hSl j hk
    have hlay := hts _ (hin _ (u_in_lay hk))
    unfold u_lay at hlay
    rw [if_pos hfin] at hlay
    have hst := (u_facts hfc hkC (u_lays hts hin hk) hi).1
    have hcf : m.cls = cf := by
      obtain ⟨_, _, c', _, _, _, -, -, hf', -, -, -, hown2, -⟩ := Cond.laysFinal_spec hlay
      have e1 : c' = cf := by have := hi.symm.trans hf'; simp at this; exact this.1.symm
      rw [hdecl] at hown2
      rw [← e1]; exact Option.some.inj (hown.symm.trans hown2)
    have h6 := u_fits (v := .ref (X.2.1 + b)) hfc hkC hkind (Or.inr hlay) hi hd (hnr _) (hft _)
    have hlta : a < sh.length := (List.getElem?_eq_some_iff.mp hs).1
    have he : (wsM X sh I L).set a (X.2.1 + a, Sum.inr (ci, (r.mapIdx fun k r => fieldV X r (I a k)).set j (.ref (X.2.1 + b)))) = wsM X (sh.set a (ci, r.set j (b + 2))) I L := by
      refine wsM_set (s := (ci, r.set j (b + 2))) _ (by simp [hlta]) (by simp) (fun z hz => by rw [List.getElem?_set, if_neg (fun q => hz q.symm)]) (fun _ _ => rfl) (fun _ _ => rfl) ?_
      rw [cell_o h100]
      congr 2
      apply List.ext_getElem?
      intro z
      rw [List.getElem?_set]
      by_cases hz : j = z
      · subst hz
        simp [hr, List.getElem?_mapIdx, fieldV]
      · simp [hz, List.getElem?_mapIdx, List.getElem?_set]
    have hlt : j < (r.mapIdx fun k r => fieldV X r (I a k)).length := by simpa using hr
    refine W.putFinK hC.1 hC.2.1 hown (hts _ hlk) hi hst hcf (by rw [hC.2.2.2.2.2.2.1]; exact hini) (by rw [q2]; exact h6) q1 q3 (by rw [hsl]; exact k2_hasslot (q4 j hk)) rfl rfl hdg fun H1 e1 e2 e3 => ?_
    rw [hsl] at e1
    exact k p e s m args below meth c H1 _ ls hC ⟨by rw [e2, List.length_set]; exact hW.1, he ▸ hW.2.set (wsM_D X sh I L) hg ⟨_, hq, t_OB.to (V := updV (vp_V (r.mapIdx fun k r => fieldV X r (I a k))) j (.ref (X.2.1 + b))) ⟨_, e1, q2, q3, t_set q4 hap hk _⟩ (fun z _ => vp_updV_set hlt _ z)⟩ e3⟩ (hS.put e2 e3 (Nat.le_add_right _ _)) hl
/-! new objects and arrays: their contents are 0 already -/
theorem r_new {idx ci N : Nat} {C : String} {r : List Nat} {sh1 : List SH} (hdg : decode M.2.1 pc = .ok (.new idx, 3)) (hc : CLK ci) (h100 : ci < 100) (hq : (cls8[ci]?).map (fun q => (q.1, q.2.2)) = some (C, N)) (h1 : Cond.classLink M.1.cls idx C ∈ gw) (h2 : Cond.instantiable C N ∈ gw) (h3 : Cond.initialized C ∈ gw)
    (hr : r.length = N) (hd : ∀ (q : vw_C), cls8[ci]? = some q → ∀ (k : Nat) (ty : FieldType), k < N → parseFieldDescriptor (q.2.1 k).2.2.1 = some ty → some (defaultValue ty) = (r[k]?).map (fun z => fieldV X z 0)) (hI : I sh.length = fun _ => 0) (hcc : cs.1 + 1 ≤ ct.1) (hcs : cs.2 + N ≤ ct.2) (hsh : sh ++ [(ci, r)] = sh1)
    (k : Ev X M d ct (cs.1 + 1, cs.2 + N) T (pc + 3) lo (.ref sh.length :: st) sh1 I L) : Ev X M d ct cs T pc lo st sh I L :=
  fun p e s m args below meth c H locs ls hC hW hS hl => by
    subst hsh
    obtain ⟨⟨C0, T0, N0⟩, tys, hq0, hin, hty, hnm⟩ := hc
    rw [hq0] at hq
    simp at hq
    obtain ⟨rfl, rfl⟩ := hq
    have hK := hC.2.2.2.2.2.2.2.2.1.1
    have hts := hC.2.2.2.2.2.2.2.1
    have hKn := hK.1 ci _ hq0
    refine W.newcK hC.1 hC.2.1 hC.2.2.2.1 (hts _ h1) (hts _ h2) (hts _ h3) rfl hdg hcc hcs hKn.2.1 hW.1 fun H1 kC hkC e1 z1 o1 => ?_
    have e0 := wsM_push (X := X) (sh := sh) (I := I) (L := L) (ci, r) (cellE X (ci, r) (I sh.length) (L sh.length)) (I' := I) (L' := L) (fun _ _ => rfl) (fun _ _ => rfl) rfl
    rw [cell_o h100] at e0
    refine k p e s m args below meth c H1 _ ls hC ⟨by rw [z1]; simp; omega, e0 ▸ (hW.2.kept (fun kk x hx => o1 x.1 (by rw [← hW.1]; exact (hW.2 kk x hx).lt))).app (fun kk x hx => ?_)⟩ ⟨Nat.le_trans hS.1 (by rw [z1, hW.1]; exact Nat.le_succ _), fun x a1 a2 => (o1 x (by rw [← hW.1]; exact Nat.lt_of_lt_of_le a1 hS.1)).trans (hS.2.1 x a1 a2), hS.2.2⟩ hl
    have hz : kk < 1 := (List.getElem?_eq_some_iff.mp hx).1
    rw [show kk = 0 by omega] at hx
    cases hx
    refine ⟨_, hq0, (u_born tys hts hin hKn hkC e1 hty).to fun z hz => ?_⟩
    have h9 := hd _ hq0 z _ hz (hty z hz)
    cases hrz : r[z]? with
    | none => rw [hrz] at h9; cases h9
    | some w =>
      rw [hrz] at h9
      simp [vp_V, List.getD_eq_getElem?_getD, List.getElem?_mapIdx, hrz, hI]
      simpa using h9
theorem narr_core {at0 : ArrayType} {ty : FieldType} {x : Int32} {n t0 tag : Nat} {cA0 : ClassId} {sh1 : List SH} (hdg : decode M.2.1 pc = .ok (.newarray at0, 2)) (hty : newarray.typeOf at0 = ty) (harr : Cond.arrayClass ty ∈ gw) (ht0 : (tysX X)[t0]? = some (cA0, ty)) (hra : ∀ s : State, va_RA s cA0 ty → s.vm.findClass ("[" ++ ty.toString) = some cA0)
    (hcell : ∀ cA : ClassId, cA = cA0 → some (arrV cA n (fun _ => defaultValue ty)) = (match cellE X (tag, [n]) (fun _ => 0) (L sh.length) with | .inl a => some (vp_cell a.1 a.2) | .inr _ => none))
    (hx : x = nI n) (hn : n < 2 ^ 20) (hb : n * componentBytes ty ≤ 536870912) (hI : I sh.length = fun _ => 0) (hcc : cs.1 + 1 ≤ ct.1) (hcs : cs.2 + n ≤ ct.2) (hsh : sh ++ [(tag, [n])] = sh1)
    (k : Ev X M d ct (cs.1 + 1, cs.2 + n) T (pc + 2) lo (.ref sh.length :: st) sh1 I L) : Ev X M d ct cs T pc lo (.int x :: st) sh I L :=
  fun p e s m args below meth c H locs ls hC hW hS hl => by
    subst hsh; subst hty; subst hx
    have hK := hC.2.2.2.2.2.2.2.2.1.1
    have hts := hC.2.2.2.2.2.2.2.1
    refine va_newaK hC.1 hC.2.1 (hts _ harr) rfl hdg rfl (nI_pos (by omega)) (nI_clamp (by omega)) hb hcc hcs hW.1 fun H1 cA e1 z1 o1 hAr hNm => ?_
    have hcA : cA = cA0 := Option.some.inj (hNm.symm.trans (hra s (hK.2 t0 _ ht0).2))
    have e0 := wsM_push (X := X) (sh := sh) (I := I) (L := L) (tag, [n]) (cellE X (tag, [n]) (I sh.length) (L sh.length)) (I' := I) (L' := L) (fun _ _ => rfl) (fun _ _ => rfl) rfl
    have h9 := hcell cA hcA
    rw [hI] at e0
    refine k p e s m args below meth c H1 _ ls hC ⟨by rw [z1]; simp; omega, e0 ▸ (hW.2.kept (fun kk x hx => o1 x.1 (by rw [← hW.1]; exact (hW.2 kk x hx).lt))).app (fun kk x hx => ?_)⟩ ⟨Nat.le_trans hS.1 (by rw [z1, hW.1]; exact Nat.le_succ _), fun x a1 a2 => (o1 x (by rw [← hW.1]; exact Nat.lt_of_lt_of_le a1 hS.1)).trans (hS.2.1 x a1 a2), hS.2.2⟩ hl
    have hz : kk < 1 := (List.getElem?_eq_some_iff.mp hx).1
    rw [show kk = 0 by omega] at hx
    cases hx
    show va_at _ _ (X.2.1 + sh.length, cellE X (tag, [n]) (fun _ => 0) (L sh.length)) H1
    cases hce : cellE X (tag, [n]) (fun _ => 0) (L sh.length) with
    | inl a => rw [hce] at h9; exact e1.trans h9
    | inr a => rw [hce] at h9; cases h9
theorem r_newI {x : Int32} {n : Nat} {sh1 : List SH} (hdg : decode M.2.1 pc = .ok (.newarray .int, 2)) (harr : Cond.arrayClass .int ∈ gw) (hx : x = nI n) (hn : n < 2 ^ 20) (hI : I sh.length = fun _ => 0) (hcc : cs.1 + 1 ≤ ct.1) (hcs : cs.2 + n ≤ ct.2) (hsh : sh ++ [(100, [n])] = sh1)
    (k : Ev X M d ct (cs.1 + 1, cs.2 + n) T (pc + 2) lo (.ref sh.length :: st) sh1 I L) : Ev X M d ct cs T pc lo (.int x :: st) sh I L :=
  narr_core (ty := .int) (t0 := 0) hdg rfl harr rfl (fun _ h => h) (fun cA h => by subst h; rfl) hx hn (by show n * 4 ≤ 536870912; omega) hI hcc hcs hsh k
theorem r_newZ {x : Int32} {n : Nat} {sh1 : List SH} (hdg : decode M.2.1 pc = .ok (.newarray .boolean, 2)) (harr : Cond.arrayClass .boolean ∈ gw) (hx : x = nI n) (hn : n < 2 ^ 20) (hI : I sh.length = fun _ => 0) (hcc : cs.1 + 1 ≤ ct.1) (hcs : cs.2 + n ≤ ct.2) (hsh : sh ++ [(102, [n])] = sh1)
    (k : Ev X M d ct (cs.1 + 1, cs.2 + n) T (pc + 2) lo (.ref sh.length :: st) sh1 I L) : Ev X M d ct cs T pc lo (.int x :: st) sh I L :=
  narr_core (ty := .boolean) (t0 := 2) hdg rfl harr rfl (fun _ h => h) (fun cA h => by subst h; rfl) hx hn (by show n * 1 ≤ 536870912; omega) hI hcc hcs hsh k
theorem r_newL {x : Int32} {n : Nat} {sh1 : List SH} (hdg : decode M.2.1 pc = .ok (.newarray .long, 2)) (harr : Cond.arrayClass .long ∈ gw) (hx : x = nI n) (hn : n < 2 ^ 20) (hI : I sh.length = fun _ => 0) (hL : L sh.length = fun _ => 0) (hcc : cs.1 + 1 ≤ ct.1) (hcs : cs.2 + n ≤ ct.2) (hsh : sh ++ [(101, [n])] = sh1)
    (k : Ev X M d ct (cs.1 + 1, cs.2 + n) T (pc + 2) lo (.ref sh.length :: st) sh1 I L) : Ev X M d ct cs T pc lo (.int x :: st) sh I L :=
  narr_core (ty := .long) (t0 := 1) hdg rfl harr rfl (fun _ h => h) (fun cA h => by subst h; rw [hL]; rfl) hx hn (by show n * 8 ≤ 536870912; omega) hI hcc hcs hsh k
/-! calls -/
def wsOf (M : MD) : List Cond := .code M.1 M.2.1 M.2.2.1 M.2.2.2 :: gw
theorem call_good {N : MD} {n : Nat} (hok : OKM N n) : GoodIn gw (.code N.1 N.2.1 N.2.2.1 N.2.2.2 :: gw) := fun w h => by
  rcases List.mem_cons.mp h with rfl | h
  · exact ⟨hok.2.1, gw_good _ hok.2.1⟩
  · exact ⟨h, gw_good _ h⟩
theorem call_blind {av : List Value} : FrameBlind (va_Pc (av.map (conc X)) (fun U => WD X sh I L U.heap ∧ KX X U)) := fun a U g mk q => by
  obtain ⟨q0, q1, q2⟩ := q
  exact ⟨q0, q1, KX.same (u := U) (U := U.calling g mk a) rfl q2⟩
theorem run_call {p : Program} {e : Env} {R : Room} {s : State} {m : MethodId} {args a : Array Value} {below : List Frame} {meth : Method} {c : Code} {H : Heap} {locs : List Loc} {ls : Array Slot} {c0 s0 mc ms : Nat} {Q : State → Prop} {st0 : List Value} {v : Option Value} {sh' : List SH} {I' : MI} {L' : ML} {H0 : Heap}
    (hr : va_Run p X.1 e R s m args below meth c H locs c0 s0 mc ms (F0 m pc ls st0) (rest.map (conc X)) (QX X (v, sh', I', L') a) (AX X)) (hS : va_S (AX X) H0 H locs)
    (k : ∀ (H1 : Heap) (locs1 : List Loc), WD X sh' I' L' H1 → va_S (AX X) H0 H1 locs1 → W p X.1 e R s m args below meth c H1 locs1 (c0 + mc) (s0 + ms) Q (F0 m (pc + 3) ls ((v.toList ++ rest).map (conc X)))) : W p X.1 e R s m args below meth c H locs c0 s0 Q (F0 m pc ls st0) := by
  intro T0 hT XX
  obtain ⟨v0, st₀, t, T', L0, h0, X', hL, e1, e2, ⟨hv, hWD, hz, hk⟩, stp⟩ := hr T0 hT XX
  cases hv
  rw [h0] at hz hk
  obtain ⟨t2, a1, b1⟩ := k T'.heap (locs ++ L0) (by rw [e1]; exact hWD) ⟨Nat.le_trans hS.1 (by rw [e1]; exact hz), fun q h1 h2 => by rw [e1, hk q (Nat.lt_of_lt_of_le h1 hS.1) h2]; exact hS.2.1 q h1 h2, fun q hq => by
      rcases List.mem_append.mp hq with h | h
      · exact hS.2.2 q h
      · exact hL q h⟩ T' rfl X'
  refine ⟨t2, stp t2 ?_, b1⟩
  have e3 : ((v.toList ++ rest).map (conc X)) = (Option.map (conc X) v).toList ++ rest.map (conc X) := by cases v <;> simp
  rw [e3] at a1
  exact a1
def VLK (own : String) (idx : Nat) (y : MethodName) : Prop := Cond.methodLink own idx y ∈ gw ∧ Cond.instanceMethod y ∈ gw ∧ Cond.selects y.cls y y ∈ gw
def SLK (own : String) (idx : Nat) (y : MethodName) : Prop := Cond.methodLink own idx y ∈ gw ∧ Cond.static y ∈ gw
def SNK (own : String) (idx : Nat) (y : MethodName) : Prop := (∃ host, Cond.methodLinkNest own idx y host ∈ nestWs) ∧ Cond.static y ∈ gw
def ILK (own : String) (idx : Nat) (y : MethodName) : Prop := Cond.methodLink own idx y ∈ gw ∧ Cond.instanceMethod y ∈ gw ∧ y.name = "<init>"
theorem cat_sum (l : List Value) : ((l.map (conc X)).map fun v => v.category).sum = (l.map fun v => v.category).sum := by
  congr 1
  rw [List.map_map]
  exact List.map_congr_left fun v _ => cat_conc X v
/-- the callee's side of a call, at any caller -/
theorem callee_B {p : Program} {R : Room} {s : State} {m : MethodId} {args : Array Value} {N : MD} {n d' idx : Nat} {ct' : Nat × Nat} {own : String} (hts : ∀ w ∈ gw, w.before args s = true) (hok : OKM N n) (hl : Cond.methodLink own idx N.1 ∈ gw) (hR : d' + 1 ≤ R.frames ∧ 40 * (d' + 1) ≤ R.locals) :
    CallB R s args own idx N.1 N.2.1 N.2.2.1 N.2.2.2 (.code N.1 N.2.1 N.2.2.1 N.2.2.2 :: gw) (rmX d' ct') ct'.1 ct'.2 n :=
  callB_of n hts (call_good hok) rfl rfl rfl (hts _ hok.2.2.2.2.1) (hts _ hl) ⟨hok.2.2.1.1, hok.2.2.1.2, hok.2.2.2.1⟩ ⟨hR.1, by have := hok.2.2.2.2.2; show 8 + (N.2.2.1 + 11) + 40 * d' ≤ R.locals; omega⟩
theorem w_callV {p : Program} {e : Env} {R : Room} {s : State} {m : MethodId} {args : Array Value} {below : List Frame} {meth : Method} {c : Code} {H : Heap} {locs : List Loc} {ls : Array Slot} {c0 s0 nL : Nat} {Q : State → Prop} {N : MD} {n d' b idx ci : Nat} {r : List Nat} {ct' : Nat × Nat} {own : String} {cc : ByteArray} {av : List Value} {v : Option Value} {sh' : List SH} {I' : MI} {L' : ML} {H0 : Heap} {st0 : List Value}
    (hx : p.tables.exec = Jvm.exec) (hb : c.code = cc) (hml : c.maxLocals = nL) (hown : s.vm.findClass own = some m.cls) (hts : ∀ w ∈ gw, w.before args s = true) (hK : KX X s)
    (hok : OKM N n) (hl : VLK own idx N.1) (hs : sh[b]? = some (ci, r)) (h100 : ci < 100) (hcl : (cls8[ci]?).map (·.1) = some N.1.cls) (hM : Sp X N d' ct' (.ref b :: av) sh I L (v, sh', I', L')) (hn : av.length = n) (hst : st0 = av.reverse ++ .ref b :: rest) (hroom : (rest.map fun v => v.category).sum ≤ 8)
    (hR : d' + 1 ≤ R.frames ∧ 40 * (d' + 1) ≤ R.locals) (hf : c0 + ct'.1 ≤ R.cells ∧ s0 + ct'.2 ≤ R.slots) (hls : ls.size = nL) (hdg : decode cc pc = .ok (.invokevirtual idx, 3)) (hW : WD X sh I L H) (hS : va_S (AX X) H0 H locs)
    (k : ∀ (H1 : Heap) (locs1 : List Loc), WD X sh' I' L' H1 → va_S (AX X) H0 H1 locs1 → W p X.1 e R s m args below meth c H1 locs1 (c0 + ct'.1) (s0 + ct'.2) Q (F0 m (pc + 3) ls ((v.toList ++ rest).map (conc X)))) : W p X.1 e R s m args below meth c H locs c0 s0 Q (F0 m pc ls (st0.map (conc X))) := by
  subst hst
  have hg := wsM_get (X := X) (I := I) (L := L) hs
  rw [cell_o h100] at hg
  obtain ⟨q, hq, hq1⟩ := Option.map_eq_some_iff.mp hcl
  have hrec := va_recv hK.1 hW.2 hq hg
  rw [hq1] at hrec
  refine run_call (va_runV (b := X.2.1 + b) (As := av.map (conc X)) (n := n) (C := N.1.cls) (Ts := gw) (own := own) ⟨hx, hb, hml, hown, hts⟩ hM ⟨callee_B (p := p) (m := m) hts hok hl.1 hR, hts _ hl.2.1, hts _ hl.2.2⟩ ⟨call_blind, hrec, fun U hU hWm => ⟨rfl, by rw [hU]; exact hW, hK.moved hWm⟩⟩ rfl (by simpa using hn) hls (by simp [conc]) ?_ hdg hf) hS k
  have := lv_room (m := m) (pc := pc) (ls := ls) (rest := (av.reverse ++ .ref b :: rest).map (conc X)) (st := rest.map (conc X)) (by rw [cat_sum]; exact hroom)
  exact this
theorem w_callS {p : Program} {e : Env} {R : Room} {s : State} {m : MethodId} {args : Array Value} {below : List Frame} {meth : Method} {c : Code} {H : Heap} {locs : List Loc} {ls : Array Slot} {c0 s0 nL : Nat} {Q : State → Prop} {N : MD} {n d' idx : Nat} {ct' : Nat × Nat} {own : String} {cc : ByteArray} {av : List Value} {v : Option Value} {sh' : List SH} {I' : MI} {L' : ML} {H0 : Heap} {st0 : List Value}
    (hx : p.tables.exec = Jvm.exec) (hb : c.code = cc) (hml : c.maxLocals = nL) (hown : s.vm.findClass own = some m.cls) (hts : ∀ w ∈ gw, w.before args s = true) (hK : KX X s)
    (hok : OKM N n) (hl : SLK own idx N.1) (hM : Sp X N d' ct' av sh I L (v, sh', I', L')) (hn : av.length = n) (hst : st0 = av.reverse ++ rest) (hroom : (rest.map fun v => v.category).sum ≤ 8)
    (hR : d' + 1 ≤ R.frames ∧ 40 * (d' + 1) ≤ R.locals) (hf : c0 + ct'.1 ≤ R.cells ∧ s0 + ct'.2 ≤ R.slots) (hls : ls.size = nL) (hdg : decode cc pc = .ok (.invokestatic idx, 3)) (hW : WD X sh I L H) (hS : va_S (AX X) H0 H locs)
    (k : ∀ (H1 : Heap) (locs1 : List Loc), WD X sh' I' L' H1 → va_S (AX X) H0 H1 locs1 → W p X.1 e R s m args below meth c H1 locs1 (c0 + ct'.1) (s0 + ct'.2) Q (F0 m (pc + 3) ls ((v.toList ++ rest).map (conc X)))) : W p X.1 e R s m args below meth c H locs c0 s0 Q (F0 m pc ls (st0.map (conc X))) := by
  subst hst
  refine run_call (va_runS (As := av.map (conc X)) (n := n) (Ts := gw) (own := own) ⟨hx, hb, hml, hown, hts⟩ hM ⟨callee_B (p := p) (m := m) hts hok hl.1 hR, hts _ hl.2⟩ ⟨call_blind, fun U hU hWm => ⟨rfl, by rw [hU]; exact hW, hK.moved hWm⟩⟩ rfl (by simpa using hn) hls (by simp) ?_ hdg hf) hS k
  have := lv_room (m := m) (pc := pc) (ls := ls) (rest := (av.reverse ++ rest).map (conc X)) (st := rest.map (conc X)) (by rw [cat_sum]; exact hroom)
  exact this
theorem w_callSN {p : Program} {e : Env} {R : Room} {s : State} {m : MethodId} {args : Array Value} {below : List Frame} {meth : Method} {c : Code} {H : Heap} {locs : List Loc} {ls : Array Slot} {c0 s0 nL : Nat} {Q : State → Prop} {N : MD} {n d' idx : Nat} {ct' : Nat × Nat} {own : String} {cc : ByteArray} {av : List Value} {v : Option Value} {sh' : List SH} {I' : MI} {L' : ML} {H0 : Heap} {st0 : List Value}
    (hx : p.tables.exec = Jvm.exec) (hb : c.code = cc) (hml : c.maxLocals = nL) (hown : s.vm.findClass own = some m.cls) (hts : ∀ w ∈ gw, w.before args s = true) (hK : KX X s)
    (hok : OKM N n) (hl : SNK own idx N.1) (hM : Sp X N d' ct' av sh I L (v, sh', I', L')) (hn : av.length = n) (hst : st0 = av.reverse ++ rest) (hroom : (rest.map fun v => v.category).sum ≤ 8)
    (hR : d' + 1 ≤ R.frames ∧ 40 * (d' + 1) ≤ R.locals) (hf : c0 + ct'.1 ≤ R.cells ∧ s0 + ct'.2 ≤ R.slots) (hls : ls.size = nL) (hdg : decode cc pc = .ok (.invokestatic idx, 3)) (hW : WD X sh I L H) (hS : va_S (AX X) H0 H locs)
    (k : ∀ (H1 : Heap) (locs1 : List Loc), WD X sh' I' L' H1 → va_S (AX X) H0 H1 locs1 → W p X.1 e R s m args below meth c H1 locs1 (c0 + ct'.1) (s0 + ct'.2) Q (F0 m (pc + 3) ls ((v.toList ++ rest).map (conc X)))) : W p X.1 e R s m args below meth c H locs c0 s0 Q (F0 m pc ls (st0.map (conc X))) := by
  subst hst
  obtain ⟨⟨host, hl0⟩, hl1⟩ := hl
  refine run_call (va_runSN (As := av.map (conc X)) (n := n) (Ts := gw) (own := own) (host := host) ⟨hx, hb, hml, hown, hts⟩ hM ⟨va_cnB n hts (call_good hok) rfl rfl rfl (hK.2 _ hl0) (hts _ hok.2.2.2.2.1) ⟨hok.2.2.1.1, hok.2.2.1.2, hok.2.2.2.1⟩ ⟨hR.1, by have := hok.2.2.2.2.2; show 8 + (N.2.2.1 + 11) + 40 * d' ≤ R.locals; omega⟩, hts _ hl1, trivial⟩ ⟨call_blind, fun U hU hWm => ⟨rfl, by rw [hU]; exact hW, hK.moved hWm⟩⟩ rfl (by simpa using hn) hls (by simp) ?_ hdg hf) hS k
  have := lv_room (m := m) (pc := pc) (ls := ls) (rest := (av.reverse ++ rest).map (conc X)) (st := rest.map (conc X)) (by rw [cat_sum]; exact hroom)
  exact this
theorem w_callI {p : Program} {e : Env} {R : Room} {s : State} {m : MethodId} {args : Array Value} {below : List Frame} {meth : Method} {c : Code} {H : Heap} {locs : List Loc} {ls : Array Slot} {c0 s0 nL : Nat} {Q : State → Prop} {N : MD} {n d' b idx : Nat} {ct' : Nat × Nat} {own : String} {cc : ByteArray} {av : List Value} {v : Option Value} {sh' : List SH} {I' : MI} {L' : ML} {H0 : Heap} {st0 : List Value}
    (hx : p.tables.exec = Jvm.exec) (hb : c.code = cc) (hml : c.maxLocals = nL) (hown : s.vm.findClass own = some m.cls) (hts : ∀ w ∈ gw, w.before args s = true) (hK : KX X s)
    (hok : OKM N n) (hl : ILK own idx N.1) (hret : N.2.2.2 = none) (hM : Sp X N d' ct' (.ref b :: av) sh I L (v, sh', I', L')) (hn : av.length = n) (hst : st0 = av.reverse ++ .ref b :: rest) (hroom : (rest.map fun v => v.category).sum ≤ 8)
    (hR : d' + 1 ≤ R.frames ∧ 40 * (d' + 1) ≤ R.locals) (hf : c0 + ct'.1 ≤ R.cells ∧ s0 + ct'.2 ≤ R.slots) (hls : ls.size = nL) (hdg : decode cc pc = .ok (.invokespecial idx, 3)) (hW : WD X sh I L H) (hS : va_S (AX X) H0 H locs)
    (k : ∀ (H1 : Heap) (locs1 : List Loc), WD X sh' I' L' H1 → va_S (AX X) H0 H1 locs1 → W p X.1 e R s m args below meth c H1 locs1 (c0 + ct'.1) (s0 + ct'.2) Q (F0 m (pc + 3) ls ((v.toList ++ rest).map (conc X)))) : W p X.1 e R s m args below meth c H locs c0 s0 Q (F0 m pc ls (st0.map (conc X))) := by
  subst hst
  have hB := callee_B (p := p) (m := m) (ct' := ct') hts hok hl.1 hR
  rw [hret] at hB
  have hM' : Met X.1 N.1 (.code N.1 N.2.1 N.2.2.1 none :: gw) (rmX d' ct') (va_Pc ((.ref b :: av).map (conc X)) (fun U => WD X sh I L U.heap ∧ KX X U)) (QX X (v, sh', I', L')) ct'.1 ct'.2 (AX X) := by
    have h9 := hM
    unfold Sp at h9
    rw [hret] at h9
    exact h9
  refine run_call (va_runI (b := X.2.1 + b) (As := av.map (conc X)) (n := n) (Ts := gw) (own := own) ⟨hx, hb, hml, hown, hts⟩ hM' ⟨hB, hl.2.2, hts _ hl.2.1⟩ ⟨call_blind, fun U hU hWm => ⟨rfl, by rw [hU]; exact hW, hK.moved hWm⟩⟩ rfl (by simpa using hn) hls (by simp [conc]) ?_ hdg hf) hS k
  have := lv_room (m := m) (pc := pc) (ls := ls) (rest := (av.reverse ++ .ref b :: rest).map (conc X)) (st := rest.map (conc X)) (by rw [cat_sum]; exact hroom)
  exact this
section CALLROWS
variable {N : MD} {n b idx ci : Nat} {r : List Nat} {ct' : Nat × Nat} {av : List Value} {v : Option Value} {sh' : List SH} {I' : MI} {L' : ML}
theorem r_callV (hM : Sp X N d ct' (.ref b :: av) sh I L (v, sh', I', L')) (hok : OKM N n) (hl : VLK M.1.cls idx N.1) (hs : sh[b]? = some (ci, r)) (h100 : ci < 100) (hcl : (cls8[ci]?).map (·.1) = some N.1.cls) (hn : av.length = n) (hst : st = av.reverse ++ .ref b :: rest) (hroom : (rest.map fun v => v.category).sum ≤ 8)
    (hf : cs.1 + ct'.1 ≤ ct.1 ∧ cs.2 + ct'.2 ≤ ct.2) (hdg : decode M.2.1 pc = .ok (.invokevirtual idx, 3)) (k : Ev X M (d + 1) ct (cs.1 + ct'.1, cs.2 + ct'.2) T (pc + 3) lo (v.toList ++ rest) sh' I' L') : Ev X M (d + 1) ct cs T pc lo st sh I L :=
  fun p e s m args below meth c H locs ls hC hW hS hl0 => w_callV hC.1 hC.2.1 hC.2.2.1 hC.2.2.2.1 hC.2.2.2.2.2.2.2.1 hC.2.2.2.2.2.2.2.2.1 hok hl hs h100 hcl hM hn hst hroom ⟨Nat.le_refl _, Nat.le_refl _⟩ hf hl0.1 hdg hW hS fun H1 locs1 h1 h2 => k p e s m args below meth c H1 locs1 ls hC h1 h2 hl0
theorem r_callS (hM : Sp X N d ct' av sh I L (v, sh', I', L')) (hok : OKM N n) (hl : SLK M.1.cls idx N.1) (hn : av.length = n) (hst : st = av.reverse ++ rest) (hroom : (rest.map fun v => v.category).sum ≤ 8)
    (hf : cs.1 + ct'.1 ≤ ct.1 ∧ cs.2 + ct'.2 ≤ ct.2) (hdg : decode M.2.1 pc = .ok (.invokestatic idx, 3)) (k : Ev X M (d + 1) ct (cs.1 + ct'.1, cs.2 + ct'.2) T (pc + 3) lo (v.toList ++ rest) sh' I' L') : Ev X M (d + 1) ct cs T pc lo st sh I L :=
  fun p e s m args below meth c H locs ls hC hW hS hl0 => w_callS hC.1 hC.2.1 hC.2.2.1 hC.2.2.2.1 hC.2.2.2.2.2.2.2.1 hC.2.2.2.2.2.2.2.2.1 hok hl hM hn hst hroom ⟨Nat.le_refl _, Nat.le_refl _⟩ hf hl0.1 hdg hW hS fun H1 locs1 h1 h2 => k p e s m args below meth c H1 locs1 ls hC h1 h2 hl0
theorem r_callSN (hM : Sp X N d ct' av sh I L (v, sh', I', L')) (hok : OKM N n) (hl : SNK M.1.cls idx N.1) (hn : av.length = n) (hst : st = av.reverse ++ rest) (hroom : (rest.map fun v => v.category).sum ≤ 8)
    (hf : cs.1 + ct'.1 ≤ ct.1 ∧ cs.2 + ct'.2 ≤ ct.2) (hdg : decode M.2.1 pc = .ok (.invokestatic idx, 3)) (k : Ev X M (d + 1) ct (cs.1 + ct'.1, cs.2 + ct'.2) T (pc + 3) lo (v.toList ++ rest) sh' I' L') : Ev X M (d + 1) ct cs T pc lo st sh I L :=
  fun p e s m args below meth c H locs ls hC hW hS hl0 => w_callSN hC.1 hC.2.1 hC.2.2.1 hC.2.2.2.1 hC.2.2.2.2.2.2.2.1 hC.2.2.2.2.2.2.2.2.1 hok hl hM hn hst hroom ⟨Nat.le_refl _, Nat.le_refl _⟩ hf hl0.1 hdg hW hS fun H1 locs1 h1 h2 => k p e s m args below meth c H1 locs1 ls hC h1 h2 hl0
theorem r_callI (hM : Sp X N d ct' (.ref b :: av) sh I L (v, sh', I', L')) (hok : OKM N n) (hl : ILK M.1.cls idx N.1) (hret : N.2.2.2 = none) (hn : av.length = n) (hst : st = av.reverse ++ .ref b :: rest) (hroom : (rest.map fun v => v.category).sum ≤ 8)
    (hf : cs.1 + ct'.1 ≤ ct.1 ∧ cs.2 + ct'.2 ≤ ct.2) (hdg : decode M.2.1 pc = .ok (.invokespecial idx, 3)) (k : Ev X M (d + 1) ct (cs.1 + ct'.1, cs.2 + ct'.2) T (pc + 3) lo (v.toList ++ rest) sh' I' L') : Ev X M (d + 1) ct cs T pc lo st sh I L :=
  fun p e s m args below meth c H locs ls hC hW hS hl0 => w_callI hC.1 hC.2.1 hC.2.2.1 hC.2.2.2.1 hC.2.2.2.2.2.2.2.1 hC.2.2.2.2.2.2.2.2.1 hok hl hret hM hn hst hroom ⟨Nat.le_refl _, Nat.le_refl _⟩ hf hl0.1 hdg hW hS fun H1 locs1 h1 h2 => k p e s m args below meth c H1 locs1 ls hC h1 h2 hl0
end CALLROWS
theorem r_obj {a idx : Nat} (hdg : decode M.2.1 pc = .ok (.invokespecial idx, 3)) (h1 : Cond.methodLink M.1.cls idx objectInit ∈ gw) (h2 : Cond.instanceMethod objectInit ∈ gw) (h3 : Cond.code objectInit ⟨#[0xb1]⟩ 1 none ∈ gw) (hroom : (st.map fun v => v.category).sum ≤ 8)
    (k : Ev X M (d + 1) ct cs T (pc + 3) lo st sh I L) : Ev X M (d + 1) ct cs T pc lo (.ref a :: st) sh I L :=
  fun p e s m args below meth c H locs ls hC hW hS hl => W.objInit hC.1 hC.2.1 hC.2.2.2.1 (hC.2.2.2.2.2.2.2.1 _ h1) (hC.2.2.2.2.2.2.2.1 _ h2) (hC.2.2.2.2.2.2.2.1 _ h3) rfl (by rw [hC.2.2.1]; exact hl.1) rfl hdg (by show 1 ≤ d + 1; omega) (by
      have := lv_room (m := m) (pc := pc) (ls := ls) (rest := (Value.ref a :: st).map (conc X)) (st := st.map (conc X)) (by rw [cat_sum]; exact hroom)
      show _ + 12 ≤ 40 * (d + 1)
      have h9 : 2 * (F0 m pc ls ((Value.ref a :: st).map (conc X))).monitorRoom + ((st.map (conc X)).map fun v => v.category).sum ≤ 8 := this
      omega) (k p e s m args below meth c H locs ls hC hW hS hl)
/-! the end of a method -/
theorem r_iret {x : Int32} (hdg : decode M.2.1 pc = .ok (.ireturn, 1)) (hr : M.2.2.2 = some .int) (hT : T = (some (.int x), sh, I, L)) (hcs : cs = ct) : Ev X M d ct cs T pc lo [.int x] sh I L :=
  fun p e s m args below meth c H locs ls hC hW hS hl => by
    subst hT; subst hcs
    have hlocks := hC.2.2.2.2.2.1
    exact W.iret hC.1 hC.2.1 (by rw [hC.2.2.2.2.1]; exact hr) (fun t ht _ => ⟨rfl, by rw [ht]; exact hW, hS.F ht⟩) hS.2.2 hdg
theorem r_zret {x : Int32} (hdg : decode M.2.1 pc = .ok (.ireturn, 1)) (hr : M.2.2.2 = some .boolean) (hx : narrow .boolean (.int x) = .int x) (hT : T = (some (.int x), sh, I, L)) (hcs : cs = ct) : Ev X M d ct cs T pc lo [.int x] sh I L :=
  fun p e s m args below meth c H locs ls hC hW hS hl => by
    subst hT; subst hcs
    have hlocks := hC.2.2.2.2.2.1
    exact W.zret hC.1 hC.2.1 (by rw [hC.2.2.2.2.1]; exact hr) hx (fun t ht _ => ⟨rfl, by rw [ht]; exact hW, hS.F ht⟩) hS.2.2 hdg
theorem r_lret {x : Int64} (hdg : decode M.2.1 pc = .ok (.lreturn, 1)) (hr : M.2.2.2 = some .long) (hT : T = (some (.long x), sh, I, L)) (hcs : cs = ct) : Ev X M d ct cs T pc lo [.long x] sh I L :=
  fun p e s m args below meth c H locs ls hC hW hS hl => by
    subst hT; subst hcs
    have hlocks := hC.2.2.2.2.2.1
    exact W.lret hC.1 hC.2.1 (by rw [hC.2.2.2.2.1]; exact hr) (fun t ht _ => ⟨rfl, by rw [ht]; exact hW, hS.F ht⟩) hS.2.2 hdg
theorem r_vret (hdg : decode M.2.1 pc = .ok (.return_, 1)) (hr : M.2.2.2 = none) (hT : T = (none, sh, I, L)) (hcs : cs = ct) : Ev X M d ct cs T pc lo [] sh I L :=
  fun p e s m args below meth c H locs ls hC hW hS hl => by
    subst hT; subst hcs
    have hlocks := hC.2.2.2.2.2.1
    exact W.vret hC.1 hC.2.1 (by rw [hC.2.2.2.2.1]; exact hr) (fun t ht _ => ⟨rfl, by rw [ht]; exact hW, hS.F ht⟩) hS.2.2 hdg
/-- locals may be forgotten -/
theorem r_lo {lo lo1 : List Value} (h : ∀ (i : Nat) (v : Value), lo1[i]? = some v → isN v = false → lo[i]? = some v) (k : Ev X M d ct cs T pc lo1 st sh I L) : Ev X M d ct cs T pc lo st sh I L :=
  fun p e s m args below meth c H locs ls hC hW hS hl => k p e s m args below meth c H locs ls hC hW hS ⟨hl.1, hl.2.1, fun q hq => by
    obtain ⟨v, h1, h2, h3⟩ := asc_mem.mp hq
    exact hl.2.2 q (asc_mem.mpr ⟨v, h _ _ h1 h2, h2, h3⟩)⟩
end ROWS
end
section
theorem gi (i : Nat) (w : Cond) (h : lw_tbl[i]? = some w) (g : goodWord w = true) : w ∈ gw := gw_of (List.mem_of_getElem? h) g
theorem clk0 : CLK 0 := ⟨(RX0, TX0, 2), tyX0, rfl, fun w hw => gw_of ((by decide +kernel : ∀ w ∈ u_ws RX0 TX0 2, w ∈ lw_tbl) w hw) ((by decide +kernel : ∀ w ∈ u_ws RX0 TX0 2, goodWord w = true) w hw), tyX0_ok, nmX0⟩
theorem clk1 : CLK 1 := ⟨(RX1, TX1, 4), tyX1, rfl, fun w hw => gw_of ((by decide +kernel : ∀ w ∈ u_ws RX1 TX1 4, w ∈ lw_tbl) w hw) ((by decide +kernel : ∀ w ∈ u_ws RX1 TX1 4, goodWord w = true) w hw), tyX1_ok, nmX1⟩
theorem clk2 : CLK 2 := ⟨(RX2, TX2, 9), tyX2, rfl, fun w hw => gw_of ((by decide +kernel : ∀ w ∈ u_ws RX2 TX2 9, w ∈ lw_tbl) w hw) ((by decide +kernel : ∀ w ∈ u_ws RX2 TX2 9, goodWord w = true) w hw), tyX2_ok, nmX2⟩
theorem clk3 : CLK 3 := ⟨(RX3, TX3, 6), tyX3, rfl, fun w hw => gw_of ((by decide +kernel : ∀ w ∈ u_ws RX3 TX3 6, w ∈ lw_tbl) w hw) ((by decide +kernel : ∀ w ∈ u_ws RX3 TX3 6, goodWord w = true) w hw), tyX3_ok, nmX3⟩
theorem clk4 : CLK 4 := ⟨(RX4, TX4, 8), tyX4, rfl, fun w hw => gw_of ((by decide +kernel : ∀ w ∈ u_ws RX4 TX4 8, w ∈ lw_tbl) w hw) ((by decide +kernel : ∀ w ∈ u_ws RX4 TX4 8, goodWord w = true) w hw), tyX4_ok, nmX4⟩
theorem clk5 : CLK 5 := ⟨(RX5, TX5, 14), tyX5, rfl, fun w hw => gw_of ((by decide +kernel : ∀ w ∈ u_ws RX5 TX5 14, w ∈ lw_tbl) w hw) ((by decide +kernel : ∀ w ∈ u_ws RX5 TX5 14, goodWord w = true) w hw), tyX5_ok, nmX5⟩
theorem clk6 : CLK 6 := ⟨(RX6, TX6, 40), tyX6, rfl, fun w hw => gw_of ((by decide +kernel : ∀ w ∈ u_ws RX6 TX6 40, w ∈ lw_tbl) w hw) ((by decide +kernel : ∀ w ∈ u_ws RX6 TX6 40, goodWord w = true) w hw), tyX6_ok, nmX6⟩
abbrev mX5_init : MD := (yX5_init, cX5_init, 1, none)
theorem okX5_init : OKM mX5_init 0 := ⟨by decide +kernel, gi 77 _ (by decide +kernel) rfl, ⟨by decide +kernel, by decide +kernel⟩, by decide +kernel, gi 65 _ (by decide +kernel) rfl, by decide⟩
abbrev mX0_init : MD := (yX0_init, cX0_init, 1, none)
theorem okX0_init : OKM mX0_init 0 := ⟨by decide +kernel, gi 85 _ (by decide +kernel) rfl, ⟨by decide +kernel, by decide +kernel⟩, by decide +kernel, gi 66 _ (by decide +kernel) rfl, by decide⟩
abbrev mX4_init : MD := (yX4_init, cX4_init, 1, none)
theorem okX4_init : OKM mX4_init 0 := ⟨by decide +kernel, gi 99 _ (by decide +kernel) rfl, ⟨by decide +kernel, by decide +kernel⟩, by decide +kernel, gi 67 _ (by decide +kernel) rfl, by decide⟩
abbrev mX2_init : MD := (yX2_init, cX2_init, 1, none)
theorem okX2_init : OKM mX2_init 0 := ⟨by decide +kernel, gi 133 _ (by decide +kernel) rfl, ⟨by decide +kernel, by decide +kernel⟩, by decide +kernel, gi 68 _ (by decide +kernel) rfl, by decide⟩
abbrev mX1_init : MD := (yX1_init, cX1_init, 1, none)
theorem okX1_init : OKM mX1_init 0 := ⟨by decide +kernel, gi 173 _ (by decide +kernel) rfl, ⟨by decide +kernel, by decide +kernel⟩, by decide +kernel, gi 69 _ (by decide +kernel) rfl, by decide⟩
abbrev mX3_init : MD := (yX3_init, cX3_init, 3, none)
theorem okX3_init : OKM mX3_init 2 := ⟨by decide +kernel, gi 192 _ (by decide +kernel) rfl, ⟨by decide +kernel, by decide +kernel⟩, by decide +kernel, gi 70 _ (by decide +kernel) rfl, by decide⟩
abbrev mX5_type : MD := (yX5_type, cX5_type, 2, (some .int))
theorem okX5_type : OKM mX5_type 1 := ⟨by decide +kernel, gi 260 _ (by decide +kernel) rfl, ⟨by decide +kernel, by decide +kernel⟩, by decide +kernel, gi 65 _ (by decide +kernel) rfl, by decide⟩
abbrev mX2_add : MD := (yX2_add, cX2_add, 2, (some .boolean))
theorem okX2_add : OKM mX2_add 1 := ⟨by decide +kernel, gi 264 _ (by decide +kernel) rfl, ⟨by decide +kernel, by decide +kernel⟩, by decide +kernel, gi 68 _ (by decide +kernel) rfl, by decide⟩
abbrev mX2_letters : MD := (yX2_letters, cX2_letters, 1, (some .int))
theorem okX2_letters : OKM mX2_letters 0 := ⟨by decide +kernel, gi 268 _ (by decide +kernel) rfl, ⟨by decide +kernel, by decide +kernel⟩, by decide +kernel, gi 68 _ (by decide +kernel) rfl, by decide⟩
abbrev mX5_clear : MD := (yX5_clear, cX5_clear, 2, (some .int))
theorem okX5_clear : OKM mX5_clear 0 := ⟨by decide +kernel, gi 272 _ (by decide +kernel) rfl, ⟨by decide +kernel, by decide +kernel⟩, by decide +kernel, gi 65 _ (by decide +kernel) rfl, by decide⟩
abbrev mX2_drop : MD := (yX2_drop, cX2_drop, 1, none)
theorem okX2_drop : OKM mX2_drop 0 := ⟨by decide +kernel, gi 276 _ (by decide +kernel) rfl, ⟨by decide +kernel, by decide +kernel⟩, by decide +kernel, gi 68 _ (by decide +kernel) rfl, by decide⟩
abbrev mX5_desk : MD := (yX5_desk, cX5_desk, 2, (some .int))
theorem okX5_desk : OKM mX5_desk 0 := ⟨by decide +kernel, gi 280 _ (by decide +kernel) rfl, ⟨by decide +kernel, by decide +kernel⟩, by decide +kernel, gi 65 _ (by decide +kernel) rfl, by decide⟩
abbrev mX2_read : MD := (yX2_read, cX2_read, 2, (some .int))
theorem okX2_read : OKM mX2_read 0 := ⟨by decide +kernel, gi 284 _ (by decide +kernel) rfl, ⟨by decide +kernel, by decide +kernel⟩, by decide +kernel, gi 68 _ (by decide +kernel) rfl, by decide⟩
abbrev mX0_reset : MD := (yX0_reset, cX0_reset, 2, none)
theorem okX0_reset : OKM mX0_reset 0 := ⟨by decide +kernel, gi 288 _ (by decide +kernel) rfl, ⟨by decide +kernel, by decide +kernel⟩, by decide +kernel, gi 66 _ (by decide +kernel) rfl, by decide⟩
abbrev mX4_reset : MD := (yX4_reset, cX4_reset, 1, none)
theorem okX4_reset : OKM mX4_reset 0 := ⟨by decide +kernel, gi 292 _ (by decide +kernel) rfl, ⟨by decide +kernel, by decide +kernel⟩, by decide +kernel, gi 67 _ (by decide +kernel) rfl, by decide⟩
abbrev mX2_pass : MD := (yX2_pass, cX2_pass, 2, none)
theorem okX2_pass : OKM mX2_pass 0 := ⟨by decide +kernel, gi 296 _ (by decide +kernel) rfl, ⟨by decide +kernel, by decide +kernel⟩, by decide +kernel, gi 68 _ (by decide +kernel) rfl, by decide⟩
abbrev mX2_isDigit : MD := (yX2_isDigit, cX2_isDigit, 1, (some .boolean))
theorem okX2_isDigit : OKM mX2_isDigit 1 := ⟨by decide +kernel, gi 299 _ (by decide +kernel) rfl, ⟨by decide +kernel, by decide +kernel⟩, by decide +kernel, gi 68 _ (by decide +kernel) rfl, by decide⟩
abbrev mX2_passDigits : MD := (yX2_passDigits, cX2_passDigits, 3, none)
theorem okX2_passDigits : OKM mX2_passDigits 1 := ⟨by decide +kernel, gi 303 _ (by decide +kernel) rfl, ⟨by decide +kernel, by decide +kernel⟩, by decide +kernel, gi 68 _ (by decide +kernel) rfl, by decide⟩
abbrev mX2_readItem : MD := (yX2_readItem, cX2_readItem, 2, (some .boolean))
theorem okX2_readItem : OKM mX2_readItem 0 := ⟨by decide +kernel, gi 307 _ (by decide +kernel) rfl, ⟨by decide +kernel, by decide +kernel⟩, by decide +kernel, gi 68 _ (by decide +kernel) rfl, by decide⟩
abbrev mX2_readSource : MD := (yX2_readSource, cX2_readSource, 3, (some .boolean))
theorem okX2_readSource : OKM mX2_readSource 0 := ⟨by decide +kernel, gi 311 _ (by decide +kernel) rfl, ⟨by decide +kernel, by decide +kernel⟩, by decide +kernel, gi 68 _ (by decide +kernel) rfl, by decide⟩
abbrev mX2_sourceAtHand : MD := (yX2_sourceAtHand, cX2_sourceAtHand, 1, (some .int))
theorem okX2_sourceAtHand : OKM mX2_sourceAtHand 0 := ⟨by decide +kernel, gi 315 _ (by decide +kernel) rfl, ⟨by decide +kernel, by decide +kernel⟩, by decide +kernel, gi 68 _ (by decide +kernel) rfl, by decide⟩
abbrev mX5_isSource : MD := (yX5_isSource, cX5_isSource, 1, (some .boolean))
theorem okX5_isSource : OKM mX5_isSource 1 := ⟨by decide +kernel, gi 318 _ (by decide +kernel) rfl, ⟨by decide +kernel, by decide +kernel⟩, by decide +kernel, gi 65 _ (by decide +kernel) rfl, by decide⟩
abbrev mX2_passSign : MD := (yX2_passSign, cX2_passSign, 1, (some .int))
theorem okX2_passSign : OKM mX2_passSign 0 := ⟨by decide +kernel, gi 322 _ (by decide +kernel) rfl, ⟨by decide +kernel, by decide +kernel⟩, by decide +kernel, gi 68 _ (by decide +kernel) rfl, by decide⟩
abbrev mX0_setWorth : MD := (yX0_setWorth, cX0_setWorth, 3, none)
theorem okX0_setWorth : OKM mX0_setWorth 2 := ⟨by decide +kernel, gi 326 _ (by decide +kernel) rfl, ⟨by decide +kernel, by decide +kernel⟩, by decide +kernel, gi 66 _ (by decide +kernel) rfl, by decide⟩
abbrev mX0_setSpread : MD := (yX0_setSpread, cX0_setSpread, 4, none)
theorem okX0_setSpread : OKM mX0_setSpread 3 := ⟨by decide +kernel, gi 331 _ (by decide +kernel) rfl, ⟨by decide +kernel, by decide +kernel⟩, by decide +kernel, gi 66 _ (by decide +kernel) rfl, by decide⟩
abbrev mX2_readJoint : MD := (yX2_readJoint, cX2_readJoint, 4, (some .boolean))
theorem okX2_readJoint : OKM mX2_readJoint 0 := ⟨by decide +kernel, gi 335 _ (by decide +kernel) rfl, ⟨by decide +kernel, by decide +kernel⟩, by decide +kernel, gi 68 _ (by decide +kernel) rfl, by decide⟩
abbrev mX2_readFormula : MD := (yX2_readFormula, cX2_readFormula, 1, (some .boolean))
theorem okX2_readFormula : OKM mX2_readFormula 0 := ⟨by decide +kernel, gi 339 _ (by decide +kernel) rfl, ⟨by decide +kernel, by decide +kernel⟩, by decide +kernel, gi 68 _ (by decide +kernel) rfl, by decide⟩
abbrev mX4_formulas : MD := (yX4_formulas, cX4_formulas, 1, (some .int))
theorem okX4_formulas : OKM mX4_formulas 0 := ⟨by decide +kernel, gi 343 _ (by decide +kernel) rfl, ⟨by decide +kernel, by decide +kernel⟩, by decide +kernel, gi 67 _ (by decide +kernel) rfl, by decide⟩
abbrev mX2_readSum : MD := (yX2_readSum, cX2_readSum, 6, (some .int))
theorem okX2_readSum : OKM mX2_readSum 1 := ⟨by decide +kernel, gi 347 _ (by decide +kernel) rfl, ⟨by decide +kernel, by decide +kernel⟩, by decide +kernel, gi 68 _ (by decide +kernel) rfl, by decide⟩
abbrev mX2_readProduct : MD := (yX2_readProduct, cX2_readProduct, 5, (some .int))
theorem okX2_readProduct : OKM mX2_readProduct 1 := ⟨by decide +kernel, gi 351 _ (by decide +kernel) rfl, ⟨by decide +kernel, by decide +kernel⟩, by decide +kernel, gi 68 _ (by decide +kernel) rfl, by decide⟩
abbrev mX2_readPower : MD := (yX2_readPower, cX2_readPower, 3, (some .int))
theorem okX2_readPower : OKM mX2_readPower 1 := ⟨by decide +kernel, gi 355 _ (by decide +kernel) rfl, ⟨by decide +kernel, by decide +kernel⟩, by decide +kernel, gi 68 _ (by decide +kernel) rfl, by decide⟩
abbrev mX2_readPart : MD := (yX2_readPart, cX2_readPart, 5, (some .int))
theorem okX2_readPart : OKM mX2_readPart 1 := ⟨by decide +kernel, gi 359 _ (by decide +kernel) rfl, ⟨by decide +kernel, by decide +kernel⟩, by decide +kernel, gi 68 _ (by decide +kernel) rfl, by decide⟩
abbrev mX2_countNode : MD := (yX2_countNode, cX2_countNode, 1, (some .boolean))
theorem okX2_countNode : OKM mX2_countNode 0 := ⟨by decide +kernel, gi 363 _ (by decide +kernel) rfl, ⟨by decide +kernel, by decide +kernel⟩, by decide +kernel, gi 68 _ (by decide +kernel) rfl, by decide⟩
abbrev mX2_readBarePart : MD := (yX2_readBarePart, cX2_readBarePart, 4, (some .int))
theorem okX2_readBarePart : OKM mX2_readBarePart 1 := ⟨by decide +kernel, gi 367 _ (by decide +kernel) rfl, ⟨by decide +kernel, by decide +kernel⟩, by decide +kernel, gi 68 _ (by decide +kernel) rfl, by decide⟩
abbrev mX2_readInner : MD := (yX2_readInner, cX2_readInner, 3, (some .int))
theorem okX2_readInner : OKM mX2_readInner 1 := ⟨by decide +kernel, gi 371 _ (by decide +kernel) rfl, ⟨by decide +kernel, by decide +kernel⟩, by decide +kernel, gi 68 _ (by decide +kernel) rfl, by decide⟩
abbrev mX2_readEarlier : MD := (yX2_readEarlier, cX2_readEarlier, 2, (some .int))
theorem okX2_readEarlier : OKM mX2_readEarlier 0 := ⟨by decide +kernel, gi 375 _ (by decide +kernel) rfl, ⟨by decide +kernel, by decide +kernel⟩, by decide +kernel, gi 68 _ (by decide +kernel) rfl, by decide⟩
abbrev mX4_root : MD := (yX4_root, cX4_root, 2, (some .int))
theorem okX4_root : OKM mX4_root 1 := ⟨by decide +kernel, gi 379 _ (by decide +kernel) rfl, ⟨by decide +kernel, by decide +kernel⟩, by decide +kernel, gi 67 _ (by decide +kernel) rfl, by decide⟩
abbrev mX4_stop : MD := (yX4_stop, cX4_stop, 2, (some .int))
theorem okX4_stop : OKM mX4_stop 1 := ⟨by decide +kernel, gi 383 _ (by decide +kernel) rfl, ⟨by decide +kernel, by decide +kernel⟩, by decide +kernel, gi 67 _ (by decide +kernel) rfl, by decide⟩
abbrev mX4_addOver : MD := (yX4_addOver, cX4_addOver, 4, (some .int))
theorem okX4_addOver : OKM mX4_addOver 3 := ⟨by decide +kernel, gi 387 _ (by decide +kernel) rfl, ⟨by decide +kernel, by decide +kernel⟩, by decide +kernel, gi 67 _ (by decide +kernel) rfl, by decide⟩
abbrev mX4_steps : MD := (yX4_steps, cX4_steps, 2, (some .int))
theorem okX4_steps : OKM mX4_steps 1 := ⟨by decide +kernel, gi 391 _ (by decide +kernel) rfl, ⟨by decide +kernel, by decide +kernel⟩, by decide +kernel, gi 67 _ (by decide +kernel) rfl, by decide⟩
abbrev mX4_names : MD := (yX4_names, cX4_names, 2, (some .int))
theorem okX4_names : OKM mX4_names 1 := ⟨by decide +kernel, gi 395 _ (by decide +kernel) rfl, ⟨by decide +kernel, by decide +kernel⟩, by decide +kernel, gi 67 _ (by decide +kernel) rfl, by decide⟩
abbrev mX4_add : MD := (yX4_add, cX4_add, 7, (some .int))
theorem okX4_add : OKM mX4_add 5 := ⟨by decide +kernel, gi 399 _ (by decide +kernel) rfl, ⟨by decide +kernel, by decide +kernel⟩, by decide +kernel, gi 67 _ (by decide +kernel) rfl, by decide⟩
abbrev mX4_addNumber : MD := (yX4_addNumber, cX4_addNumber, 2, (some .int))
theorem okX4_addNumber : OKM mX4_addNumber 1 := ⟨by decide +kernel, gi 403 _ (by decide +kernel) rfl, ⟨by decide +kernel, by decide +kernel⟩, by decide +kernel, gi 67 _ (by decide +kernel) rfl, by decide⟩
abbrev mX4_addSource : MD := (yX4_addSource, cX4_addSource, 2, (some .int))
theorem okX4_addSource : OKM mX4_addSource 1 := ⟨by decide +kernel, gi 407 _ (by decide +kernel) rfl, ⟨by decide +kernel, by decide +kernel⟩, by decide +kernel, gi 67 _ (by decide +kernel) rfl, by decide⟩
abbrev mX4_addBoth : MD := (yX4_addBoth, cX4_addBoth, 4, (some .int))
theorem okX4_addBoth : OKM mX4_addBoth 3 := ⟨by decide +kernel, gi 411 _ (by decide +kernel) rfl, ⟨by decide +kernel, by decide +kernel⟩, by decide +kernel, gi 67 _ (by decide +kernel) rfl, by decide⟩
abbrev mX4_endFormula : MD := (yX4_endFormula, cX4_endFormula, 1, none)
theorem okX4_endFormula : OKM mX4_endFormula 0 := ⟨by decide +kernel, gi 415 _ (by decide +kernel) rfl, ⟨by decide +kernel, by decide +kernel⟩, by decide +kernel, gi 67 _ (by decide +kernel) rfl, by decide⟩
abbrev mX0_take : MD := (yX0_take, cX0_take, 3, none)
theorem okX0_take : OKM mX0_take 1 := ⟨by decide +kernel, gi 419 _ (by decide +kernel) rfl, ⟨by decide +kernel, by decide +kernel⟩, by decide +kernel, gi 66 _ (by decide +kernel) rfl, by decide⟩
abbrev mX4_take : MD := (yX4_take, cX4_take, 3, none)
theorem okX4_take : OKM mX4_take 1 := ⟨by decide +kernel, gi 423 _ (by decide +kernel) rfl, ⟨by decide +kernel, by decide +kernel⟩, by decide +kernel, gi 67 _ (by decide +kernel) rfl, by decide⟩
abbrev mX1_lose : MD := (yX1_lose, cX1_lose, 1, none)
theorem okX1_lose : OKM mX1_lose 0 := ⟨by decide +kernel, gi 427 _ (by decide +kernel) rfl, ⟨by decide +kernel, by decide +kernel⟩, by decide +kernel, gi 69 _ (by decide +kernel) rfl, by decide⟩
abbrev mX5_source : MD := (yX5_source, cX5_source, 3, (some .long))
theorem okX5_source : OKM mX5_source 2 := ⟨by decide +kernel, gi 431 _ (by decide +kernel) rfl, ⟨by decide +kernel, by decide +kernel⟩, by decide +kernel, gi 65 _ (by decide +kernel) rfl, by decide⟩
abbrev mX0_worth : MD := (yX0_worth, cX0_worth, 2, (some .int))
theorem okX0_worth : OKM mX0_worth 1 := ⟨by decide +kernel, gi 437 _ (by decide +kernel) rfl, ⟨by decide +kernel, by decide +kernel⟩, by decide +kernel, gi 66 _ (by decide +kernel) rfl, by decide⟩
abbrev mX0_spread : MD := (yX0_spread, cX0_spread, 3, (some .int))
theorem okX0_spread : OKM mX0_spread 2 := ⟨by decide +kernel, gi 441 _ (by decide +kernel) rfl, ⟨by decide +kernel, by decide +kernel⟩, by decide +kernel, gi 66 _ (by decide +kernel) rfl, by decide⟩
abbrev mX5_joint : MD := (yX5_joint, cX5_joint, 3, (some .long))
theorem okX5_joint : OKM mX5_joint 2 := ⟨by decide +kernel, gi 445 _ (by decide +kernel) rfl, ⟨by decide +kernel, by decide +kernel⟩, by decide +kernel, gi 65 _ (by decide +kernel) rfl, by decide⟩
abbrev mX5_values : MD := (yX5_values, cX5_values, 4, (some .int))
theorem okX5_values : OKM mX5_values 2 := ⟨by decide +kernel, gi 449 _ (by decide +kernel) rfl, ⟨by decide +kernel, by decide +kernel⟩, by decide +kernel, gi 65 _ (by decide +kernel) rfl, by decide⟩
abbrev mX1_add : MD := (yX1_add, cX1_add, 4, none)
theorem okX1_add : OKM mX1_add 3 := ⟨by decide +kernel, gi 453 _ (by decide +kernel) rfl, ⟨by decide +kernel, by decide +kernel⟩, by decide +kernel, gi 69 _ (by decide +kernel) rfl, by decide⟩
abbrev mX1_loseOldest : MD := (yX1_loseOldest, cX1_loseOldest, 2, none)
theorem okX1_loseOldest : OKM mX1_loseOldest 0 := ⟨by decide +kernel, gi 457 _ (by decide +kernel) rfl, ⟨by decide +kernel, by decide +kernel⟩, by decide +kernel, gi 69 _ (by decide +kernel) rfl, by decide⟩
abbrev mX5_spreads : MD := (yX5_spreads, cX5_spreads, 4, (some .int))
theorem okX5_spreads : OKM mX5_spreads 2 := ⟨by decide +kernel, gi 462 _ (by decide +kernel) rfl, ⟨by decide +kernel, by decide +kernel⟩, by decide +kernel, gi 65 _ (by decide +kernel) rfl, by decide⟩
abbrev mX5_joints : MD := (yX5_joints, cX5_joints, 5, (some .int))
theorem okX5_joints : OKM mX5_joints 3 := ⟨by decide +kernel, gi 467 _ (by decide +kernel) rfl, ⟨by decide +kernel, by decide +kernel⟩, by decide +kernel, gi 65 _ (by decide +kernel) rfl, by decide⟩
abbrev mX5_undo : MD := (yX5_undo, cX5_undo, 1, (some .int))
theorem okX5_undo : OKM mX5_undo 0 := ⟨by decide +kernel, gi 471 _ (by decide +kernel) rfl, ⟨by decide +kernel, by decide +kernel⟩, by decide +kernel, gi 65 _ (by decide +kernel) rfl, by decide⟩
abbrev mX1_takeBack : MD := (yX1_takeBack, cX1_takeBack, 3, (some .boolean))
theorem okX1_takeBack : OKM mX1_takeBack 1 := ⟨by decide +kernel, gi 475 _ (by decide +kernel) rfl, ⟨by decide +kernel, by decide +kernel⟩, by decide +kernel, gi 69 _ (by decide +kernel) rfl, by decide⟩
abbrev mX1_known : MD := (yX1_known, cX1_known, 1, (some .int))
theorem okX1_known : OKM mX1_known 0 := ⟨by decide +kernel, gi 481 _ (by decide +kernel) rfl, ⟨by decide +kernel, by decide +kernel⟩, by decide +kernel, gi 69 _ (by decide +kernel) rfl, by decide⟩
abbrev mX5_value : MD := (yX5_value, cX5_value, 2, (some .long))
theorem okX5_value : OKM mX5_value 1 := ⟨by decide +kernel, gi 485 _ (by decide +kernel) rfl, ⟨by decide +kernel, by decide +kernel⟩, by decide +kernel, gi 65 _ (by decide +kernel) rfl, by decide⟩
abbrev mX5_isTold : MD := (yX5_isTold, cX5_isTold, 2, (some .boolean))
theorem okX5_isTold : OKM mX5_isTold 1 := ⟨by decide +kernel, gi 489 _ (by decide +kernel) rfl, ⟨by decide +kernel, by decide +kernel⟩, by decide +kernel, gi 65 _ (by decide +kernel) rfl, by decide⟩
abbrev mX3_worth : MD := (yX3_worth, cX3_worth, 4, (some .long))
theorem okX3_worth : OKM mX3_worth 3 := ⟨by decide +kernel, gi 494 _ (by decide +kernel) rfl, ⟨by decide +kernel, by decide +kernel⟩, by decide +kernel, gi 70 _ (by decide +kernel) rfl, by decide⟩
abbrev mX3_walkWorth : MD := (yX3_walkWorth, cX3_walkWorth, 5, none)
theorem okX3_walkWorth : OKM mX3_walkWorth 3 := ⟨by decide +kernel, gi 499 _ (by decide +kernel) rfl, ⟨by decide +kernel, by decide +kernel⟩, by decide +kernel, gi 70 _ (by decide +kernel) rfl, by decide⟩
abbrev mX3_worthOf : MD := (yX3_worthOf, cX3_worthOf, 6, (some .long))
theorem okX3_worthOf : OKM mX3_worthOf 3 := ⟨by decide +kernel, gi 503 _ (by decide +kernel) rfl, ⟨by decide +kernel, by decide +kernel⟩, by decide +kernel, gi 70 _ (by decide +kernel) rfl, by decide⟩
abbrev mX3_at : MD := (yX3_at, cX3_at, 2, (some .long))
theorem okX3_at : OKM mX3_at 2 := ⟨by decide +kernel, gi 507 _ (by decide +kernel) rfl, ⟨by decide +kernel, by decide +kernel⟩, by decide +kernel, gi 70 _ (by decide +kernel) rfl, by decide⟩
abbrev mX3_power : MD := (yX3_power, cX3_power, 6, (some .long))
theorem okX3_power : OKM mX3_power 2 := ⟨by decide +kernel, gi 510 _ (by decide +kernel) rfl, ⟨by decide +kernel, by decide +kernel⟩, by decide +kernel, gi 70 _ (by decide +kernel) rfl, by decide⟩
abbrev mX5_slope : MD := (yX5_slope, cX5_slope, 3, (some .long))
theorem okX5_slope : OKM mX5_slope 2 := ⟨by decide +kernel, gi 515 _ (by decide +kernel) rfl, ⟨by decide +kernel, by decide +kernel⟩, by decide +kernel, gi 65 _ (by decide +kernel) rfl, by decide⟩
abbrev mX3_slopeBy : MD := (yX3_slopeBy, cX3_slopeBy, 3, (some .long))
theorem okX3_slopeBy : OKM mX3_slopeBy 2 := ⟨by decide +kernel, gi 519 _ (by decide +kernel) rfl, ⟨by decide +kernel, by decide +kernel⟩, by decide +kernel, gi 70 _ (by decide +kernel) rfl, by decide⟩
abbrev mX3_walkSlope : MD := (yX3_walkSlope, cX3_walkSlope, 5, none)
theorem okX3_walkSlope : OKM mX3_walkSlope 3 := ⟨by decide +kernel, gi 523 _ (by decide +kernel) rfl, ⟨by decide +kernel, by decide +kernel⟩, by decide +kernel, gi 70 _ (by decide +kernel) rfl, by decide⟩
abbrev mX3_slopeOf : MD := (yX3_slopeOf, cX3_slopeOf, 6, (some .long))
theorem okX3_slopeOf : OKM mX3_slopeOf 3 := ⟨by decide +kernel, gi 527 _ (by decide +kernel) rfl, ⟨by decide +kernel, by decide +kernel⟩, by decide +kernel, gi 70 _ (by decide +kernel) rfl, by decide⟩
abbrev mX5_bend : MD := (yX5_bend, cX5_bend, 4, (some .long))
theorem okX5_bend : OKM mX5_bend 3 := ⟨by decide +kernel, gi 531 _ (by decide +kernel) rfl, ⟨by decide +kernel, by decide +kernel⟩, by decide +kernel, gi 65 _ (by decide +kernel) rfl, by decide⟩
abbrev mX3_bendBy : MD := (yX3_bendBy, cX3_bendBy, 5, (some .long))
theorem okX3_bendBy : OKM mX3_bendBy 3 := ⟨by decide +kernel, gi 535 _ (by decide +kernel) rfl, ⟨by decide +kernel, by decide +kernel⟩, by decide +kernel, gi 70 _ (by decide +kernel) rfl, by decide⟩
abbrev mX3_walkBend : MD := (yX3_walkBend, cX3_walkBend, 3, none)
theorem okX3_walkBend : OKM mX3_walkBend 1 := ⟨by decide +kernel, gi 539 _ (by decide +kernel) rfl, ⟨by decide +kernel, by decide +kernel⟩, by decide +kernel, gi 70 _ (by decide +kernel) rfl, by decide⟩
abbrev mX3_bendOf : MD := (yX3_bendOf, cX3_bendOf, 4, (some .long))
theorem okX3_bendOf : OKM mX3_bendOf 1 := ⟨by decide +kernel, gi 543 _ (by decide +kernel) rfl, ⟨by decide +kernel, by decide +kernel⟩, by decide +kernel, gi 70 _ (by decide +kernel) rfl, by decide⟩
abbrev mX5_whole : MD := (yX5_whole, cX5_whole, 2, (some .long))
theorem okX5_whole : OKM mX5_whole 1 := ⟨by decide +kernel, gi 547 _ (by decide +kernel) rfl, ⟨by decide +kernel, by decide +kernel⟩, by decide +kernel, gi 65 _ (by decide +kernel) rfl, by decide⟩
abbrev mX5_remains : MD := (yX5_remains, cX5_remains, 3, (some .long))
theorem okX5_remains : OKM mX5_remains 2 := ⟨by decide +kernel, gi 551 _ (by decide +kernel) rfl, ⟨by decide +kernel, by decide +kernel⟩, by decide +kernel, gi 65 _ (by decide +kernel) rfl, by decide⟩
abbrev mX3_slopesInto : MD := (yX3_slopesInto, cX3_slopesInto, 5, none)
theorem okX3_slopesInto : OKM mX3_slopesInto 2 := ⟨by decide +kernel, gi 555 _ (by decide +kernel) rfl, ⟨by decide +kernel, by decide +kernel⟩, by decide +kernel, gi 70 _ (by decide +kernel) rfl, by decide⟩
abbrev mX5_product : MD := (yX5_product, cX5_product, 7, (some .long))
theorem okX5_product : OKM mX5_product 3 := ⟨by decide +kernel, gi 559 _ (by decide +kernel) rfl, ⟨by decide +kernel, by decide +kernel⟩, by decide +kernel, gi 65 _ (by decide +kernel) rfl, by decide⟩
abbrev mX5_part : MD := (yX5_part, cX5_part, 8, (some .long))
theorem okX5_part : OKM mX5_part 4 := ⟨by decide +kernel, gi 563 _ (by decide +kernel) rfl, ⟨by decide +kernel, by decide +kernel⟩, by decide +kernel, gi 65 _ (by decide +kernel) rfl, by decide⟩
abbrev mX5_together : MD := (yX5_together, cX5_together, 3, (some .long))
theorem okX5_together : OKM mX5_together 2 := ⟨by decide +kernel, gi 567 _ (by decide +kernel) rfl, ⟨by decide +kernel, by decide +kernel⟩, by decide +kernel, gi 65 _ (by decide +kernel) rfl, by decide⟩
abbrev mX5_share : MD := (yX5_share, cX5_share, 3, (some .long))
theorem okX5_share : OKM mX5_share 2 := ⟨by decide +kernel, gi 571 _ (by decide +kernel) rfl, ⟨by decide +kernel, by decide +kernel⟩, by decide +kernel, gi 65 _ (by decide +kernel) rfl, by decide⟩
abbrev mX5_left : MD := (yX5_left, cX5_left, 3, (some .long))
theorem okX5_left : OKM mX5_left 2 := ⟨by decide +kernel, gi 575 _ (by decide +kernel) rfl, ⟨by decide +kernel, by decide +kernel⟩, by decide +kernel, gi 65 _ (by decide +kernel) rfl, by decide⟩
abbrev mX5_fewest : MD := (yX5_fewest, cX5_fewest, 7, (some .int))
theorem okX5_fewest : OKM mX5_fewest 2 := ⟨by decide +kernel, gi 579 _ (by decide +kernel) rfl, ⟨by decide +kernel, by decide +kernel⟩, by decide +kernel, gi 65 _ (by decide +kernel) rfl, by decide⟩
abbrev mJ6_bitCount_0f7a4 : MD := (yJ6_bitCount_0f7a4, cJ6_bitCount_0f7a4, 1, (some .int))
theorem okJ6_bitCount_0f7a4 : OKM mJ6_bitCount_0f7a4 1 := ⟨by decide +kernel, gi 582 _ (by decide +kernel) rfl, ⟨by decide +kernel, by decide +kernel⟩, by decide +kernel, gi 72 _ (by decide +kernel) rfl, by decide⟩
abbrev mX5_takes : MD := (yX5_takes, cX5_takes, 3, (some .long))
theorem okX5_takes : OKM mX5_takes 2 := ⟨by decide +kernel, gi 589 _ (by decide +kernel) rfl, ⟨by decide +kernel, by decide +kernel⟩, by decide +kernel, gi 65 _ (by decide +kernel) rfl, by decide⟩
abbrev mX5_taken : MD := (yX5_taken, cX5_taken, 2, (some .long))
theorem okX5_taken : OKM mX5_taken 1 := ⟨by decide +kernel, gi 593 _ (by decide +kernel) rfl, ⟨by decide +kernel, by decide +kernel⟩, by decide +kernel, gi 65 _ (by decide +kernel) rfl, by decide⟩
abbrev mX5_first : MD := (yX5_first, cX5_first, 9, (some .int))
theorem okX5_first : OKM mX5_first 2 := ⟨by decide +kernel, gi 597 _ (by decide +kernel) rfl, ⟨by decide +kernel, by decide +kernel⟩, by decide +kernel, gi 65 _ (by decide +kernel) rfl, by decide⟩
abbrev mX5_off : MD := (yX5_off, cX5_off, 8, (some .long))
theorem okX5_off : OKM mX5_off 3 := ⟨by decide +kernel, gi 601 _ (by decide +kernel) rfl, ⟨by decide +kernel, by decide +kernel⟩, by decide +kernel, gi 65 _ (by decide +kernel) rfl, by decide⟩
abbrev mX5_isMove : MD := (yX5_isMove, cX5_isMove, 1, (some .boolean))
theorem okX5_isMove : OKM mX5_isMove 1 := ⟨by decide +kernel, gi 604 _ (by decide +kernel) rfl, ⟨by decide +kernel, by decide +kernel⟩, by decide +kernel, gi 65 _ (by decide +kernel) rfl, by decide⟩
abbrev mX5_sees : MD := (yX5_sees, cX5_sees, 4, (some .int))
theorem okX5_sees : OKM mX5_sees 2 := ⟨by decide +kernel, gi 608 _ (by decide +kernel) rfl, ⟨by decide +kernel, by decide +kernel⟩, by decide +kernel, gi 65 _ (by decide +kernel) rfl, by decide⟩
abbrev mX5_forget : MD := (yX5_forget, cX5_forget, 2, (some .int))
theorem okX5_forget : OKM mX5_forget 0 := ⟨by decide +kernel, gi 612 _ (by decide +kernel) rfl, ⟨by decide +kernel, by decide +kernel⟩, by decide +kernel, gi 65 _ (by decide +kernel) rfl, by decide⟩
abbrev mX5_unseen : MD := (yX5_unseen, cX5_unseen, 4, (some .int))
theorem okX5_unseen : OKM mX5_unseen 1 := ⟨by decide +kernel, gi 616 _ (by decide +kernel) rfl, ⟨by decide +kernel, by decide +kernel⟩, by decide +kernel, gi 65 _ (by decide +kernel) rfl, by decide⟩
abbrev mX5_explains : MD := (yX5_explains, cX5_explains, 4, (some .boolean))
theorem okX5_explains : OKM mX5_explains 2 := ⟨by decide +kernel, gi 620 _ (by decide +kernel) rfl, ⟨by decide +kernel, by decide +kernel⟩, by decide +kernel, gi 65 _ (by decide +kernel) rfl, by decide⟩
abbrev mX5_keep : MD := (yX5_keep, cX5_keep, 2, (some .int))
theorem okX5_keep : OKM mX5_keep 1 := ⟨by decide +kernel, gi 624 _ (by decide +kernel) rfl, ⟨by decide +kernel, by decide +kernel⟩, by decide +kernel, gi 65 _ (by decide +kernel) rfl, by decide⟩
abbrev mX5_back : MD := (yX5_back, cX5_back, 2, (some .int))
theorem okX5_back : OKM mX5_back 1 := ⟨by decide +kernel, gi 628 _ (by decide +kernel) rfl, ⟨by decide +kernel, by decide +kernel⟩, by decide +kernel, gi 65 _ (by decide +kernel) rfl, by decide⟩
abbrev mX5_formula : MD := (yX5_formula, cX5_formula, 3, (some .int))
theorem okX5_formula : OKM mX5_formula 2 := ⟨by decide +kernel, gi 632 _ (by decide +kernel) rfl, ⟨by decide +kernel, by decide +kernel⟩, by decide +kernel, gi 65 _ (by decide +kernel) rfl, by decide⟩
abbrev mX4_start : MD := (yX4_start, cX4_start, 2, (some .int))
theorem okX4_start : OKM mX4_start 1 := ⟨by decide +kernel, gi 637 _ (by decide +kernel) rfl, ⟨by decide +kernel, by decide +kernel⟩, by decide +kernel, gi 67 _ (by decide +kernel) rfl, by decide⟩
abbrev mX5_count : MD := (yX5_count, cX5_count, 2, (some .int))
theorem okX5_count : OKM mX5_count 1 := ⟨by decide +kernel, gi 644 _ (by decide +kernel) rfl, ⟨by decide +kernel, by decide +kernel⟩, by decide +kernel, gi 65 _ (by decide +kernel) rfl, by decide⟩
abbrev mX6_init : MD := (yX6_init, cX6_init, 1, none)
theorem okX6_init : OKM mX6_init 0 := ⟨by decide +kernel, gi 649 _ (by decide +kernel) rfl, ⟨by decide +kernel, by decide +kernel⟩, by decide +kernel, gi 71 _ (by decide +kernel) rfl, by decide⟩
abbrev mX6_begins : MD := (yX6_begins, cX6_begins, 2, none)
theorem okX6_begins : OKM mX6_begins 0 := ⟨by decide +kernel, gi 654 _ (by decide +kernel) rfl, ⟨by decide +kernel, by decide +kernel⟩, by decide +kernel, gi 71 _ (by decide +kernel) rfl, by decide⟩
abbrev mX6_settles : MD := (yX6_settles, cX6_settles, 2, none)
theorem okX6_settles : OKM mX6_settles 0 := ⟨by decide +kernel, gi 658 _ (by decide +kernel) rfl, ⟨by decide +kernel, by decide +kernel⟩, by decide +kernel, gi 71 _ (by decide +kernel) rfl, by decide⟩
abbrev mX6_type : MD := (yX6_type, cX6_type, 2, (some .int))
theorem okX6_type : OKM mX6_type 1 := ⟨by decide +kernel, gi 784 _ (by decide +kernel) rfl, ⟨by decide +kernel, by decide +kernel⟩, by decide +kernel, gi 71 _ (by decide +kernel) rfl, by decide⟩
abbrev mX6_in : MD := (yX6_in, cX6_in, 3, (some .boolean))
theorem okX6_in : OKM mX6_in 3 := ⟨by decide +kernel, gi 787 _ (by decide +kernel) rfl, ⟨by decide +kernel, by decide +kernel⟩, by decide +kernel, gi 71 _ (by decide +kernel) rfl, by decide⟩
abbrev mX6_clear : MD := (yX6_clear, cX6_clear, 2, (some .int))
theorem okX6_clear : OKM mX6_clear 0 := ⟨by decide +kernel, gi 791 _ (by decide +kernel) rfl, ⟨by decide +kernel, by decide +kernel⟩, by decide +kernel, gi 71 _ (by decide +kernel) rfl, by decide⟩
abbrev mX6_desk : MD := (yX6_desk, cX6_desk, 3, (some .int))
theorem okX6_desk : OKM mX6_desk 0 := ⟨by decide +kernel, gi 795 _ (by decide +kernel) rfl, ⟨by decide +kernel, by decide +kernel⟩, by decide +kernel, gi 71 _ (by decide +kernel) rfl, by decide⟩
abbrev mX6_advances : MD := (yX6_advances, cX6_advances, 2, none)
theorem okX6_advances : OKM mX6_advances 0 := ⟨by decide +kernel, gi 799 _ (by decide +kernel) rfl, ⟨by decide +kernel, by decide +kernel⟩, by decide +kernel, gi 71 _ (by decide +kernel) rfl, by decide⟩
abbrev mX6_letterAt : MD := (yX6_letterAt, cX6_letterAt, 2, (some .int))
theorem okX6_letterAt : OKM mX6_letterAt 1 := ⟨by decide +kernel, gi 803 _ (by decide +kernel) rfl, ⟨by decide +kernel, by decide +kernel⟩, by decide +kernel, gi 71 _ (by decide +kernel) rfl, by decide⟩
abbrev mX6_isSign : MD := (yX6_isSign, cX6_isSign, 1, (some .boolean))
theorem okX6_isSign : OKM mX6_isSign 1 := ⟨by decide +kernel, gi 806 _ (by decide +kernel) rfl, ⟨by decide +kernel, by decide +kernel⟩, by decide +kernel, gi 71 _ (by decide +kernel) rfl, by decide⟩
abbrev mX6_isWell : MD := (yX6_isWell, cX6_isWell, 1, (some .boolean))
theorem okX6_isWell : OKM mX6_isWell 0 := ⟨by decide +kernel, gi 810 _ (by decide +kernel) rfl, ⟨by decide +kernel, by decide +kernel⟩, by decide +kernel, gi 71 _ (by decide +kernel) rfl, by decide⟩
abbrev mX6_isThis : MD := (yX6_isThis, cX6_isThis, 2, (some .boolean))
theorem okX6_isThis : OKM mX6_isThis 1 := ⟨by decide +kernel, gi 814 _ (by decide +kernel) rfl, ⟨by decide +kernel, by decide +kernel⟩, by decide +kernel, gi 71 _ (by decide +kernel) rfl, by decide⟩
abbrev mX6_takes : MD := (yX6_takes, cX6_takes, 3, (some .int))
theorem okX6_takes : OKM mX6_takes 1 := ⟨by decide +kernel, gi 818 _ (by decide +kernel) rfl, ⟨by decide +kernel, by decide +kernel⟩, by decide +kernel, gi 71 _ (by decide +kernel) rfl, by decide⟩
abbrev mX6_readsItem : MD := (yX6_readsItem, cX6_readsItem, 5, none)
theorem okX6_readsItem : OKM mX6_readsItem 1 := ⟨by decide +kernel, gi 822 _ (by decide +kernel) rfl, ⟨by decide +kernel, by decide +kernel⟩, by decide +kernel, gi 71 _ (by decide +kernel) rfl, by decide⟩
abbrev mX6_readsSum : MD := (yX6_readsSum, cX6_readsSum, 4, none)
theorem okX6_readsSum : OKM mX6_readsSum 0 := ⟨by decide +kernel, gi 826 _ (by decide +kernel) rfl, ⟨by decide +kernel, by decide +kernel⟩, by decide +kernel, gi 71 _ (by decide +kernel) rfl, by decide⟩
abbrev mX6_readsPart : MD := (yX6_readsPart, cX6_readsPart, 2, (some .boolean))
theorem okX6_readsPart : OKM mX6_readsPart 0 := ⟨by decide +kernel, gi 830 _ (by decide +kernel) rfl, ⟨by decide +kernel, by decide +kernel⟩, by decide +kernel, gi 71 _ (by decide +kernel) rfl, by decide⟩
abbrev mX6_waits : MD := (yX6_waits, cX6_waits, 2, none)
theorem okX6_waits : OKM mX6_waits 1 := ⟨by decide +kernel, gi 834 _ (by decide +kernel) rfl, ⟨by decide +kernel, by decide +kernel⟩, by decide +kernel, gi 71 _ (by decide +kernel) rfl, by decide⟩
abbrev mX6_counts : MD := (yX6_counts, cX6_counts, 1, (some .boolean))
theorem okX6_counts : OKM mX6_counts 0 := ⟨by decide +kernel, gi 838 _ (by decide +kernel) rfl, ⟨by decide +kernel, by decide +kernel⟩, by decide +kernel, gi 71 _ (by decide +kernel) rfl, by decide⟩
abbrev mX6_isNumber : MD := (yX6_isNumber, cX6_isNumber, 3, (some .boolean))
theorem okX6_isNumber : OKM mX6_isNumber 2 := ⟨by decide +kernel, gi 842 _ (by decide +kernel) rfl, ⟨by decide +kernel, by decide +kernel⟩, by decide +kernel, gi 71 _ (by decide +kernel) rfl, by decide⟩
abbrev mX6_makes : MD := (yX6_makes, cX6_makes, 7, none)
theorem okX6_makes : OKM mX6_makes 4 := ⟨by decide +kernel, gi 846 _ (by decide +kernel) rfl, ⟨by decide +kernel, by decide +kernel⟩, by decide +kernel, gi 71 _ (by decide +kernel) rfl, by decide⟩
abbrev mX6_isSourceSign : MD := (yX6_isSourceSign, cX6_isSourceSign, 1, (some .boolean))
theorem okX6_isSourceSign : OKM mX6_isSourceSign 0 := ⟨by decide +kernel, gi 850 _ (by decide +kernel) rfl, ⟨by decide +kernel, by decide +kernel⟩, by decide +kernel, gi 71 _ (by decide +kernel) rfl, by decide⟩
abbrev mX6_partDone : MD := (yX6_partDone, cX6_partDone, 2, none)
theorem okX6_partDone : OKM mX6_partDone 0 := ⟨by decide +kernel, gi 854 _ (by decide +kernel) rfl, ⟨by decide +kernel, by decide +kernel⟩, by decide +kernel, gi 71 _ (by decide +kernel) rfl, by decide⟩
abbrev mX6_lastWaiting : MD := (yX6_lastWaiting, cX6_lastWaiting, 1, (some .int))
theorem okX6_lastWaiting : OKM mX6_lastWaiting 0 := ⟨by decide +kernel, gi 858 _ (by decide +kernel) rfl, ⟨by decide +kernel, by decide +kernel⟩, by decide +kernel, gi 71 _ (by decide +kernel) rfl, by decide⟩
abbrev mX6_doesLast : MD := (yX6_doesLast, cX6_doesLast, 2, none)
theorem okX6_doesLast : OKM mX6_doesLast 0 := ⟨by decide +kernel, gi 862 _ (by decide +kernel) rfl, ⟨by decide +kernel, by decide +kernel⟩, by decide +kernel, gi 71 _ (by decide +kernel) rfl, by decide⟩
abbrev mX6_readsBehind : MD := (yX6_readsBehind, cX6_readsBehind, 1, (some .boolean))
theorem okX6_readsBehind : OKM mX6_readsBehind 0 := ⟨by decide +kernel, gi 866 _ (by decide +kernel) rfl, ⟨by decide +kernel, by decide +kernel⟩, by decide +kernel, gi 71 _ (by decide +kernel) rfl, by decide⟩
abbrev mX6_signed : MD := (yX6_signed, cX6_signed, 3, (some .int))
theorem okX6_signed : OKM mX6_signed 0 := ⟨by decide +kernel, gi 870 _ (by decide +kernel) rfl, ⟨by decide +kernel, by decide +kernel⟩, by decide +kernel, gi 71 _ (by decide +kernel) rfl, by decide⟩
abbrev mX6_source : MD := (yX6_source, cX6_source, 3, (some .long))
theorem okX6_source : OKM mX6_source 2 := ⟨by decide +kernel, gi 874 _ (by decide +kernel) rfl, ⟨by decide +kernel, by decide +kernel⟩, by decide +kernel, gi 71 _ (by decide +kernel) rfl, by decide⟩
abbrev mX6_isSource : MD := (yX6_isSource, cX6_isSource, 1, (some .boolean))
theorem okX6_isSource : OKM mX6_isSource 1 := ⟨by decide +kernel, gi 877 _ (by decide +kernel) rfl, ⟨by decide +kernel, by decide +kernel⟩, by decide +kernel, gi 71 _ (by decide +kernel) rfl, by decide⟩
abbrev mX6_joint : MD := (yX6_joint, cX6_joint, 3, (some .long))
theorem okX6_joint : OKM mX6_joint 2 := ⟨by decide +kernel, gi 882 _ (by decide +kernel) rfl, ⟨by decide +kernel, by decide +kernel⟩, by decide +kernel, gi 71 _ (by decide +kernel) rfl, by decide⟩
abbrev mX6_jointOf : MD := (yX6_jointOf, cX6_jointOf, 3, (some .int))
theorem okX6_jointOf : OKM mX6_jointOf 2 := ⟨by decide +kernel, gi 886 _ (by decide +kernel) rfl, ⟨by decide +kernel, by decide +kernel⟩, by decide +kernel, gi 71 _ (by decide +kernel) rfl, by decide⟩
abbrev mX6_values : MD := (yX6_values, cX6_values, 3, (some .int))
theorem okX6_values : OKM mX6_values 2 := ⟨by decide +kernel, gi 890 _ (by decide +kernel) rfl, ⟨by decide +kernel, by decide +kernel⟩, by decide +kernel, gi 71 _ (by decide +kernel) rfl, by decide⟩
abbrev mX6_notes : MD := (yX6_notes, cX6_notes, 2, none)
theorem okX6_notes : OKM mX6_notes 0 := ⟨by decide +kernel, gi 894 _ (by decide +kernel) rfl, ⟨by decide +kernel, by decide +kernel⟩, by decide +kernel, gi 71 _ (by decide +kernel) rfl, by decide⟩
abbrev mX6_spreads : MD := (yX6_spreads, cX6_spreads, 4, (some .int))
theorem okX6_spreads : OKM mX6_spreads 2 := ⟨by decide +kernel, gi 898 _ (by decide +kernel) rfl, ⟨by decide +kernel, by decide +kernel⟩, by decide +kernel, gi 71 _ (by decide +kernel) rfl, by decide⟩
abbrev mX6_joints : MD := (yX6_joints, cX6_joints, 4, (some .int))
theorem okX6_joints : OKM mX6_joints 3 := ⟨by decide +kernel, gi 902 _ (by decide +kernel) rfl, ⟨by decide +kernel, by decide +kernel⟩, by decide +kernel, gi 71 _ (by decide +kernel) rfl, by decide⟩
abbrev mX6_undo : MD := (yX6_undo, cX6_undo, 2, (some .int))
theorem okX6_undo : OKM mX6_undo 0 := ⟨by decide +kernel, gi 906 _ (by decide +kernel) rfl, ⟨by decide +kernel, by decide +kernel⟩, by decide +kernel, gi 71 _ (by decide +kernel) rfl, by decide⟩
abbrev mX6_value : MD := (yX6_value, cX6_value, 2, (some .long))
theorem okX6_value : OKM mX6_value 1 := ⟨by decide +kernel, gi 910 _ (by decide +kernel) rfl, ⟨by decide +kernel, by decide +kernel⟩, by decide +kernel, gi 71 _ (by decide +kernel) rfl, by decide⟩
abbrev mX6_isFormula : MD := (yX6_isFormula, cX6_isFormula, 2, (some .boolean))
theorem okX6_isFormula : OKM mX6_isFormula 1 := ⟨by decide +kernel, gi 914 _ (by decide +kernel) rfl, ⟨by decide +kernel, by decide +kernel⟩, by decide +kernel, gi 71 _ (by decide +kernel) rfl, by decide⟩
abbrev mX6_goes : MD := (yX6_goes, cX6_goes, 4, none)
theorem okX6_goes : OKM mX6_goes 0 := ⟨by decide +kernel, gi 918 _ (by decide +kernel) rfl, ⟨by decide +kernel, by decide +kernel⟩, by decide +kernel, gi 71 _ (by decide +kernel) rfl, by decide⟩
abbrev mX6_goesLeaf : MD := (yX6_goesLeaf, cX6_goesLeaf, 3, none)
theorem okX6_goesLeaf : OKM mX6_goesLeaf 1 := ⟨by decide +kernel, gi 922 _ (by decide +kernel) rfl, ⟨by decide +kernel, by decide +kernel⟩, by decide +kernel, gi 71 _ (by decide +kernel) rfl, by decide⟩
abbrev mX6_rootOf : MD := (yX6_rootOf, cX6_rootOf, 2, (some .int))
theorem okX6_rootOf : OKM mX6_rootOf 1 := ⟨by decide +kernel, gi 926 _ (by decide +kernel) rfl, ⟨by decide +kernel, by decide +kernel⟩, by decide +kernel, gi 71 _ (by decide +kernel) rfl, by decide⟩
abbrev mX6_copiesNode : MD := (yX6_copiesNode, cX6_copiesNode, 4, none)
theorem okX6_copiesNode : OKM mX6_copiesNode 2 := ⟨by decide +kernel, gi 930 _ (by decide +kernel) rfl, ⟨by decide +kernel, by decide +kernel⟩, by decide +kernel, gi 71 _ (by decide +kernel) rfl, by decide⟩
abbrev mX6_goesOne : MD := (yX6_goesOne, cX6_goesOne, 12, none)
theorem okX6_goesOne : OKM mX6_goesOne 2 := ⟨by decide +kernel, gi 934 _ (by decide +kernel) rfl, ⟨by decide +kernel, by decide +kernel⟩, by decide +kernel, gi 71 _ (by decide +kernel) rfl, by decide⟩
abbrev mX6_power : MD := (yX6_power, cX6_power, 6, (some .long))
theorem okX6_power : OKM mX6_power 2 := ⟨by decide +kernel, gi 938 _ (by decide +kernel) rfl, ⟨by decide +kernel, by decide +kernel⟩, by decide +kernel, gi 71 _ (by decide +kernel) rfl, by decide⟩
abbrev mX6_goesTwo : MD := (yX6_goesTwo, cX6_goesTwo, 12, none)
theorem okX6_goesTwo : OKM mX6_goesTwo 3 := ⟨by decide +kernel, gi 942 _ (by decide +kernel) rfl, ⟨by decide +kernel, by decide +kernel⟩, by decide +kernel, gi 71 _ (by decide +kernel) rfl, by decide⟩
abbrev mX6_slope : MD := (yX6_slope, cX6_slope, 3, (some .long))
theorem okX6_slope : OKM mX6_slope 2 := ⟨by decide +kernel, gi 946 _ (by decide +kernel) rfl, ⟨by decide +kernel, by decide +kernel⟩, by decide +kernel, gi 71 _ (by decide +kernel) rfl, by decide⟩
abbrev mX6_slopeOf : MD := (yX6_slopeOf, cX6_slopeOf, 3, (some .long))
theorem okX6_slopeOf : OKM mX6_slopeOf 2 := ⟨by decide +kernel, gi 950 _ (by decide +kernel) rfl, ⟨by decide +kernel, by decide +kernel⟩, by decide +kernel, gi 71 _ (by decide +kernel) rfl, by decide⟩
abbrev mX6_bend : MD := (yX6_bend, cX6_bend, 4, (some .long))
theorem okX6_bend : OKM mX6_bend 3 := ⟨by decide +kernel, gi 954 _ (by decide +kernel) rfl, ⟨by decide +kernel, by decide +kernel⟩, by decide +kernel, gi 71 _ (by decide +kernel) rfl, by decide⟩
abbrev mX6_whole : MD := (yX6_whole, cX6_whole, 2, (some .long))
theorem okX6_whole : OKM mX6_whole 1 := ⟨by decide +kernel, gi 958 _ (by decide +kernel) rfl, ⟨by decide +kernel, by decide +kernel⟩, by decide +kernel, gi 71 _ (by decide +kernel) rfl, by decide⟩
abbrev mX6_togetherOf : MD := (yX6_togetherOf, cX6_togetherOf, 8, (some .long))
theorem okX6_togetherOf : OKM mX6_togetherOf 3 := ⟨by decide +kernel, gi 962 _ (by decide +kernel) rfl, ⟨by decide +kernel, by decide +kernel⟩, by decide +kernel, gi 71 _ (by decide +kernel) rfl, by decide⟩
abbrev mX6_has : MD := (yX6_has, cX6_has, 2, (some .boolean))
theorem okX6_has : OKM mX6_has 2 := ⟨by decide +kernel, gi 965 _ (by decide +kernel) rfl, ⟨by decide +kernel, by decide +kernel⟩, by decide +kernel, gi 71 _ (by decide +kernel) rfl, by decide⟩
abbrev mX6_together : MD := (yX6_together, cX6_together, 3, (some .long))
theorem okX6_together : OKM mX6_together 2 := ⟨by decide +kernel, gi 969 _ (by decide +kernel) rfl, ⟨by decide +kernel, by decide +kernel⟩, by decide +kernel, gi 71 _ (by decide +kernel) rfl, by decide⟩
abbrev mX6_share : MD := (yX6_share, cX6_share, 3, (some .long))
theorem okX6_share : OKM mX6_share 2 := ⟨by decide +kernel, gi 973 _ (by decide +kernel) rfl, ⟨by decide +kernel, by decide +kernel⟩, by decide +kernel, gi 71 _ (by decide +kernel) rfl, by decide⟩
abbrev mX6_shareOf : MD := (yX6_shareOf, cX6_shareOf, 6, (some .long))
theorem okX6_shareOf : OKM mX6_shareOf 2 := ⟨by decide +kernel, gi 977 _ (by decide +kernel) rfl, ⟨by decide +kernel, by decide +kernel⟩, by decide +kernel, gi 71 _ (by decide +kernel) rfl, by decide⟩
abbrev mX6_left : MD := (yX6_left, cX6_left, 3, (some .long))
theorem okX6_left : OKM mX6_left 2 := ⟨by decide +kernel, gi 981 _ (by decide +kernel) rfl, ⟨by decide +kernel, by decide +kernel⟩, by decide +kernel, gi 71 _ (by decide +kernel) rfl, by decide⟩
abbrev mX6_fewest : MD := (yX6_fewest, cX6_fewest, 7, (some .int))
theorem okX6_fewest : OKM mX6_fewest 2 := ⟨by decide +kernel, gi 985 _ (by decide +kernel) rfl, ⟨by decide +kernel, by decide +kernel⟩, by decide +kernel, gi 71 _ (by decide +kernel) rfl, by decide⟩
abbrev mX6_ones : MD := (yX6_ones, cX6_ones, 3, (some .int))
theorem okX6_ones : OKM mX6_ones 1 := ⟨by decide +kernel, gi 988 _ (by decide +kernel) rfl, ⟨by decide +kernel, by decide +kernel⟩, by decide +kernel, gi 71 _ (by decide +kernel) rfl, by decide⟩
abbrev mX6_takes_ : MD := (yX6_takes_, cX6_takes_, 3, (some .long))
theorem okX6_takes_ : OKM mX6_takes_ 2 := ⟨by decide +kernel, gi 992 _ (by decide +kernel) rfl, ⟨by decide +kernel, by decide +kernel⟩, by decide +kernel, gi 71 _ (by decide +kernel) rfl, by decide⟩
abbrev mX6_takesOf : MD := (yX6_takesOf, cX6_takesOf, 3, (some .long))
theorem okX6_takesOf : OKM mX6_takesOf 2 := ⟨by decide +kernel, gi 996 _ (by decide +kernel) rfl, ⟨by decide +kernel, by decide +kernel⟩, by decide +kernel, gi 71 _ (by decide +kernel) rfl, by decide⟩
abbrev mX6_first : MD := (yX6_first, cX6_first, 9, (some .int))
theorem okX6_first : OKM mX6_first 2 := ⟨by decide +kernel, gi 1000 _ (by decide +kernel) rfl, ⟨by decide +kernel, by decide +kernel⟩, by decide +kernel, gi 71 _ (by decide +kernel) rfl, by decide⟩
abbrev mX6_off : MD := (yX6_off, cX6_off, 6, (some .long))
theorem okX6_off : OKM mX6_off 3 := ⟨by decide +kernel, gi 1004 _ (by decide +kernel) rfl, ⟨by decide +kernel, by decide +kernel⟩, by decide +kernel, gi 71 _ (by decide +kernel) rfl, by decide⟩
abbrev mX6_valueIf : MD := (yX6_valueIf, cX6_valueIf, 4, (some .long))
theorem okX6_valueIf : OKM mX6_valueIf 3 := ⟨by decide +kernel, gi 1008 _ (by decide +kernel) rfl, ⟨by decide +kernel, by decide +kernel⟩, by decide +kernel, gi 71 _ (by decide +kernel) rfl, by decide⟩
abbrev mX6_sees : MD := (yX6_sees, cX6_sees, 4, (some .int))
theorem okX6_sees : OKM mX6_sees 2 := ⟨by decide +kernel, gi 1012 _ (by decide +kernel) rfl, ⟨by decide +kernel, by decide +kernel⟩, by decide +kernel, gi 71 _ (by decide +kernel) rfl, by decide⟩
abbrev mX6_forget : MD := (yX6_forget, cX6_forget, 2, (some .int))
theorem okX6_forget : OKM mX6_forget 0 := ⟨by decide +kernel, gi 1016 _ (by decide +kernel) rfl, ⟨by decide +kernel, by decide +kernel⟩, by decide +kernel, gi 71 _ (by decide +kernel) rfl, by decide⟩
abbrev mX6_unseen : MD := (yX6_unseen, cX6_unseen, 6, (some .int))
theorem okX6_unseen : OKM mX6_unseen 1 := ⟨by decide +kernel, gi 1020 _ (by decide +kernel) rfl, ⟨by decide +kernel, by decide +kernel⟩, by decide +kernel, gi 71 _ (by decide +kernel) rfl, by decide⟩
abbrev mX6_keep : MD := (yX6_keep, cX6_keep, 3, (some .int))
theorem okX6_keep : OKM mX6_keep 1 := ⟨by decide +kernel, gi 1024 _ (by decide +kernel) rfl, ⟨by decide +kernel, by decide +kernel⟩, by decide +kernel, gi 71 _ (by decide +kernel) rfl, by decide⟩
abbrev mX6_back : MD := (yX6_back, cX6_back, 3, (some .int))
theorem okX6_back : OKM mX6_back 1 := ⟨by decide +kernel, gi 1028 _ (by decide +kernel) rfl, ⟨by decide +kernel, by decide +kernel⟩, by decide +kernel, gi 71 _ (by decide +kernel) rfl, by decide⟩
abbrev mX6_formula : MD := (yX6_formula, cX6_formula, 5, (some .int))
theorem okX6_formula : OKM mX6_formula 2 := ⟨by decide +kernel, gi 1032 _ (by decide +kernel) rfl, ⟨by decide +kernel, by decide +kernel⟩, by decide +kernel, gi 71 _ (by decide +kernel) rfl, by decide⟩
abbrev mX6_count : MD := (yX6_count, cX6_count, 2, (some .int))
theorem okX6_count : OKM mX6_count 1 := ⟨by decide +kernel, gi 1036 _ (by decide +kernel) rfl, ⟨by decide +kernel, by decide +kernel⟩, by decide +kernel, gi 71 _ (by decide +kernel) rfl, by decide⟩
theorem fX0_9 : FLK RX0 9 0 0 := ⟨clk0, by decide, fun q hq => by obtain rfl : q = (RX0, TX0, 2) := (Option.some.inj hq).symm; exact ⟨by decide, Or.inl (gi 87 _ (by decide +kernel) rfl)⟩⟩
theorem gX0_9 : ∀ q : vw_C, cls8[0]? = some q → Cond.fieldLink RX0 9 (q.2.1 0).1 (q.2.1 0).2.1 (q.2.1 0).2.2.1 ∈ gw := fun q hq => by obtain rfl : q = (RX0, TX0, 2) := (Option.some.inj hq).symm; exact gi 87 _ (by decide +kernel) rfl
theorem fX0_15 : FLK RX0 15 0 1 := ⟨clk0, by decide, fun q hq => by obtain rfl : q = (RX0, TX0, 2) := (Option.some.inj hq).symm; exact ⟨by decide, Or.inl (gi 88 _ (by decide +kernel) rfl)⟩⟩
theorem gX0_15 : ∀ q : vw_C, cls8[0]? = some q → Cond.fieldLink RX0 15 (q.2.1 1).1 (q.2.1 1).2.1 (q.2.1 1).2.2.1 ∈ gw := fun q hq => by obtain rfl : q = (RX0, TX0, 2) := (Option.some.inj hq).symm; exact gi 88 _ (by decide +kernel) rfl
theorem fX4_9 : FLK RX4 9 4 0 := ⟨clk4, by decide, fun q hq => by obtain rfl : q = (RX4, TX4, 8) := (Option.some.inj hq).symm; exact ⟨by decide, Or.inl (gi 101 _ (by decide +kernel) rfl)⟩⟩
theorem gX4_9 : ∀ q : vw_C, cls8[4]? = some q → Cond.fieldLink RX4 9 (q.2.1 0).1 (q.2.1 0).2.1 (q.2.1 0).2.2.1 ∈ gw := fun q hq => by obtain rfl : q = (RX4, TX4, 8) := (Option.some.inj hq).symm; exact gi 101 _ (by decide +kernel) rfl
theorem fX3_68 : FLK RX3 68 4 0 := ⟨clk4, by decide, fun q hq => by obtain rfl : q = (RX4, TX4, 8) := (Option.some.inj hq).symm; exact ⟨by decide, Or.inr ⟨"SpreadDesk", by decide +kernel⟩⟩⟩
theorem fX4_15 : FLK RX4 15 4 1 := ⟨clk4, by decide, fun q hq => by obtain rfl : q = (RX4, TX4, 8) := (Option.some.inj hq).symm; exact ⟨by decide, Or.inl (gi 103 _ (by decide +kernel) rfl)⟩⟩
theorem gX4_15 : ∀ q : vw_C, cls8[4]? = some q → Cond.fieldLink RX4 15 (q.2.1 1).1 (q.2.1 1).2.1 (q.2.1 1).2.2.1 ∈ gw := fun q hq => by obtain rfl : q = (RX4, TX4, 8) := (Option.some.inj hq).symm; exact gi 103 _ (by decide +kernel) rfl
theorem fX3_61 : FLK RX3 61 4 1 := ⟨clk4, by decide, fun q hq => by obtain rfl : q = (RX4, TX4, 8) := (Option.some.inj hq).symm; exact ⟨by decide, Or.inr ⟨"SpreadDesk", by decide +kernel⟩⟩⟩
theorem fX4_18 : FLK RX4 18 4 2 := ⟨clk4, by decide, fun q hq => by obtain rfl : q = (RX4, TX4, 8) := (Option.some.inj hq).symm; exact ⟨by decide, Or.inl (gi 105 _ (by decide +kernel) rfl)⟩⟩
theorem gX4_18 : ∀ q : vw_C, cls8[4]? = some q → Cond.fieldLink RX4 18 (q.2.1 2).1 (q.2.1 2).2.1 (q.2.1 2).2.2.1 ∈ gw := fun q hq => by obtain rfl : q = (RX4, TX4, 8) := (Option.some.inj hq).symm; exact gi 105 _ (by decide +kernel) rfl
theorem fX3_65 : FLK RX3 65 4 2 := ⟨clk4, by decide, fun q hq => by obtain rfl : q = (RX4, TX4, 8) := (Option.some.inj hq).symm; exact ⟨by decide, Or.inr ⟨"SpreadDesk", by decide +kernel⟩⟩⟩
theorem fX4_21 : FLK RX4 21 4 3 := ⟨clk4, by decide, fun q hq => by obtain rfl : q = (RX4, TX4, 8) := (Option.some.inj hq).symm; exact ⟨by decide, Or.inl (gi 107 _ (by decide +kernel) rfl)⟩⟩
theorem gX4_21 : ∀ q : vw_C, cls8[4]? = some q → Cond.fieldLink RX4 21 (q.2.1 3).1 (q.2.1 3).2.1 (q.2.1 3).2.2.1 ∈ gw := fun q hq => by obtain rfl : q = (RX4, TX4, 8) := (Option.some.inj hq).symm; exact gi 107 _ (by decide +kernel) rfl
theorem fX4_24 : FLK RX4 24 4 4 := ⟨clk4, by decide, fun q hq => by obtain rfl : q = (RX4, TX4, 8) := (Option.some.inj hq).symm; exact ⟨by decide, Or.inl (gi 108 _ (by decide +kernel) rfl)⟩⟩
theorem gX4_24 : ∀ q : vw_C, cls8[4]? = some q → Cond.fieldLink RX4 24 (q.2.1 4).1 (q.2.1 4).2.1 (q.2.1 4).2.2.1 ∈ gw := fun q hq => by obtain rfl : q = (RX4, TX4, 8) := (Option.some.inj hq).symm; exact gi 108 _ (by decide +kernel) rfl
theorem fX4_27 : FLK RX4 27 4 5 := ⟨clk4, by decide, fun q hq => by obtain rfl : q = (RX4, TX4, 8) := (Option.some.inj hq).symm; exact ⟨by decide, Or.inl (gi 109 _ (by decide +kernel) rfl)⟩⟩
theorem gX4_27 : ∀ q : vw_C, cls8[4]? = some q → Cond.fieldLink RX4 27 (q.2.1 5).1 (q.2.1 5).2.1 (q.2.1 5).2.2.1 ∈ gw := fun q hq => by obtain rfl : q = (RX4, TX4, 8) := (Option.some.inj hq).symm; exact gi 109 _ (by decide +kernel) rfl
theorem fX4_30 : FLK RX4 30 4 6 := ⟨clk4, by decide, fun q hq => by obtain rfl : q = (RX4, TX4, 8) := (Option.some.inj hq).symm; exact ⟨by decide, Or.inl (gi 110 _ (by decide +kernel) rfl)⟩⟩
theorem fX4_37 : FLK RX4 37 4 7 := ⟨clk4, by decide, fun q hq => by obtain rfl : q = (RX4, TX4, 8) := (Option.some.inj hq).symm; exact ⟨by decide, Or.inl (gi 111 _ (by decide +kernel) rfl)⟩⟩
theorem fX2_12 : FLK RX2 12 2 0 := ⟨clk2, by decide, fun q hq => by obtain rfl : q = (RX2, TX2, 9) := (Option.some.inj hq).symm; exact ⟨by decide, Or.inl (gi 139 _ (by decide +kernel) rfl)⟩⟩
theorem gX2_12 : ∀ q : vw_C, cls8[2]? = some q → Cond.fieldLink RX2 12 (q.2.1 0).1 (q.2.1 0).2.1 (q.2.1 0).2.2.1 ∈ gw := fun q hq => by obtain rfl : q = (RX2, TX2, 9) := (Option.some.inj hq).symm; exact gi 139 _ (by decide +kernel) rfl
theorem fX5_80 : FLK RX5 80 2 0 := ⟨clk2, by decide, fun q hq => by obtain rfl : q = (RX2, TX2, 9) := (Option.some.inj hq).symm; exact ⟨by decide, Or.inr ⟨"SpreadDesk", by decide +kernel⟩⟩⟩
theorem fX2_21 : FLK RX2 21 2 1 := ⟨clk2, by decide, fun q hq => by obtain rfl : q = (RX2, TX2, 9) := (Option.some.inj hq).symm; exact ⟨by decide, Or.inl (gi 141 _ (by decide +kernel) rfl)⟩⟩
theorem gX2_21 : ∀ q : vw_C, cls8[2]? = some q → Cond.fieldLink RX2 21 (q.2.1 1).1 (q.2.1 1).2.1 (q.2.1 1).2.2.1 ∈ gw := fun q hq => by obtain rfl : q = (RX2, TX2, 9) := (Option.some.inj hq).symm; exact gi 141 _ (by decide +kernel) rfl
theorem fX5_85 : FLK RX5 85 2 1 := ⟨clk2, by decide, fun q hq => by obtain rfl : q = (RX2, TX2, 9) := (Option.some.inj hq).symm; exact ⟨by decide, Or.inr ⟨"SpreadDesk", by decide +kernel⟩⟩⟩
theorem fX2_25 : FLK RX2 25 2 2 := ⟨clk2, by decide, fun q hq => by obtain rfl : q = (RX2, TX2, 9) := (Option.some.inj hq).symm; exact ⟨by decide, Or.inl (gi 143 _ (by decide +kernel) rfl)⟩⟩
theorem gX2_25 : ∀ q : vw_C, cls8[2]? = some q → Cond.fieldLink RX2 25 (q.2.1 2).1 (q.2.1 2).2.1 (q.2.1 2).2.2.1 ∈ gw := fun q hq => by obtain rfl : q = (RX2, TX2, 9) := (Option.some.inj hq).symm; exact gi 143 _ (by decide +kernel) rfl
theorem fX2_29 : FLK RX2 29 2 3 := ⟨clk2, by decide, fun q hq => by obtain rfl : q = (RX2, TX2, 9) := (Option.some.inj hq).symm; exact ⟨by decide, Or.inl (gi 144 _ (by decide +kernel) rfl)⟩⟩
theorem fX2_43 : FLK RX2 43 2 4 := ⟨clk2, by decide, fun q hq => by obtain rfl : q = (RX2, TX2, 9) := (Option.some.inj hq).symm; exact ⟨by decide, Or.inl (gi 145 _ (by decide +kernel) rfl)⟩⟩
theorem fX2_50 : FLK RX2 50 2 5 := ⟨clk2, by decide, fun q hq => by obtain rfl : q = (RX2, TX2, 9) := (Option.some.inj hq).symm; exact ⟨by decide, Or.inl (gi 146 _ (by decide +kernel) rfl)⟩⟩
theorem fX2_37 : FLK RX2 37 2 6 := ⟨clk2, by decide, fun q hq => by obtain rfl : q = (RX2, TX2, 9) := (Option.some.inj hq).symm; exact ⟨by decide, Or.inl (gi 147 _ (by decide +kernel) rfl)⟩⟩
theorem fX2_73 : FLK RX2 73 2 7 := ⟨clk2, by decide, fun q hq => by obtain rfl : q = (RX2, TX2, 9) := (Option.some.inj hq).symm; exact ⟨by decide, Or.inl (gi 148 _ (by decide +kernel) rfl)⟩⟩
theorem fX2_87 : FLK RX2 87 2 8 := ⟨clk2, by decide, fun q hq => by obtain rfl : q = (RX2, TX2, 9) := (Option.some.inj hq).symm; exact ⟨by decide, Or.inl (gi 149 _ (by decide +kernel) rfl)⟩⟩
theorem fX1_9 : FLK RX1 9 1 0 := ⟨clk1, by decide, fun q hq => by obtain rfl : q = (RX1, TX1, 4) := (Option.some.inj hq).symm; exact ⟨by decide, Or.inl (gi 175 _ (by decide +kernel) rfl)⟩⟩
theorem gX1_9 : ∀ q : vw_C, cls8[1]? = some q → Cond.fieldLink RX1 9 (q.2.1 0).1 (q.2.1 0).2.1 (q.2.1 0).2.2.1 ∈ gw := fun q hq => by obtain rfl : q = (RX1, TX1, 4) := (Option.some.inj hq).symm; exact gi 175 _ (by decide +kernel) rfl
theorem fX1_15 : FLK RX1 15 1 1 := ⟨clk1, by decide, fun q hq => by obtain rfl : q = (RX1, TX1, 4) := (Option.some.inj hq).symm; exact ⟨by decide, Or.inl (gi 176 _ (by decide +kernel) rfl)⟩⟩
theorem gX1_15 : ∀ q : vw_C, cls8[1]? = some q → Cond.fieldLink RX1 15 (q.2.1 1).1 (q.2.1 1).2.1 (q.2.1 1).2.2.1 ∈ gw := fun q hq => by obtain rfl : q = (RX1, TX1, 4) := (Option.some.inj hq).symm; exact gi 176 _ (by decide +kernel) rfl
theorem fX1_18 : FLK RX1 18 1 2 := ⟨clk1, by decide, fun q hq => by obtain rfl : q = (RX1, TX1, 4) := (Option.some.inj hq).symm; exact ⟨by decide, Or.inl (gi 177 _ (by decide +kernel) rfl)⟩⟩
theorem gX1_18 : ∀ q : vw_C, cls8[1]? = some q → Cond.fieldLink RX1 18 (q.2.1 2).1 (q.2.1 2).2.1 (q.2.1 2).2.2.1 ∈ gw := fun q hq => by obtain rfl : q = (RX1, TX1, 4) := (Option.some.inj hq).symm; exact gi 177 _ (by decide +kernel) rfl
theorem fX1_21 : FLK RX1 21 1 3 := ⟨clk1, by decide, fun q hq => by obtain rfl : q = (RX1, TX1, 4) := (Option.some.inj hq).symm; exact ⟨by decide, Or.inl (gi 178 _ (by decide +kernel) rfl)⟩⟩
theorem fX3_9 : FLK RX3 9 3 0 := ⟨clk3, by decide, fun q hq => by obtain rfl : q = (RX3, TX3, 6) := (Option.some.inj hq).symm; exact ⟨by decide, Or.inl (gi 194 _ (by decide +kernel) rfl)⟩⟩
theorem gX3_9 : ∀ q : vw_C, cls8[3]? = some q → Cond.fieldLink RX3 9 (q.2.1 0).1 (q.2.1 0).2.1 (q.2.1 0).2.2.1 ∈ gw := fun q hq => by obtain rfl : q = (RX3, TX3, 6) := (Option.some.inj hq).symm; exact gi 194 _ (by decide +kernel) rfl
theorem fX3_15 : FLK RX3 15 3 1 := ⟨clk3, by decide, fun q hq => by obtain rfl : q = (RX3, TX3, 6) := (Option.some.inj hq).symm; exact ⟨by decide, Or.inl (gi 195 _ (by decide +kernel) rfl)⟩⟩
theorem gX3_15 : ∀ q : vw_C, cls8[3]? = some q → Cond.fieldLink RX3 15 (q.2.1 1).1 (q.2.1 1).2.1 (q.2.1 1).2.2.1 ∈ gw := fun q hq => by obtain rfl : q = (RX3, TX3, 6) := (Option.some.inj hq).symm; exact gi 195 _ (by decide +kernel) rfl
theorem fX3_19 : FLK RX3 19 3 2 := ⟨clk3, by decide, fun q hq => by obtain rfl : q = (RX3, TX3, 6) := (Option.some.inj hq).symm; exact ⟨by decide, Or.inl (gi 196 _ (by decide +kernel) rfl)⟩⟩
theorem gX3_19 : ∀ q : vw_C, cls8[3]? = some q → Cond.fieldLink RX3 19 (q.2.1 2).1 (q.2.1 2).2.1 (q.2.1 2).2.2.1 ∈ gw := fun q hq => by obtain rfl : q = (RX3, TX3, 6) := (Option.some.inj hq).symm; exact gi 196 _ (by decide +kernel) rfl
theorem fX3_23 : FLK RX3 23 3 3 := ⟨clk3, by decide, fun q hq => by obtain rfl : q = (RX3, TX3, 6) := (Option.some.inj hq).symm; exact ⟨by decide, Or.inl (gi 197 _ (by decide +kernel) rfl)⟩⟩
theorem gX3_23 : ∀ q : vw_C, cls8[3]? = some q → Cond.fieldLink RX3 23 (q.2.1 3).1 (q.2.1 3).2.1 (q.2.1 3).2.2.1 ∈ gw := fun q hq => by obtain rfl : q = (RX3, TX3, 6) := (Option.some.inj hq).symm; exact gi 197 _ (by decide +kernel) rfl
theorem fX3_26 : FLK RX3 26 3 4 := ⟨clk3, by decide, fun q hq => by obtain rfl : q = (RX3, TX3, 6) := (Option.some.inj hq).symm; exact ⟨by decide, Or.inl (gi 198 _ (by decide +kernel) rfl)⟩⟩
theorem gX3_26 : ∀ q : vw_C, cls8[3]? = some q → Cond.fieldLink RX3 26 (q.2.1 4).1 (q.2.1 4).2.1 (q.2.1 4).2.2.1 ∈ gw := fun q hq => by obtain rfl : q = (RX3, TX3, 6) := (Option.some.inj hq).symm; exact gi 198 _ (by decide +kernel) rfl
theorem fX3_29 : FLK RX3 29 3 5 := ⟨clk3, by decide, fun q hq => by obtain rfl : q = (RX3, TX3, 6) := (Option.some.inj hq).symm; exact ⟨by decide, Or.inl (gi 199 _ (by decide +kernel) rfl)⟩⟩
theorem gX3_29 : ∀ q : vw_C, cls8[3]? = some q → Cond.fieldLink RX3 29 (q.2.1 5).1 (q.2.1 5).2.1 (q.2.1 5).2.2.1 ∈ gw := fun q hq => by obtain rfl : q = (RX3, TX3, 6) := (Option.some.inj hq).symm; exact gi 199 _ (by decide +kernel) rfl
theorem fX5_12 : FLK RX5 12 5 0 := ⟨clk5, by decide, fun q hq => by obtain rfl : q = (RX5, TX5, 14) := (Option.some.inj hq).symm; exact ⟨by decide, Or.inl (gi 214 _ (by decide +kernel) rfl)⟩⟩
theorem gX5_12 : ∀ q : vw_C, cls8[5]? = some q → Cond.fieldLink RX5 12 (q.2.1 0).1 (q.2.1 0).2.1 (q.2.1 0).2.2.1 ∈ gw := fun q hq => by obtain rfl : q = (RX5, TX5, 14) := (Option.some.inj hq).symm; exact gi 214 _ (by decide +kernel) rfl
theorem fX5_19 : FLK RX5 19 5 1 := ⟨clk5, by decide, fun q hq => by obtain rfl : q = (RX5, TX5, 14) := (Option.some.inj hq).symm; exact ⟨by decide, Or.inl (gi 215 _ (by decide +kernel) rfl)⟩⟩
theorem gX5_19 : ∀ q : vw_C, cls8[5]? = some q → Cond.fieldLink RX5 19 (q.2.1 1).1 (q.2.1 1).2.1 (q.2.1 1).2.2.1 ∈ gw := fun q hq => by obtain rfl : q = (RX5, TX5, 14) := (Option.some.inj hq).symm; exact gi 215 _ (by decide +kernel) rfl
theorem fX5_26 : FLK RX5 26 5 2 := ⟨clk5, by decide, fun q hq => by obtain rfl : q = (RX5, TX5, 14) := (Option.some.inj hq).symm; exact ⟨by decide, Or.inl (gi 216 _ (by decide +kernel) rfl)⟩⟩
theorem gX5_26 : ∀ q : vw_C, cls8[5]? = some q → Cond.fieldLink RX5 26 (q.2.1 2).1 (q.2.1 2).2.1 (q.2.1 2).2.2.1 ∈ gw := fun q hq => by obtain rfl : q = (RX5, TX5, 14) := (Option.some.inj hq).symm; exact gi 216 _ (by decide +kernel) rfl
theorem fX5_33 : FLK RX5 33 5 3 := ⟨clk5, by decide, fun q hq => by obtain rfl : q = (RX5, TX5, 14) := (Option.some.inj hq).symm; exact ⟨by decide, Or.inl (gi 217 _ (by decide +kernel) rfl)⟩⟩
theorem gX5_33 : ∀ q : vw_C, cls8[5]? = some q → Cond.fieldLink RX5 33 (q.2.1 3).1 (q.2.1 3).2.1 (q.2.1 3).2.2.1 ∈ gw := fun q hq => by obtain rfl : q = (RX5, TX5, 14) := (Option.some.inj hq).symm; exact gi 217 _ (by decide +kernel) rfl
theorem fX5_42 : FLK RX5 42 5 4 := ⟨clk5, by decide, fun q hq => by obtain rfl : q = (RX5, TX5, 14) := (Option.some.inj hq).symm; exact ⟨by decide, Or.inl (gi 218 _ (by decide +kernel) rfl)⟩⟩
theorem gX5_42 : ∀ q : vw_C, cls8[5]? = some q → Cond.fieldLink RX5 42 (q.2.1 4).1 (q.2.1 4).2.1 (q.2.1 4).2.2.1 ∈ gw := fun q hq => by obtain rfl : q = (RX5, TX5, 14) := (Option.some.inj hq).symm; exact gi 218 _ (by decide +kernel) rfl
theorem fX5_46 : FLK RX5 46 5 5 := ⟨clk5, by decide, fun q hq => by obtain rfl : q = (RX5, TX5, 14) := (Option.some.inj hq).symm; exact ⟨by decide, Or.inl (gi 219 _ (by decide +kernel) rfl)⟩⟩
theorem gX5_46 : ∀ q : vw_C, cls8[5]? = some q → Cond.fieldLink RX5 46 (q.2.1 5).1 (q.2.1 5).2.1 (q.2.1 5).2.2.1 ∈ gw := fun q hq => by obtain rfl : q = (RX5, TX5, 14) := (Option.some.inj hq).symm; exact gi 219 _ (by decide +kernel) rfl
theorem fX5_49 : FLK RX5 49 5 6 := ⟨clk5, by decide, fun q hq => by obtain rfl : q = (RX5, TX5, 14) := (Option.some.inj hq).symm; exact ⟨by decide, Or.inl (gi 220 _ (by decide +kernel) rfl)⟩⟩
theorem gX5_49 : ∀ q : vw_C, cls8[5]? = some q → Cond.fieldLink RX5 49 (q.2.1 6).1 (q.2.1 6).2.1 (q.2.1 6).2.2.1 ∈ gw := fun q hq => by obtain rfl : q = (RX5, TX5, 14) := (Option.some.inj hq).symm; exact gi 220 _ (by decide +kernel) rfl
theorem fX5_96 : FLK RX5 96 5 7 := ⟨clk5, by decide, fun q hq => by obtain rfl : q = (RX5, TX5, 14) := (Option.some.inj hq).symm; exact ⟨by decide, Or.inl (gi 221 _ (by decide +kernel) rfl)⟩⟩
theorem fX5_100 : FLK RX5 100 5 8 := ⟨clk5, by decide, fun q hq => by obtain rfl : q = (RX5, TX5, 14) := (Option.some.inj hq).symm; exact ⟨by decide, Or.inl (gi 222 _ (by decide +kernel) rfl)⟩⟩
theorem fX5_52 : FLK RX5 52 5 9 := ⟨clk5, by decide, fun q hq => by obtain rfl : q = (RX5, TX5, 14) := (Option.some.inj hq).symm; exact ⟨by decide, Or.inl (gi 223 _ (by decide +kernel) rfl)⟩⟩
theorem gX5_52 : ∀ q : vw_C, cls8[5]? = some q → Cond.fieldLink RX5 52 (q.2.1 9).1 (q.2.1 9).2.1 (q.2.1 9).2.2.1 ∈ gw := fun q hq => by obtain rfl : q = (RX5, TX5, 14) := (Option.some.inj hq).symm; exact gi 223 _ (by decide +kernel) rfl
theorem fX5_56 : FLK RX5 56 5 10 := ⟨clk5, by decide, fun q hq => by obtain rfl : q = (RX5, TX5, 14) := (Option.some.inj hq).symm; exact ⟨by decide, Or.inl (gi 224 _ (by decide +kernel) rfl)⟩⟩
theorem gX5_56 : ∀ q : vw_C, cls8[5]? = some q → Cond.fieldLink RX5 56 (q.2.1 10).1 (q.2.1 10).2.1 (q.2.1 10).2.2.1 ∈ gw := fun q hq => by obtain rfl : q = (RX5, TX5, 14) := (Option.some.inj hq).symm; exact gi 224 _ (by decide +kernel) rfl
theorem fX5_92 : FLK RX5 92 5 11 := ⟨clk5, by decide, fun q hq => by obtain rfl : q = (RX5, TX5, 14) := (Option.some.inj hq).symm; exact ⟨by decide, Or.inl (gi 225 _ (by decide +kernel) rfl)⟩⟩
theorem fX5_60 : FLK RX5 60 5 12 := ⟨clk5, by decide, fun q hq => by obtain rfl : q = (RX5, TX5, 14) := (Option.some.inj hq).symm; exact ⟨by decide, Or.inl (gi 226 _ (by decide +kernel) rfl)⟩⟩
theorem gX5_60 : ∀ q : vw_C, cls8[5]? = some q → Cond.fieldLink RX5 60 (q.2.1 12).1 (q.2.1 12).2.1 (q.2.1 12).2.2.1 ∈ gw := fun q hq => by obtain rfl : q = (RX5, TX5, 14) := (Option.some.inj hq).symm; exact gi 226 _ (by decide +kernel) rfl
theorem fX5_63 : FLK RX5 63 5 13 := ⟨clk5, by decide, fun q hq => by obtain rfl : q = (RX5, TX5, 14) := (Option.some.inj hq).symm; exact ⟨by decide, Or.inl (gi 227 _ (by decide +kernel) rfl)⟩⟩
theorem gX5_63 : ∀ q : vw_C, cls8[5]? = some q → Cond.fieldLink RX5 63 (q.2.1 13).1 (q.2.1 13).2.1 (q.2.1 13).2.2.1 ∈ gw := fun q hq => by obtain rfl : q = (RX5, TX5, 14) := (Option.some.inj hq).symm; exact gi 227 _ (by decide +kernel) rfl
theorem fX6_93 : FLK RX6 93 6 0 := ⟨clk6, by decide, fun q hq => by obtain rfl : q = (RX6, TX6, 40) := (Option.some.inj hq).symm; exact ⟨by decide, Or.inl (gi 659 _ (by decide +kernel) rfl)⟩⟩
theorem fX6_7 : FLK RX6 7 6 1 := ⟨clk6, by decide, fun q hq => by obtain rfl : q = (RX6, TX6, 40) := (Option.some.inj hq).symm; exact ⟨by decide, Or.inl (gi 660 _ (by decide +kernel) rfl)⟩⟩
theorem gX6_7 : ∀ q : vw_C, cls8[6]? = some q → Cond.fieldLink RX6 7 (q.2.1 1).1 (q.2.1 1).2.1 (q.2.1 1).2.2.1 ∈ gw := fun q hq => by obtain rfl : q = (RX6, TX6, 40) := (Option.some.inj hq).symm; exact gi 660 _ (by decide +kernel) rfl
theorem fX6_101 : FLK RX6 101 6 2 := ⟨clk6, by decide, fun q hq => by obtain rfl : q = (RX6, TX6, 40) := (Option.some.inj hq).symm; exact ⟨by decide, Or.inl (gi 661 _ (by decide +kernel) rfl)⟩⟩
theorem fX6_104 : FLK RX6 104 6 3 := ⟨clk6, by decide, fun q hq => by obtain rfl : q = (RX6, TX6, 40) := (Option.some.inj hq).symm; exact ⟨by decide, Or.inl (gi 662 _ (by decide +kernel) rfl)⟩⟩
theorem fX6_114 : FLK RX6 114 6 4 := ⟨clk6, by decide, fun q hq => by obtain rfl : q = (RX6, TX6, 40) := (Option.some.inj hq).symm; exact ⟨by decide, Or.inl (gi 663 _ (by decide +kernel) rfl)⟩⟩
theorem fX6_111 : FLK RX6 111 6 5 := ⟨clk6, by decide, fun q hq => by obtain rfl : q = (RX6, TX6, 40) := (Option.some.inj hq).symm; exact ⟨by decide, Or.inl (gi 664 _ (by decide +kernel) rfl)⟩⟩
theorem fX6_117 : FLK RX6 117 6 6 := ⟨clk6, by decide, fun q hq => by obtain rfl : q = (RX6, TX6, 40) := (Option.some.inj hq).symm; exact ⟨by decide, Or.inl (gi 665 _ (by decide +kernel) rfl)⟩⟩
theorem fX6_124 : FLK RX6 124 6 7 := ⟨clk6, by decide, fun q hq => by obtain rfl : q = (RX6, TX6, 40) := (Option.some.inj hq).symm; exact ⟨by decide, Or.inl (gi 666 _ (by decide +kernel) rfl)⟩⟩
theorem fX6_199 : FLK RX6 199 6 8 := ⟨clk6, by decide, fun q hq => by obtain rfl : q = (RX6, TX6, 40) := (Option.some.inj hq).symm; exact ⟨by decide, Or.inl (gi 667 _ (by decide +kernel) rfl)⟩⟩
theorem fX6_13 : FLK RX6 13 6 9 := ⟨clk6, by decide, fun q hq => by obtain rfl : q = (RX6, TX6, 40) := (Option.some.inj hq).symm; exact ⟨by decide, Or.inl (gi 668 _ (by decide +kernel) rfl)⟩⟩
theorem gX6_13 : ∀ q : vw_C, cls8[6]? = some q → Cond.fieldLink RX6 13 (q.2.1 9).1 (q.2.1 9).2.1 (q.2.1 9).2.2.1 ∈ gw := fun q hq => by obtain rfl : q = (RX6, TX6, 40) := (Option.some.inj hq).symm; exact gi 668 _ (by decide +kernel) rfl
theorem fX6_16 : FLK RX6 16 6 10 := ⟨clk6, by decide, fun q hq => by obtain rfl : q = (RX6, TX6, 40) := (Option.some.inj hq).symm; exact ⟨by decide, Or.inl (gi 669 _ (by decide +kernel) rfl)⟩⟩
theorem gX6_16 : ∀ q : vw_C, cls8[6]? = some q → Cond.fieldLink RX6 16 (q.2.1 10).1 (q.2.1 10).2.1 (q.2.1 10).2.2.1 ∈ gw := fun q hq => by obtain rfl : q = (RX6, TX6, 40) := (Option.some.inj hq).symm; exact gi 669 _ (by decide +kernel) rfl
theorem fX6_19 : FLK RX6 19 6 11 := ⟨clk6, by decide, fun q hq => by obtain rfl : q = (RX6, TX6, 40) := (Option.some.inj hq).symm; exact ⟨by decide, Or.inl (gi 670 _ (by decide +kernel) rfl)⟩⟩
theorem gX6_19 : ∀ q : vw_C, cls8[6]? = some q → Cond.fieldLink RX6 19 (q.2.1 11).1 (q.2.1 11).2.1 (q.2.1 11).2.2.1 ∈ gw := fun q hq => by obtain rfl : q = (RX6, TX6, 40) := (Option.some.inj hq).symm; exact gi 670 _ (by decide +kernel) rfl
theorem fX6_22 : FLK RX6 22 6 12 := ⟨clk6, by decide, fun q hq => by obtain rfl : q = (RX6, TX6, 40) := (Option.some.inj hq).symm; exact ⟨by decide, Or.inl (gi 671 _ (by decide +kernel) rfl)⟩⟩
theorem gX6_22 : ∀ q : vw_C, cls8[6]? = some q → Cond.fieldLink RX6 22 (q.2.1 12).1 (q.2.1 12).2.1 (q.2.1 12).2.2.1 ∈ gw := fun q hq => by obtain rfl : q = (RX6, TX6, 40) := (Option.some.inj hq).symm; exact gi 671 _ (by decide +kernel) rfl
theorem fX6_25 : FLK RX6 25 6 13 := ⟨clk6, by decide, fun q hq => by obtain rfl : q = (RX6, TX6, 40) := (Option.some.inj hq).symm; exact ⟨by decide, Or.inl (gi 672 _ (by decide +kernel) rfl)⟩⟩
theorem gX6_25 : ∀ q : vw_C, cls8[6]? = some q → Cond.fieldLink RX6 25 (q.2.1 13).1 (q.2.1 13).2.1 (q.2.1 13).2.2.1 ∈ gw := fun q hq => by obtain rfl : q = (RX6, TX6, 40) := (Option.some.inj hq).symm; exact gi 672 _ (by decide +kernel) rfl
theorem fX6_145 : FLK RX6 145 6 14 := ⟨clk6, by decide, fun q hq => by obtain rfl : q = (RX6, TX6, 40) := (Option.some.inj hq).symm; exact ⟨by decide, Or.inl (gi 673 _ (by decide +kernel) rfl)⟩⟩
theorem fX6_28 : FLK RX6 28 6 15 := ⟨clk6, by decide, fun q hq => by obtain rfl : q = (RX6, TX6, 40) := (Option.some.inj hq).symm; exact ⟨by decide, Or.inl (gi 674 _ (by decide +kernel) rfl)⟩⟩
theorem gX6_28 : ∀ q : vw_C, cls8[6]? = some q → Cond.fieldLink RX6 28 (q.2.1 15).1 (q.2.1 15).2.1 (q.2.1 15).2.2.1 ∈ gw := fun q hq => by obtain rfl : q = (RX6, TX6, 40) := (Option.some.inj hq).symm; exact gi 674 _ (by decide +kernel) rfl
theorem fX6_31 : FLK RX6 31 6 16 := ⟨clk6, by decide, fun q hq => by obtain rfl : q = (RX6, TX6, 40) := (Option.some.inj hq).symm; exact ⟨by decide, Or.inl (gi 675 _ (by decide +kernel) rfl)⟩⟩
theorem gX6_31 : ∀ q : vw_C, cls8[6]? = some q → Cond.fieldLink RX6 31 (q.2.1 16).1 (q.2.1 16).2.1 (q.2.1 16).2.2.1 ∈ gw := fun q hq => by obtain rfl : q = (RX6, TX6, 40) := (Option.some.inj hq).symm; exact gi 675 _ (by decide +kernel) rfl
theorem fX6_34 : FLK RX6 34 6 17 := ⟨clk6, by decide, fun q hq => by obtain rfl : q = (RX6, TX6, 40) := (Option.some.inj hq).symm; exact ⟨by decide, Or.inl (gi 676 _ (by decide +kernel) rfl)⟩⟩
theorem gX6_34 : ∀ q : vw_C, cls8[6]? = some q → Cond.fieldLink RX6 34 (q.2.1 17).1 (q.2.1 17).2.1 (q.2.1 17).2.2.1 ∈ gw := fun q hq => by obtain rfl : q = (RX6, TX6, 40) := (Option.some.inj hq).symm; exact gi 676 _ (by decide +kernel) rfl
theorem fX6_37 : FLK RX6 37 6 18 := ⟨clk6, by decide, fun q hq => by obtain rfl : q = (RX6, TX6, 40) := (Option.some.inj hq).symm; exact ⟨by decide, Or.inl (gi 677 _ (by decide +kernel) rfl)⟩⟩
theorem gX6_37 : ∀ q : vw_C, cls8[6]? = some q → Cond.fieldLink RX6 37 (q.2.1 18).1 (q.2.1 18).2.1 (q.2.1 18).2.2.1 ∈ gw := fun q hq => by obtain rfl : q = (RX6, TX6, 40) := (Option.some.inj hq).symm; exact gi 677 _ (by decide +kernel) rfl
theorem fX6_40 : FLK RX6 40 6 19 := ⟨clk6, by decide, fun q hq => by obtain rfl : q = (RX6, TX6, 40) := (Option.some.inj hq).symm; exact ⟨by decide, Or.inl (gi 678 _ (by decide +kernel) rfl)⟩⟩
theorem gX6_40 : ∀ q : vw_C, cls8[6]? = some q → Cond.fieldLink RX6 40 (q.2.1 19).1 (q.2.1 19).2.1 (q.2.1 19).2.2.1 ∈ gw := fun q hq => by obtain rfl : q = (RX6, TX6, 40) := (Option.some.inj hq).symm; exact gi 678 _ (by decide +kernel) rfl
theorem fX6_43 : FLK RX6 43 6 20 := ⟨clk6, by decide, fun q hq => by obtain rfl : q = (RX6, TX6, 40) := (Option.some.inj hq).symm; exact ⟨by decide, Or.inl (gi 679 _ (by decide +kernel) rfl)⟩⟩
theorem gX6_43 : ∀ q : vw_C, cls8[6]? = some q → Cond.fieldLink RX6 43 (q.2.1 20).1 (q.2.1 20).2.1 (q.2.1 20).2.2.1 ∈ gw := fun q hq => by obtain rfl : q = (RX6, TX6, 40) := (Option.some.inj hq).symm; exact gi 679 _ (by decide +kernel) rfl
theorem fX6_46 : FLK RX6 46 6 21 := ⟨clk6, by decide, fun q hq => by obtain rfl : q = (RX6, TX6, 40) := (Option.some.inj hq).symm; exact ⟨by decide, Or.inl (gi 680 _ (by decide +kernel) rfl)⟩⟩
theorem gX6_46 : ∀ q : vw_C, cls8[6]? = some q → Cond.fieldLink RX6 46 (q.2.1 21).1 (q.2.1 21).2.1 (q.2.1 21).2.2.1 ∈ gw := fun q hq => by obtain rfl : q = (RX6, TX6, 40) := (Option.some.inj hq).symm; exact gi 680 _ (by decide +kernel) rfl
theorem fX6_49 : FLK RX6 49 6 22 := ⟨clk6, by decide, fun q hq => by obtain rfl : q = (RX6, TX6, 40) := (Option.some.inj hq).symm; exact ⟨by decide, Or.inl (gi 681 _ (by decide +kernel) rfl)⟩⟩
theorem gX6_49 : ∀ q : vw_C, cls8[6]? = some q → Cond.fieldLink RX6 49 (q.2.1 22).1 (q.2.1 22).2.1 (q.2.1 22).2.2.1 ∈ gw := fun q hq => by obtain rfl : q = (RX6, TX6, 40) := (Option.some.inj hq).symm; exact gi 681 _ (by decide +kernel) rfl
theorem fX6_205 : FLK RX6 205 6 23 := ⟨clk6, by decide, fun q hq => by obtain rfl : q = (RX6, TX6, 40) := (Option.some.inj hq).symm; exact ⟨by decide, Or.inl (gi 682 _ (by decide +kernel) rfl)⟩⟩
theorem fX6_52 : FLK RX6 52 6 24 := ⟨clk6, by decide, fun q hq => by obtain rfl : q = (RX6, TX6, 40) := (Option.some.inj hq).symm; exact ⟨by decide, Or.inl (gi 683 _ (by decide +kernel) rfl)⟩⟩
theorem gX6_52 : ∀ q : vw_C, cls8[6]? = some q → Cond.fieldLink RX6 52 (q.2.1 24).1 (q.2.1 24).2.1 (q.2.1 24).2.2.1 ∈ gw := fun q hq => by obtain rfl : q = (RX6, TX6, 40) := (Option.some.inj hq).symm; exact gi 683 _ (by decide +kernel) rfl
theorem fX6_55 : FLK RX6 55 6 25 := ⟨clk6, by decide, fun q hq => by obtain rfl : q = (RX6, TX6, 40) := (Option.some.inj hq).symm; exact ⟨by decide, Or.inl (gi 684 _ (by decide +kernel) rfl)⟩⟩
theorem gX6_55 : ∀ q : vw_C, cls8[6]? = some q → Cond.fieldLink RX6 55 (q.2.1 25).1 (q.2.1 25).2.1 (q.2.1 25).2.2.1 ∈ gw := fun q hq => by obtain rfl : q = (RX6, TX6, 40) := (Option.some.inj hq).symm; exact gi 684 _ (by decide +kernel) rfl
theorem fX6_59 : FLK RX6 59 6 26 := ⟨clk6, by decide, fun q hq => by obtain rfl : q = (RX6, TX6, 40) := (Option.some.inj hq).symm; exact ⟨by decide, Or.inl (gi 685 _ (by decide +kernel) rfl)⟩⟩
theorem gX6_59 : ∀ q : vw_C, cls8[6]? = some q → Cond.fieldLink RX6 59 (q.2.1 26).1 (q.2.1 26).2.1 (q.2.1 26).2.2.1 ∈ gw := fun q hq => by obtain rfl : q = (RX6, TX6, 40) := (Option.some.inj hq).symm; exact gi 685 _ (by decide +kernel) rfl
theorem fX6_62 : FLK RX6 62 6 27 := ⟨clk6, by decide, fun q hq => by obtain rfl : q = (RX6, TX6, 40) := (Option.some.inj hq).symm; exact ⟨by decide, Or.inl (gi 686 _ (by decide +kernel) rfl)⟩⟩
theorem gX6_62 : ∀ q : vw_C, cls8[6]? = some q → Cond.fieldLink RX6 62 (q.2.1 27).1 (q.2.1 27).2.1 (q.2.1 27).2.2.1 ∈ gw := fun q hq => by obtain rfl : q = (RX6, TX6, 40) := (Option.some.inj hq).symm; exact gi 686 _ (by decide +kernel) rfl
theorem fX6_202 : FLK RX6 202 6 28 := ⟨clk6, by decide, fun q hq => by obtain rfl : q = (RX6, TX6, 40) := (Option.some.inj hq).symm; exact ⟨by decide, Or.inl (gi 687 _ (by decide +kernel) rfl)⟩⟩
theorem fX6_66 : FLK RX6 66 6 29 := ⟨clk6, by decide, fun q hq => by obtain rfl : q = (RX6, TX6, 40) := (Option.some.inj hq).symm; exact ⟨by decide, Or.inl (gi 688 _ (by decide +kernel) rfl)⟩⟩
theorem gX6_66 : ∀ q : vw_C, cls8[6]? = some q → Cond.fieldLink RX6 66 (q.2.1 29).1 (q.2.1 29).2.1 (q.2.1 29).2.2.1 ∈ gw := fun q hq => by obtain rfl : q = (RX6, TX6, 40) := (Option.some.inj hq).symm; exact gi 688 _ (by decide +kernel) rfl
theorem fX6_151 : FLK RX6 151 6 30 := ⟨clk6, by decide, fun q hq => by obtain rfl : q = (RX6, TX6, 40) := (Option.some.inj hq).symm; exact ⟨by decide, Or.inl (gi 689 _ (by decide +kernel) rfl)⟩⟩
theorem fX6_69 : FLK RX6 69 6 31 := ⟨clk6, by decide, fun q hq => by obtain rfl : q = (RX6, TX6, 40) := (Option.some.inj hq).symm; exact ⟨by decide, Or.inl (gi 690 _ (by decide +kernel) rfl)⟩⟩
theorem gX6_69 : ∀ q : vw_C, cls8[6]? = some q → Cond.fieldLink RX6 69 (q.2.1 31).1 (q.2.1 31).2.1 (q.2.1 31).2.2.1 ∈ gw := fun q hq => by obtain rfl : q = (RX6, TX6, 40) := (Option.some.inj hq).symm; exact gi 690 _ (by decide +kernel) rfl
theorem fX6_154 : FLK RX6 154 6 32 := ⟨clk6, by decide, fun q hq => by obtain rfl : q = (RX6, TX6, 40) := (Option.some.inj hq).symm; exact ⟨by decide, Or.inl (gi 691 _ (by decide +kernel) rfl)⟩⟩
theorem fX6_171 : FLK RX6 171 6 33 := ⟨clk6, by decide, fun q hq => by obtain rfl : q = (RX6, TX6, 40) := (Option.some.inj hq).symm; exact ⟨by decide, Or.inl (gi 692 _ (by decide +kernel) rfl)⟩⟩
theorem fX6_148 : FLK RX6 148 6 34 := ⟨clk6, by decide, fun q hq => by obtain rfl : q = (RX6, TX6, 40) := (Option.some.inj hq).symm; exact ⟨by decide, Or.inl (gi 693 _ (by decide +kernel) rfl)⟩⟩
theorem fX6_72 : FLK RX6 72 6 35 := ⟨clk6, by decide, fun q hq => by obtain rfl : q = (RX6, TX6, 40) := (Option.some.inj hq).symm; exact ⟨by decide, Or.inl (gi 694 _ (by decide +kernel) rfl)⟩⟩
theorem gX6_72 : ∀ q : vw_C, cls8[6]? = some q → Cond.fieldLink RX6 72 (q.2.1 35).1 (q.2.1 35).2.1 (q.2.1 35).2.2.1 ∈ gw := fun q hq => by obtain rfl : q = (RX6, TX6, 40) := (Option.some.inj hq).symm; exact gi 694 _ (by decide +kernel) rfl
theorem fX6_75 : FLK RX6 75 6 36 := ⟨clk6, by decide, fun q hq => by obtain rfl : q = (RX6, TX6, 40) := (Option.some.inj hq).symm; exact ⟨by decide, Or.inl (gi 695 _ (by decide +kernel) rfl)⟩⟩
theorem gX6_75 : ∀ q : vw_C, cls8[6]? = some q → Cond.fieldLink RX6 75 (q.2.1 36).1 (q.2.1 36).2.1 (q.2.1 36).2.2.1 ∈ gw := fun q hq => by obtain rfl : q = (RX6, TX6, 40) := (Option.some.inj hq).symm; exact gi 695 _ (by decide +kernel) rfl
theorem fX6_78 : FLK RX6 78 6 37 := ⟨clk6, by decide, fun q hq => by obtain rfl : q = (RX6, TX6, 40) := (Option.some.inj hq).symm; exact ⟨by decide, Or.inl (gi 696 _ (by decide +kernel) rfl)⟩⟩
theorem gX6_78 : ∀ q : vw_C, cls8[6]? = some q → Cond.fieldLink RX6 78 (q.2.1 37).1 (q.2.1 37).2.1 (q.2.1 37).2.2.1 ∈ gw := fun q hq => by obtain rfl : q = (RX6, TX6, 40) := (Option.some.inj hq).symm; exact gi 696 _ (by decide +kernel) rfl
theorem fX6_81 : FLK RX6 81 6 38 := ⟨clk6, by decide, fun q hq => by obtain rfl : q = (RX6, TX6, 40) := (Option.some.inj hq).symm; exact ⟨by decide, Or.inl (gi 697 _ (by decide +kernel) rfl)⟩⟩
theorem gX6_81 : ∀ q : vw_C, cls8[6]? = some q → Cond.fieldLink RX6 81 (q.2.1 38).1 (q.2.1 38).2.1 (q.2.1 38).2.2.1 ∈ gw := fun q hq => by obtain rfl : q = (RX6, TX6, 40) := (Option.some.inj hq).symm; exact gi 697 _ (by decide +kernel) rfl
theorem fX6_84 : FLK RX6 84 6 39 := ⟨clk6, by decide, fun q hq => by obtain rfl : q = (RX6, TX6, 40) := (Option.some.inj hq).symm; exact ⟨by decide, Or.inl (gi 698 _ (by decide +kernel) rfl)⟩⟩
theorem gX6_84 : ∀ q : vw_C, cls8[6]? = some q → Cond.fieldLink RX6 84 (q.2.1 39).1 (q.2.1 39).2.1 (q.2.1 39).2.2.1 ∈ gw := fun q hq => by obtain rfl : q = (RX6, TX6, 40) := (Option.some.inj hq).symm; exact gi 698 _ (by decide +kernel) rfl
theorem ff0_0 : ∀ q : vw_C, cls8[0]? = some q → (q.2.1 0).2.2.2 = true ∧ (q.2.1 0).1 = RX0 ∧ parseFieldDescriptor (q.2.1 0).2.2.1 = some (.array .int) := fun q hq => by obtain rfl : q = (RX0, TX0, 2) := (Option.some.inj hq).symm; exact ⟨rfl, rfl, by decide +kernel⟩
theorem ff0_1 : ∀ q : vw_C, cls8[0]? = some q → (q.2.1 1).2.2.2 = true ∧ (q.2.1 1).1 = RX0 ∧ parseFieldDescriptor (q.2.1 1).2.2.1 = some (.array .int) := fun q hq => by obtain rfl : q = (RX0, TX0, 2) := (Option.some.inj hq).symm; exact ⟨rfl, rfl, by decide +kernel⟩
theorem ff1_0 : ∀ q : vw_C, cls8[1]? = some q → (q.2.1 0).2.2.2 = true ∧ (q.2.1 0).1 = RX1 ∧ parseFieldDescriptor (q.2.1 0).2.2.1 = some (.array .int) := fun q hq => by obtain rfl : q = (RX1, TX1, 4) := (Option.some.inj hq).symm; exact ⟨rfl, rfl, by decide +kernel⟩
theorem ff1_1 : ∀ q : vw_C, cls8[1]? = some q → (q.2.1 1).2.2.2 = true ∧ (q.2.1 1).1 = RX1 ∧ parseFieldDescriptor (q.2.1 1).2.2.1 = some (.array .int) := fun q hq => by obtain rfl : q = (RX1, TX1, 4) := (Option.some.inj hq).symm; exact ⟨rfl, rfl, by decide +kernel⟩
theorem ff1_2 : ∀ q : vw_C, cls8[1]? = some q → (q.2.1 2).2.2.2 = true ∧ (q.2.1 2).1 = RX1 ∧ parseFieldDescriptor (q.2.1 2).2.2.1 = some (.array .int) := fun q hq => by obtain rfl : q = (RX1, TX1, 4) := (Option.some.inj hq).symm; exact ⟨rfl, rfl, by decide +kernel⟩
theorem nf1_3 : ∀ q : vw_C, cls8[1]? = some q → (q.2.1 3).2.2.2 = false ∧ parseFieldDescriptor (q.2.1 3).2.2.1 = some .int := fun q hq => by obtain rfl : q = (RX1, TX1, 4) := (Option.some.inj hq).symm; exact ⟨rfl, by decide +kernel⟩
theorem ff2_0 : ∀ q : vw_C, cls8[2]? = some q → (q.2.1 0).2.2.2 = true ∧ (q.2.1 0).1 = RX2 ∧ parseFieldDescriptor (q.2.1 0).2.2.1 = some (.object "SpreadDesk$Figures") := fun q hq => by obtain rfl : q = (RX2, TX2, 9) := (Option.some.inj hq).symm; exact ⟨rfl, rfl, by decide +kernel⟩
theorem ff2_1 : ∀ q : vw_C, cls8[2]? = some q → (q.2.1 1).2.2.2 = true ∧ (q.2.1 1).1 = RX2 ∧ parseFieldDescriptor (q.2.1 1).2.2.1 = some (.object "SpreadDesk$Tape") := fun q hq => by obtain rfl : q = (RX2, TX2, 9) := (Option.some.inj hq).symm; exact ⟨rfl, rfl, by decide +kernel⟩
theorem ff2_2 : ∀ q : vw_C, cls8[2]? = some q → (q.2.1 2).2.2.2 = true ∧ (q.2.1 2).1 = RX2 ∧ parseFieldDescriptor (q.2.1 2).2.2.1 = some (.array .int) := fun q hq => by obtain rfl : q = (RX2, TX2, 9) := (Option.some.inj hq).symm; exact ⟨rfl, rfl, by decide +kernel⟩
theorem nf2_3 : ∀ q : vw_C, cls8[2]? = some q → (q.2.1 3).2.2.2 = false ∧ parseFieldDescriptor (q.2.1 3).2.2.1 = some .int := fun q hq => by obtain rfl : q = (RX2, TX2, 9) := (Option.some.inj hq).symm; exact ⟨rfl, by decide +kernel⟩
theorem nf2_4 : ∀ q : vw_C, cls8[2]? = some q → (q.2.1 4).2.2.2 = false ∧ parseFieldDescriptor (q.2.1 4).2.2.1 = some .int := fun q hq => by obtain rfl : q = (RX2, TX2, 9) := (Option.some.inj hq).symm; exact ⟨rfl, by decide +kernel⟩
theorem nf2_5 : ∀ q : vw_C, cls8[2]? = some q → (q.2.1 5).2.2.2 = false ∧ parseFieldDescriptor (q.2.1 5).2.2.1 = some .int := fun q hq => by obtain rfl : q = (RX2, TX2, 9) := (Option.some.inj hq).symm; exact ⟨rfl, by decide +kernel⟩
theorem nf2_6 : ∀ q : vw_C, cls8[2]? = some q → (q.2.1 6).2.2.2 = false ∧ parseFieldDescriptor (q.2.1 6).2.2.1 = some .int := fun q hq => by obtain rfl : q = (RX2, TX2, 9) := (Option.some.inj hq).symm; exact ⟨rfl, by decide +kernel⟩
theorem nf2_7 : ∀ q : vw_C, cls8[2]? = some q → (q.2.1 7).2.2.2 = false ∧ parseFieldDescriptor (q.2.1 7).2.2.1 = some .int := fun q hq => by obtain rfl : q = (RX2, TX2, 9) := (Option.some.inj hq).symm; exact ⟨rfl, by decide +kernel⟩
theorem nf2_8 : ∀ q : vw_C, cls8[2]? = some q → (q.2.1 8).2.2.2 = false ∧ parseFieldDescriptor (q.2.1 8).2.2.1 = some .int := fun q hq => by obtain rfl : q = (RX2, TX2, 9) := (Option.some.inj hq).symm; exact ⟨rfl, by decide +kernel⟩
theorem ff3_0 : ∀ q : vw_C, cls8[3]? = some q → (q.2.1 0).2.2.2 = true ∧ (q.2.1 0).1 = RX3 ∧ parseFieldDescriptor (q.2.1 0).2.2.1 = some (.object "SpreadDesk$Tape") := fun q hq => by obtain rfl : q = (RX3, TX3, 6) := (Option.some.inj hq).symm; exact ⟨rfl, rfl, by decide +kernel⟩
theorem ff3_1 : ∀ q : vw_C, cls8[3]? = some q → (q.2.1 1).2.2.2 = true ∧ (q.2.1 1).1 = RX3 ∧ parseFieldDescriptor (q.2.1 1).2.2.1 = some (.object "SpreadDesk$Figures") := fun q hq => by obtain rfl : q = (RX3, TX3, 6) := (Option.some.inj hq).symm; exact ⟨rfl, rfl, by decide +kernel⟩
theorem ff3_2 : ∀ q : vw_C, cls8[3]? = some q → (q.2.1 2).2.2.2 = true ∧ (q.2.1 2).1 = RX3 ∧ parseFieldDescriptor (q.2.1 2).2.2.1 = some (.array .long) := fun q hq => by obtain rfl : q = (RX3, TX3, 6) := (Option.some.inj hq).symm; exact ⟨rfl, rfl, by decide +kernel⟩
theorem ff3_3 : ∀ q : vw_C, cls8[3]? = some q → (q.2.1 3).2.2.2 = true ∧ (q.2.1 3).1 = RX3 ∧ parseFieldDescriptor (q.2.1 3).2.2.1 = some (.array .long) := fun q hq => by obtain rfl : q = (RX3, TX3, 6) := (Option.some.inj hq).symm; exact ⟨rfl, rfl, by decide +kernel⟩
theorem ff3_4 : ∀ q : vw_C, cls8[3]? = some q → (q.2.1 4).2.2.2 = true ∧ (q.2.1 4).1 = RX3 ∧ parseFieldDescriptor (q.2.1 4).2.2.1 = some (.array .long) := fun q hq => by obtain rfl : q = (RX3, TX3, 6) := (Option.some.inj hq).symm; exact ⟨rfl, rfl, by decide +kernel⟩
theorem ff3_5 : ∀ q : vw_C, cls8[3]? = some q → (q.2.1 5).2.2.2 = true ∧ (q.2.1 5).1 = RX3 ∧ parseFieldDescriptor (q.2.1 5).2.2.1 = some (.array .long) := fun q hq => by obtain rfl : q = (RX3, TX3, 6) := (Option.some.inj hq).symm; exact ⟨rfl, rfl, by decide +kernel⟩
theorem ff4_0 : ∀ q : vw_C, cls8[4]? = some q → (q.2.1 0).2.2.2 = true ∧ (q.2.1 0).1 = RX4 ∧ parseFieldDescriptor (q.2.1 0).2.2.1 = some (.array .int) := fun q hq => by obtain rfl : q = (RX4, TX4, 8) := (Option.some.inj hq).symm; exact ⟨rfl, rfl, by decide +kernel⟩
theorem ff4_1 : ∀ q : vw_C, cls8[4]? = some q → (q.2.1 1).2.2.2 = true ∧ (q.2.1 1).1 = RX4 ∧ parseFieldDescriptor (q.2.1 1).2.2.1 = some (.array .int) := fun q hq => by obtain rfl : q = (RX4, TX4, 8) := (Option.some.inj hq).symm; exact ⟨rfl, rfl, by decide +kernel⟩
theorem ff4_2 : ∀ q : vw_C, cls8[4]? = some q → (q.2.1 2).2.2.2 = true ∧ (q.2.1 2).1 = RX4 ∧ parseFieldDescriptor (q.2.1 2).2.2.1 = some (.array .int) := fun q hq => by obtain rfl : q = (RX4, TX4, 8) := (Option.some.inj hq).symm; exact ⟨rfl, rfl, by decide +kernel⟩
theorem ff4_3 : ∀ q : vw_C, cls8[4]? = some q → (q.2.1 3).2.2.2 = true ∧ (q.2.1 3).1 = RX4 ∧ parseFieldDescriptor (q.2.1 3).2.2.1 = some (.array .int) := fun q hq => by obtain rfl : q = (RX4, TX4, 8) := (Option.some.inj hq).symm; exact ⟨rfl, rfl, by decide +kernel⟩
theorem ff4_4 : ∀ q : vw_C, cls8[4]? = some q → (q.2.1 4).2.2.2 = true ∧ (q.2.1 4).1 = RX4 ∧ parseFieldDescriptor (q.2.1 4).2.2.1 = some (.array .int) := fun q hq => by obtain rfl : q = (RX4, TX4, 8) := (Option.some.inj hq).symm; exact ⟨rfl, rfl, by decide +kernel⟩
theorem ff4_5 : ∀ q : vw_C, cls8[4]? = some q → (q.2.1 5).2.2.2 = true ∧ (q.2.1 5).1 = RX4 ∧ parseFieldDescriptor (q.2.1 5).2.2.1 = some (.array .int) := fun q hq => by obtain rfl : q = (RX4, TX4, 8) := (Option.some.inj hq).symm; exact ⟨rfl, rfl, by decide +kernel⟩
theorem nf4_6 : ∀ q : vw_C, cls8[4]? = some q → (q.2.1 6).2.2.2 = false ∧ parseFieldDescriptor (q.2.1 6).2.2.1 = some .int := fun q hq => by obtain rfl : q = (RX4, TX4, 8) := (Option.some.inj hq).symm; exact ⟨rfl, by decide +kernel⟩
theorem nf4_7 : ∀ q : vw_C, cls8[4]? = some q → (q.2.1 7).2.2.2 = false ∧ parseFieldDescriptor (q.2.1 7).2.2.1 = some .int := fun q hq => by obtain rfl : q = (RX4, TX4, 8) := (Option.some.inj hq).symm; exact ⟨rfl, by decide +kernel⟩
theorem ff5_0 : ∀ q : vw_C, cls8[5]? = some q → (q.2.1 0).2.2.2 = true ∧ (q.2.1 0).1 = RX5 ∧ parseFieldDescriptor (q.2.1 0).2.2.1 = some (.object "SpreadDesk$Figures") := fun q hq => by obtain rfl : q = (RX5, TX5, 14) := (Option.some.inj hq).symm; exact ⟨rfl, rfl, by decide +kernel⟩
theorem ff5_1 : ∀ q : vw_C, cls8[5]? = some q → (q.2.1 1).2.2.2 = true ∧ (q.2.1 1).1 = RX5 ∧ parseFieldDescriptor (q.2.1 1).2.2.1 = some (.object "SpreadDesk$Tape") := fun q hq => by obtain rfl : q = (RX5, TX5, 14) := (Option.some.inj hq).symm; exact ⟨rfl, rfl, by decide +kernel⟩
theorem ff5_2 : ∀ q : vw_C, cls8[5]? = some q → (q.2.1 2).2.2.2 = true ∧ (q.2.1 2).1 = RX5 ∧ parseFieldDescriptor (q.2.1 2).2.2.1 = some (.object "SpreadDesk$Reader") := fun q hq => by obtain rfl : q = (RX5, TX5, 14) := (Option.some.inj hq).symm; exact ⟨rfl, rfl, by decide +kernel⟩
theorem ff5_3 : ∀ q : vw_C, cls8[5]? = some q → (q.2.1 3).2.2.2 = true ∧ (q.2.1 3).1 = RX5 ∧ parseFieldDescriptor (q.2.1 3).2.2.1 = some (.object "SpreadDesk$Past") := fun q hq => by obtain rfl : q = (RX5, TX5, 14) := (Option.some.inj hq).symm; exact ⟨rfl, rfl, by decide +kernel⟩
theorem ff5_4 : ∀ q : vw_C, cls8[5]? = some q → (q.2.1 4).2.2.2 = true ∧ (q.2.1 4).1 = RX5 ∧ parseFieldDescriptor (q.2.1 4).2.2.1 = some (.object "SpreadDesk$Sweep") := fun q hq => by obtain rfl : q = (RX5, TX5, 14) := (Option.some.inj hq).symm; exact ⟨rfl, rfl, by decide +kernel⟩
theorem ff5_5 : ∀ q : vw_C, cls8[5]? = some q → (q.2.1 5).2.2.2 = true ∧ (q.2.1 5).1 = RX5 ∧ parseFieldDescriptor (q.2.1 5).2.2.1 = some (.object "SpreadDesk$Figures") := fun q hq => by obtain rfl : q = (RX5, TX5, 14) := (Option.some.inj hq).symm; exact ⟨rfl, rfl, by decide +kernel⟩
theorem ff5_6 : ∀ q : vw_C, cls8[5]? = some q → (q.2.1 6).2.2.2 = true ∧ (q.2.1 6).1 = RX5 ∧ parseFieldDescriptor (q.2.1 6).2.2.1 = some (.object "SpreadDesk$Figures") := fun q hq => by obtain rfl : q = (RX5, TX5, 14) := (Option.some.inj hq).symm; exact ⟨rfl, rfl, by decide +kernel⟩
theorem nf5_7 : ∀ q : vw_C, cls8[5]? = some q → (q.2.1 7).2.2.2 = false ∧ parseFieldDescriptor (q.2.1 7).2.2.1 = some .boolean := fun q hq => by obtain rfl : q = (RX5, TX5, 14) := (Option.some.inj hq).symm; exact ⟨rfl, by decide +kernel⟩
theorem nf5_8 : ∀ q : vw_C, cls8[5]? = some q → (q.2.1 8).2.2.2 = false ∧ parseFieldDescriptor (q.2.1 8).2.2.1 = some .boolean := fun q hq => by obtain rfl : q = (RX5, TX5, 14) := (Option.some.inj hq).symm; exact ⟨rfl, by decide +kernel⟩
theorem ff5_9 : ∀ q : vw_C, cls8[5]? = some q → (q.2.1 9).2.2.2 = true ∧ (q.2.1 9).1 = RX5 ∧ parseFieldDescriptor (q.2.1 9).2.2.1 = some (.array .int) := fun q hq => by obtain rfl : q = (RX5, TX5, 14) := (Option.some.inj hq).symm; exact ⟨rfl, rfl, by decide +kernel⟩
theorem ff5_10 : ∀ q : vw_C, cls8[5]? = some q → (q.2.1 10).2.2.2 = true ∧ (q.2.1 10).1 = RX5 ∧ parseFieldDescriptor (q.2.1 10).2.2.1 = some (.array .long) := fun q hq => by obtain rfl : q = (RX5, TX5, 14) := (Option.some.inj hq).symm; exact ⟨rfl, rfl, by decide +kernel⟩
theorem nf5_11 : ∀ q : vw_C, cls8[5]? = some q → (q.2.1 11).2.2.2 = false ∧ parseFieldDescriptor (q.2.1 11).2.2.1 = some .int := fun q hq => by obtain rfl : q = (RX5, TX5, 14) := (Option.some.inj hq).symm; exact ⟨rfl, by decide +kernel⟩
theorem ff5_12 : ∀ q : vw_C, cls8[5]? = some q → (q.2.1 12).2.2.2 = true ∧ (q.2.1 12).1 = RX5 ∧ parseFieldDescriptor (q.2.1 12).2.2.1 = some (.array .long) := fun q hq => by obtain rfl : q = (RX5, TX5, 14) := (Option.some.inj hq).symm; exact ⟨rfl, rfl, by decide +kernel⟩
theorem ff5_13 : ∀ q : vw_C, cls8[5]? = some q → (q.2.1 13).2.2.2 = true ∧ (q.2.1 13).1 = RX5 ∧ parseFieldDescriptor (q.2.1 13).2.2.1 = some (.array .long) := fun q hq => by obtain rfl : q = (RX5, TX5, 14) := (Option.some.inj hq).symm; exact ⟨rfl, rfl, by decide +kernel⟩
theorem nf6_0 : ∀ q : vw_C, cls8[6]? = some q → (q.2.1 0).2.2.2 = false ∧ parseFieldDescriptor (q.2.1 0).2.2.1 = some .int := fun q hq => by obtain rfl : q = (RX6, TX6, 40) := (Option.some.inj hq).symm; exact ⟨rfl, by decide +kernel⟩
theorem ff6_1 : ∀ q : vw_C, cls8[6]? = some q → (q.2.1 1).2.2.2 = true ∧ (q.2.1 1).1 = RX6 ∧ parseFieldDescriptor (q.2.1 1).2.2.1 = some (.array .int) := fun q hq => by obtain rfl : q = (RX6, TX6, 40) := (Option.some.inj hq).symm; exact ⟨rfl, rfl, by decide +kernel⟩
theorem nf6_2 : ∀ q : vw_C, cls8[6]? = some q → (q.2.1 2).2.2.2 = false ∧ parseFieldDescriptor (q.2.1 2).2.2.1 = some .int := fun q hq => by obtain rfl : q = (RX6, TX6, 40) := (Option.some.inj hq).symm; exact ⟨rfl, by decide +kernel⟩
theorem nf6_3 : ∀ q : vw_C, cls8[6]? = some q → (q.2.1 3).2.2.2 = false ∧ parseFieldDescriptor (q.2.1 3).2.2.1 = some .int := fun q hq => by obtain rfl : q = (RX6, TX6, 40) := (Option.some.inj hq).symm; exact ⟨rfl, by decide +kernel⟩
theorem nf6_4 : ∀ q : vw_C, cls8[6]? = some q → (q.2.1 4).2.2.2 = false ∧ parseFieldDescriptor (q.2.1 4).2.2.1 = some .int := fun q hq => by obtain rfl : q = (RX6, TX6, 40) := (Option.some.inj hq).symm; exact ⟨rfl, by decide +kernel⟩
theorem nf6_5 : ∀ q : vw_C, cls8[6]? = some q → (q.2.1 5).2.2.2 = false ∧ parseFieldDescriptor (q.2.1 5).2.2.1 = some .int := fun q hq => by obtain rfl : q = (RX6, TX6, 40) := (Option.some.inj hq).symm; exact ⟨rfl, by decide +kernel⟩
theorem nf6_6 : ∀ q : vw_C, cls8[6]? = some q → (q.2.1 6).2.2.2 = false ∧ parseFieldDescriptor (q.2.1 6).2.2.1 = some .int := fun q hq => by obtain rfl : q = (RX6, TX6, 40) := (Option.some.inj hq).symm; exact ⟨rfl, by decide +kernel⟩
theorem nf6_7 : ∀ q : vw_C, cls8[6]? = some q → (q.2.1 7).2.2.2 = false ∧ parseFieldDescriptor (q.2.1 7).2.2.1 = some .int := fun q hq => by obtain rfl : q = (RX6, TX6, 40) := (Option.some.inj hq).symm; exact ⟨rfl, by decide +kernel⟩
theorem nf6_8 : ∀ q : vw_C, cls8[6]? = some q → (q.2.1 8).2.2.2 = false ∧ parseFieldDescriptor (q.2.1 8).2.2.1 = some .int := fun q hq => by obtain rfl : q = (RX6, TX6, 40) := (Option.some.inj hq).symm; exact ⟨rfl, by decide +kernel⟩
theorem ff6_9 : ∀ q : vw_C, cls8[6]? = some q → (q.2.1 9).2.2.2 = true ∧ (q.2.1 9).1 = RX6 ∧ parseFieldDescriptor (q.2.1 9).2.2.1 = some (.array .int) := fun q hq => by obtain rfl : q = (RX6, TX6, 40) := (Option.some.inj hq).symm; exact ⟨rfl, rfl, by decide +kernel⟩
theorem ff6_10 : ∀ q : vw_C, cls8[6]? = some q → (q.2.1 10).2.2.2 = true ∧ (q.2.1 10).1 = RX6 ∧ parseFieldDescriptor (q.2.1 10).2.2.1 = some (.array .int) := fun q hq => by obtain rfl : q = (RX6, TX6, 40) := (Option.some.inj hq).symm; exact ⟨rfl, rfl, by decide +kernel⟩
theorem ff6_11 : ∀ q : vw_C, cls8[6]? = some q → (q.2.1 11).2.2.2 = true ∧ (q.2.1 11).1 = RX6 ∧ parseFieldDescriptor (q.2.1 11).2.2.1 = some (.array .int) := fun q hq => by obtain rfl : q = (RX6, TX6, 40) := (Option.some.inj hq).symm; exact ⟨rfl, rfl, by decide +kernel⟩
theorem ff6_12 : ∀ q : vw_C, cls8[6]? = some q → (q.2.1 12).2.2.2 = true ∧ (q.2.1 12).1 = RX6 ∧ parseFieldDescriptor (q.2.1 12).2.2.1 = some (.array .int) := fun q hq => by obtain rfl : q = (RX6, TX6, 40) := (Option.some.inj hq).symm; exact ⟨rfl, rfl, by decide +kernel⟩
theorem ff6_13 : ∀ q : vw_C, cls8[6]? = some q → (q.2.1 13).2.2.2 = true ∧ (q.2.1 13).1 = RX6 ∧ parseFieldDescriptor (q.2.1 13).2.2.1 = some (.array .int) := fun q hq => by obtain rfl : q = (RX6, TX6, 40) := (Option.some.inj hq).symm; exact ⟨rfl, rfl, by decide +kernel⟩
theorem nf6_14 : ∀ q : vw_C, cls8[6]? = some q → (q.2.1 14).2.2.2 = false ∧ parseFieldDescriptor (q.2.1 14).2.2.1 = some .int := fun q hq => by obtain rfl : q = (RX6, TX6, 40) := (Option.some.inj hq).symm; exact ⟨rfl, by decide +kernel⟩
theorem ff6_15 : ∀ q : vw_C, cls8[6]? = some q → (q.2.1 15).2.2.2 = true ∧ (q.2.1 15).1 = RX6 ∧ parseFieldDescriptor (q.2.1 15).2.2.1 = some (.array .int) := fun q hq => by obtain rfl : q = (RX6, TX6, 40) := (Option.some.inj hq).symm; exact ⟨rfl, rfl, by decide +kernel⟩
theorem ff6_16 : ∀ q : vw_C, cls8[6]? = some q → (q.2.1 16).2.2.2 = true ∧ (q.2.1 16).1 = RX6 ∧ parseFieldDescriptor (q.2.1 16).2.2.1 = some (.array .int) := fun q hq => by obtain rfl : q = (RX6, TX6, 40) := (Option.some.inj hq).symm; exact ⟨rfl, rfl, by decide +kernel⟩
theorem ff6_17 : ∀ q : vw_C, cls8[6]? = some q → (q.2.1 17).2.2.2 = true ∧ (q.2.1 17).1 = RX6 ∧ parseFieldDescriptor (q.2.1 17).2.2.1 = some (.array .int) := fun q hq => by obtain rfl : q = (RX6, TX6, 40) := (Option.some.inj hq).symm; exact ⟨rfl, rfl, by decide +kernel⟩
theorem ff6_18 : ∀ q : vw_C, cls8[6]? = some q → (q.2.1 18).2.2.2 = true ∧ (q.2.1 18).1 = RX6 ∧ parseFieldDescriptor (q.2.1 18).2.2.1 = some (.array .int) := fun q hq => by obtain rfl : q = (RX6, TX6, 40) := (Option.some.inj hq).symm; exact ⟨rfl, rfl, by decide +kernel⟩
theorem ff6_19 : ∀ q : vw_C, cls8[6]? = some q → (q.2.1 19).2.2.2 = true ∧ (q.2.1 19).1 = RX6 ∧ parseFieldDescriptor (q.2.1 19).2.2.1 = some (.array .int) := fun q hq => by obtain rfl : q = (RX6, TX6, 40) := (Option.some.inj hq).symm; exact ⟨rfl, rfl, by decide +kernel⟩
theorem ff6_20 : ∀ q : vw_C, cls8[6]? = some q → (q.2.1 20).2.2.2 = true ∧ (q.2.1 20).1 = RX6 ∧ parseFieldDescriptor (q.2.1 20).2.2.1 = some (.array .int) := fun q hq => by obtain rfl : q = (RX6, TX6, 40) := (Option.some.inj hq).symm; exact ⟨rfl, rfl, by decide +kernel⟩
theorem ff6_21 : ∀ q : vw_C, cls8[6]? = some q → (q.2.1 21).2.2.2 = true ∧ (q.2.1 21).1 = RX6 ∧ parseFieldDescriptor (q.2.1 21).2.2.1 = some (.array .int) := fun q hq => by obtain rfl : q = (RX6, TX6, 40) := (Option.some.inj hq).symm; exact ⟨rfl, rfl, by decide +kernel⟩
theorem ff6_22 : ∀ q : vw_C, cls8[6]? = some q → (q.2.1 22).2.2.2 = true ∧ (q.2.1 22).1 = RX6 ∧ parseFieldDescriptor (q.2.1 22).2.2.1 = some (.array .int) := fun q hq => by obtain rfl : q = (RX6, TX6, 40) := (Option.some.inj hq).symm; exact ⟨rfl, rfl, by decide +kernel⟩
theorem nf6_23 : ∀ q : vw_C, cls8[6]? = some q → (q.2.1 23).2.2.2 = false ∧ parseFieldDescriptor (q.2.1 23).2.2.1 = some .int := fun q hq => by obtain rfl : q = (RX6, TX6, 40) := (Option.some.inj hq).symm; exact ⟨rfl, by decide +kernel⟩
theorem ff6_24 : ∀ q : vw_C, cls8[6]? = some q → (q.2.1 24).2.2.2 = true ∧ (q.2.1 24).1 = RX6 ∧ parseFieldDescriptor (q.2.1 24).2.2.1 = some (.array .int) := fun q hq => by obtain rfl : q = (RX6, TX6, 40) := (Option.some.inj hq).symm; exact ⟨rfl, rfl, by decide +kernel⟩
theorem ff6_25 : ∀ q : vw_C, cls8[6]? = some q → (q.2.1 25).2.2.2 = true ∧ (q.2.1 25).1 = RX6 ∧ parseFieldDescriptor (q.2.1 25).2.2.1 = some (.array .boolean) := fun q hq => by obtain rfl : q = (RX6, TX6, 40) := (Option.some.inj hq).symm; exact ⟨rfl, rfl, by decide +kernel⟩
theorem ff6_26 : ∀ q : vw_C, cls8[6]? = some q → (q.2.1 26).2.2.2 = true ∧ (q.2.1 26).1 = RX6 ∧ parseFieldDescriptor (q.2.1 26).2.2.1 = some (.array .int) := fun q hq => by obtain rfl : q = (RX6, TX6, 40) := (Option.some.inj hq).symm; exact ⟨rfl, rfl, by decide +kernel⟩
theorem ff6_27 : ∀ q : vw_C, cls8[6]? = some q → (q.2.1 27).2.2.2 = true ∧ (q.2.1 27).1 = RX6 ∧ parseFieldDescriptor (q.2.1 27).2.2.1 = some (.array .long) := fun q hq => by obtain rfl : q = (RX6, TX6, 40) := (Option.some.inj hq).symm; exact ⟨rfl, rfl, by decide +kernel⟩
theorem nf6_28 : ∀ q : vw_C, cls8[6]? = some q → (q.2.1 28).2.2.2 = false ∧ parseFieldDescriptor (q.2.1 28).2.2.1 = some .int := fun q hq => by obtain rfl : q = (RX6, TX6, 40) := (Option.some.inj hq).symm; exact ⟨rfl, by decide +kernel⟩
theorem ff6_29 : ∀ q : vw_C, cls8[6]? = some q → (q.2.1 29).2.2.2 = true ∧ (q.2.1 29).1 = RX6 ∧ parseFieldDescriptor (q.2.1 29).2.2.1 = some (.array .int) := fun q hq => by obtain rfl : q = (RX6, TX6, 40) := (Option.some.inj hq).symm; exact ⟨rfl, rfl, by decide +kernel⟩
theorem nf6_30 : ∀ q : vw_C, cls8[6]? = some q → (q.2.1 30).2.2.2 = false ∧ parseFieldDescriptor (q.2.1 30).2.2.1 = some .int := fun q hq => by obtain rfl : q = (RX6, TX6, 40) := (Option.some.inj hq).symm; exact ⟨rfl, by decide +kernel⟩
theorem ff6_31 : ∀ q : vw_C, cls8[6]? = some q → (q.2.1 31).2.2.2 = true ∧ (q.2.1 31).1 = RX6 ∧ parseFieldDescriptor (q.2.1 31).2.2.1 = some (.array .int) := fun q hq => by obtain rfl : q = (RX6, TX6, 40) := (Option.some.inj hq).symm; exact ⟨rfl, rfl, by decide +kernel⟩
theorem nf6_32 : ∀ q : vw_C, cls8[6]? = some q → (q.2.1 32).2.2.2 = false ∧ parseFieldDescriptor (q.2.1 32).2.2.1 = some .int := fun q hq => by obtain rfl : q = (RX6, TX6, 40) := (Option.some.inj hq).symm; exact ⟨rfl, by decide +kernel⟩
theorem nf6_33 : ∀ q : vw_C, cls8[6]? = some q → (q.2.1 33).2.2.2 = false ∧ parseFieldDescriptor (q.2.1 33).2.2.1 = some .int := fun q hq => by obtain rfl : q = (RX6, TX6, 40) := (Option.some.inj hq).symm; exact ⟨rfl, by decide +kernel⟩
theorem nf6_34 : ∀ q : vw_C, cls8[6]? = some q → (q.2.1 34).2.2.2 = false ∧ parseFieldDescriptor (q.2.1 34).2.2.1 = some .int := fun q hq => by obtain rfl : q = (RX6, TX6, 40) := (Option.some.inj hq).symm; exact ⟨rfl, by decide +kernel⟩
theorem ff6_35 : ∀ q : vw_C, cls8[6]? = some q → (q.2.1 35).2.2.2 = true ∧ (q.2.1 35).1 = RX6 ∧ parseFieldDescriptor (q.2.1 35).2.2.1 = some (.array .long) := fun q hq => by obtain rfl : q = (RX6, TX6, 40) := (Option.some.inj hq).symm; exact ⟨rfl, rfl, by decide +kernel⟩
theorem ff6_36 : ∀ q : vw_C, cls8[6]? = some q → (q.2.1 36).2.2.2 = true ∧ (q.2.1 36).1 = RX6 ∧ parseFieldDescriptor (q.2.1 36).2.2.1 = some (.array .long) := fun q hq => by obtain rfl : q = (RX6, TX6, 40) := (Option.some.inj hq).symm; exact ⟨rfl, rfl, by decide +kernel⟩
theorem ff6_37 : ∀ q : vw_C, cls8[6]? = some q → (q.2.1 37).2.2.2 = true ∧ (q.2.1 37).1 = RX6 ∧ parseFieldDescriptor (q.2.1 37).2.2.1 = some (.array .long) := fun q hq => by obtain rfl : q = (RX6, TX6, 40) := (Option.some.inj hq).symm; exact ⟨rfl, rfl, by decide +kernel⟩
theorem ff6_38 : ∀ q : vw_C, cls8[6]? = some q → (q.2.1 38).2.2.2 = true ∧ (q.2.1 38).1 = RX6 ∧ parseFieldDescriptor (q.2.1 38).2.2.1 = some (.array .int) := fun q hq => by obtain rfl : q = (RX6, TX6, 40) := (Option.some.inj hq).symm; exact ⟨rfl, rfl, by decide +kernel⟩
theorem ff6_39 : ∀ q : vw_C, cls8[6]? = some q → (q.2.1 39).2.2.2 = true ∧ (q.2.1 39).1 = RX6 ∧ parseFieldDescriptor (q.2.1 39).2.2.1 = some (.array .int) := fun q hq => by obtain rfl : q = (RX6, TX6, 40) := (Option.some.inj hq).symm; exact ⟨rfl, rfl, by decide +kernel⟩
theorem clL_7 : Cond.classLink RL 7 RX5 ∈ gw := gi 73 _ (by decide +kernel) rfl
theorem lkL_9 : ILK RL 9 yX5_init := ⟨gi 75 _ (by decide +kernel) rfl, gi 76 _ (by decide +kernel) rfl, rfl⟩
theorem lkX5_3 : Cond.methodLink RX5 3 objectInit ∈ gw := gi 78 _ (by decide +kernel) rfl
theorem clX5_9 : Cond.classLink RX5 9 RX0 ∈ gw := gi 81 _ (by decide +kernel) rfl
theorem lkX5_11 : ILK RX5 11 yX0_init := ⟨gi 83 _ (by decide +kernel) rfl, gi 84 _ (by decide +kernel) rfl, rfl⟩
theorem lkX0_3 : Cond.methodLink RX0 3 objectInit ∈ gw := gi 86 _ (by decide +kernel) rfl
theorem clX5_16 : Cond.classLink RX5 16 RX4 ∈ gw := gi 95 _ (by decide +kernel) rfl
theorem lkX5_18 : ILK RX5 18 yX4_init := ⟨gi 97 _ (by decide +kernel) rfl, gi 98 _ (by decide +kernel) rfl, rfl⟩
theorem lkX4_3 : Cond.methodLink RX4 3 objectInit ∈ gw := gi 100 _ (by decide +kernel) rfl
theorem clX5_23 : Cond.classLink RX5 23 RX2 ∈ gw := gi 129 _ (by decide +kernel) rfl
theorem lkX5_25 : ILK RX5 25 yX2_init := ⟨gi 131 _ (by decide +kernel) rfl, gi 132 _ (by decide +kernel) rfl, rfl⟩
theorem lkX2_3 : Cond.methodLink RX2 3 objectInit ∈ gw := gi 134 _ (by decide +kernel) rfl
theorem clX2_9 : Cond.classLink RX2 9 RX0 ∈ gw := gi 135 _ (by decide +kernel) rfl
theorem lkX2_11 : ILK RX2 11 yX0_init := ⟨gi 136 _ (by decide +kernel) rfl, gi 84 _ (by decide +kernel) rfl, rfl⟩
theorem clX2_18 : Cond.classLink RX2 18 RX4 ∈ gw := gi 137 _ (by decide +kernel) rfl
theorem lkX2_20 : ILK RX2 20 yX4_init := ⟨gi 138 _ (by decide +kernel) rfl, gi 98 _ (by decide +kernel) rfl, rfl⟩
theorem clX5_30 : Cond.classLink RX5 30 RX1 ∈ gw := gi 169 _ (by decide +kernel) rfl
theorem lkX5_32 : ILK RX5 32 yX1_init := ⟨gi 171 _ (by decide +kernel) rfl, gi 172 _ (by decide +kernel) rfl, rfl⟩
theorem lkX1_3 : Cond.methodLink RX1 3 objectInit ∈ gw := gi 174 _ (by decide +kernel) rfl
theorem clX5_37 : Cond.classLink RX5 37 RX3 ∈ gw := gi 188 _ (by decide +kernel) rfl
theorem lkX5_39 : ILK RX5 39 yX3_init := ⟨gi 190 _ (by decide +kernel) rfl, gi 191 _ (by decide +kernel) rfl, rfl⟩
theorem lkX3_3 : Cond.methodLink RX3 3 objectInit ∈ gw := gi 193 _ (by decide +kernel) rfl
theorem lkL_13 : VLK RL 13 yX5_type := ⟨gi 257 _ (by decide +kernel) rfl, gi 258 _ (by decide +kernel) rfl, gi 259 _ (by decide +kernel) rfl⟩
theorem lkX5_66 : VLK RX5 66 yX2_add := ⟨gi 261 _ (by decide +kernel) rfl, gi 262 _ (by decide +kernel) rfl, gi 263 _ (by decide +kernel) rfl⟩
theorem lkX5_70 : VLK RX5 70 yX2_letters := ⟨gi 265 _ (by decide +kernel) rfl, gi 266 _ (by decide +kernel) rfl, gi 267 _ (by decide +kernel) rfl⟩
theorem lkL_18 : VLK RL 18 yX5_clear := ⟨gi 269 _ (by decide +kernel) rfl, gi 270 _ (by decide +kernel) rfl, gi 271 _ (by decide +kernel) rfl⟩
theorem lkX5_74 : VLK RX5 74 yX2_drop := ⟨gi 273 _ (by decide +kernel) rfl, gi 274 _ (by decide +kernel) rfl, gi 275 _ (by decide +kernel) rfl⟩
theorem lkL_23 : VLK RL 23 yX5_desk := ⟨gi 277 _ (by decide +kernel) rfl, gi 278 _ (by decide +kernel) rfl, gi 279 _ (by decide +kernel) rfl⟩
theorem lkX5_77 : VLK RX5 77 yX2_read := ⟨gi 281 _ (by decide +kernel) rfl, gi 282 _ (by decide +kernel) rfl, gi 283 _ (by decide +kernel) rfl⟩
theorem lkX2_33 : VLK RX2 33 yX0_reset := ⟨gi 285 _ (by decide +kernel) rfl, gi 286 _ (by decide +kernel) rfl, gi 287 _ (by decide +kernel) rfl⟩
theorem lkX2_36 : VLK RX2 36 yX4_reset := ⟨gi 289 _ (by decide +kernel) rfl, gi 290 _ (by decide +kernel) rfl, gi 291 _ (by decide +kernel) rfl⟩
theorem lkX2_40 : VLK RX2 40 yX2_pass := ⟨gi 293 _ (by decide +kernel) rfl, gi 295 _ (by decide +kernel) rfl, gi 0 _ (by decide +kernel) rfl⟩
theorem lkX2_134 : SLK RX2 134 yX2_isDigit := ⟨gi 297 _ (by decide +kernel) rfl, gi 298 _ (by decide +kernel) rfl⟩
theorem lkX2_137 : VLK RX2 137 yX2_passDigits := ⟨gi 300 _ (by decide +kernel) rfl, gi 302 _ (by decide +kernel) rfl, gi 1 _ (by decide +kernel) rfl⟩
theorem lkX2_46 : VLK RX2 46 yX2_readItem := ⟨gi 304 _ (by decide +kernel) rfl, gi 306 _ (by decide +kernel) rfl, gi 2 _ (by decide +kernel) rfl⟩
theorem lkX2_53 : VLK RX2 53 yX2_readSource := ⟨gi 308 _ (by decide +kernel) rfl, gi 310 _ (by decide +kernel) rfl, gi 3 _ (by decide +kernel) rfl⟩
theorem lkX2_62 : VLK RX2 62 yX2_sourceAtHand := ⟨gi 312 _ (by decide +kernel) rfl, gi 314 _ (by decide +kernel) rfl, gi 4 _ (by decide +kernel) rfl⟩
theorem lkX2_66 : SNK RX2 66 yX5_isSource := ⟨⟨"SpreadDesk", by decide +kernel⟩, gi 317 _ (by decide +kernel) rfl⟩
theorem lkX2_70 : VLK RX2 70 yX2_passSign := ⟨gi 319 _ (by decide +kernel) rfl, gi 321 _ (by decide +kernel) rfl, gi 5 _ (by decide +kernel) rfl⟩
theorem lkX2_76 : VLK RX2 76 yX0_setWorth := ⟨gi 323 _ (by decide +kernel) rfl, gi 324 _ (by decide +kernel) rfl, gi 325 _ (by decide +kernel) rfl⟩
theorem lkX0_18 : SNK RX0 18 yX5_isSource := ⟨⟨"SpreadDesk", by decide +kernel⟩, gi 317 _ (by decide +kernel) rfl⟩
theorem lkX2_80 : VLK RX2 80 yX0_setSpread := ⟨gi 328 _ (by decide +kernel) rfl, gi 329 _ (by decide +kernel) rfl, gi 330 _ (by decide +kernel) rfl⟩
theorem lkX2_56 : VLK RX2 56 yX2_readJoint := ⟨gi 332 _ (by decide +kernel) rfl, gi 334 _ (by decide +kernel) rfl, gi 6 _ (by decide +kernel) rfl⟩
theorem lkX2_59 : VLK RX2 59 yX2_readFormula := ⟨gi 336 _ (by decide +kernel) rfl, gi 338 _ (by decide +kernel) rfl, gi 7 _ (by decide +kernel) rfl⟩
theorem lkX2_84 : VLK RX2 84 yX4_formulas := ⟨gi 340 _ (by decide +kernel) rfl, gi 341 _ (by decide +kernel) rfl, gi 342 _ (by decide +kernel) rfl⟩
theorem lkX2_90 : VLK RX2 90 yX2_readSum := ⟨gi 344 _ (by decide +kernel) rfl, gi 346 _ (by decide +kernel) rfl, gi 8 _ (by decide +kernel) rfl⟩
theorem lkX2_97 : VLK RX2 97 yX2_readProduct := ⟨gi 348 _ (by decide +kernel) rfl, gi 350 _ (by decide +kernel) rfl, gi 9 _ (by decide +kernel) rfl⟩
theorem lkX2_107 : VLK RX2 107 yX2_readPower := ⟨gi 352 _ (by decide +kernel) rfl, gi 354 _ (by decide +kernel) rfl, gi 10 _ (by decide +kernel) rfl⟩
theorem lkX2_110 : VLK RX2 110 yX2_readPart := ⟨gi 356 _ (by decide +kernel) rfl, gi 358 _ (by decide +kernel) rfl, gi 11 _ (by decide +kernel) rfl⟩
theorem lkX2_100 : VLK RX2 100 yX2_countNode := ⟨gi 360 _ (by decide +kernel) rfl, gi 362 _ (by decide +kernel) rfl, gi 12 _ (by decide +kernel) rfl⟩
theorem lkX2_116 : VLK RX2 116 yX2_readBarePart := ⟨gi 364 _ (by decide +kernel) rfl, gi 366 _ (by decide +kernel) rfl, gi 13 _ (by decide +kernel) rfl⟩
theorem lkX2_119 : VLK RX2 119 yX2_readInner := ⟨gi 368 _ (by decide +kernel) rfl, gi 370 _ (by decide +kernel) rfl, gi 14 _ (by decide +kernel) rfl⟩
theorem lkX2_122 : VLK RX2 122 yX2_readEarlier := ⟨gi 372 _ (by decide +kernel) rfl, gi 374 _ (by decide +kernel) rfl, gi 15 _ (by decide +kernel) rfl⟩
theorem lkX2_131 : VLK RX2 131 yX4_root := ⟨gi 376 _ (by decide +kernel) rfl, gi 377 _ (by decide +kernel) rfl, gi 378 _ (by decide +kernel) rfl⟩
theorem lkX4_34 : VLK RX4 34 yX4_stop := ⟨gi 380 _ (by decide +kernel) rfl, gi 381 _ (by decide +kernel) rfl, gi 382 _ (by decide +kernel) rfl⟩
theorem lkX2_113 : VLK RX2 113 yX4_addOver := ⟨gi 384 _ (by decide +kernel) rfl, gi 385 _ (by decide +kernel) rfl, gi 386 _ (by decide +kernel) rfl⟩
theorem lkX4_44 : VLK RX4 44 yX4_steps := ⟨gi 388 _ (by decide +kernel) rfl, gi 389 _ (by decide +kernel) rfl, gi 390 _ (by decide +kernel) rfl⟩
theorem lkX4_46 : VLK RX4 46 yX4_names := ⟨gi 392 _ (by decide +kernel) rfl, gi 393 _ (by decide +kernel) rfl, gi 394 _ (by decide +kernel) rfl⟩
theorem lkX4_40 : VLK RX4 40 yX4_add := ⟨gi 396 _ (by decide +kernel) rfl, gi 398 _ (by decide +kernel) rfl, gi 16 _ (by decide +kernel) rfl⟩
theorem lkX2_125 : VLK RX2 125 yX4_addNumber := ⟨gi 400 _ (by decide +kernel) rfl, gi 401 _ (by decide +kernel) rfl, gi 402 _ (by decide +kernel) rfl⟩
theorem lkX2_128 : VLK RX2 128 yX4_addSource := ⟨gi 404 _ (by decide +kernel) rfl, gi 405 _ (by decide +kernel) rfl, gi 406 _ (by decide +kernel) rfl⟩
theorem lkX2_103 : VLK RX2 103 yX4_addBoth := ⟨gi 408 _ (by decide +kernel) rfl, gi 409 _ (by decide +kernel) rfl, gi 410 _ (by decide +kernel) rfl⟩
theorem lkX2_94 : VLK RX2 94 yX4_endFormula := ⟨gi 412 _ (by decide +kernel) rfl, gi 413 _ (by decide +kernel) rfl, gi 414 _ (by decide +kernel) rfl⟩
theorem lkX5_81 : VLK RX5 81 yX0_take := ⟨gi 416 _ (by decide +kernel) rfl, gi 417 _ (by decide +kernel) rfl, gi 418 _ (by decide +kernel) rfl⟩
theorem lkX5_86 : VLK RX5 86 yX4_take := ⟨gi 420 _ (by decide +kernel) rfl, gi 421 _ (by decide +kernel) rfl, gi 422 _ (by decide +kernel) rfl⟩
theorem lkX5_89 : VLK RX5 89 yX1_lose := ⟨gi 424 _ (by decide +kernel) rfl, gi 425 _ (by decide +kernel) rfl, gi 426 _ (by decide +kernel) rfl⟩
theorem lkL_27 : VLK RL 27 yX5_source := ⟨gi 428 _ (by decide +kernel) rfl, gi 429 _ (by decide +kernel) rfl, gi 430 _ (by decide +kernel) rfl⟩
theorem lkX5_103 : SLK RX5 103 yX5_isSource := ⟨gi 432 _ (by decide +kernel) rfl, gi 317 _ (by decide +kernel) rfl⟩
theorem kX5_106 : Cond.constantLong RX5 106 (-9000000000000000000 : Int64) ∈ gw := gi 433 _ (by decide +kernel) rfl
theorem lkX5_108 : VLK RX5 108 yX0_worth := ⟨gi 434 _ (by decide +kernel) rfl, gi 435 _ (by decide +kernel) rfl, gi 436 _ (by decide +kernel) rfl⟩
theorem lkX5_112 : VLK RX5 112 yX0_spread := ⟨gi 438 _ (by decide +kernel) rfl, gi 439 _ (by decide +kernel) rfl, gi 440 _ (by decide +kernel) rfl⟩
theorem lkL_32 : VLK RL 32 yX5_joint := ⟨gi 442 _ (by decide +kernel) rfl, gi 443 _ (by decide +kernel) rfl, gi 444 _ (by decide +kernel) rfl⟩
theorem lkL_36 : VLK RL 36 yX5_values := ⟨gi 446 _ (by decide +kernel) rfl, gi 447 _ (by decide +kernel) rfl, gi 448 _ (by decide +kernel) rfl⟩
theorem lkX5_116 : VLK RX5 116 yX1_add := ⟨gi 450 _ (by decide +kernel) rfl, gi 451 _ (by decide +kernel) rfl, gi 452 _ (by decide +kernel) rfl⟩
theorem lkX1_25 : VLK RX1 25 yX1_loseOldest := ⟨gi 454 _ (by decide +kernel) rfl, gi 456 _ (by decide +kernel) rfl, gi 17 _ (by decide +kernel) rfl⟩
theorem lkX5_119 : VLK RX5 119 yX0_setWorth := ⟨gi 458 _ (by decide +kernel) rfl, gi 324 _ (by decide +kernel) rfl, gi 325 _ (by decide +kernel) rfl⟩
theorem lkL_41 : VLK RL 41 yX5_spreads := ⟨gi 459 _ (by decide +kernel) rfl, gi 460 _ (by decide +kernel) rfl, gi 461 _ (by decide +kernel) rfl⟩
theorem lkX5_123 : VLK RX5 123 yX0_setSpread := ⟨gi 463 _ (by decide +kernel) rfl, gi 329 _ (by decide +kernel) rfl, gi 330 _ (by decide +kernel) rfl⟩
theorem lkL_45 : VLK RL 45 yX5_joints := ⟨gi 464 _ (by decide +kernel) rfl, gi 465 _ (by decide +kernel) rfl, gi 466 _ (by decide +kernel) rfl⟩
theorem lkL_50 : VLK RL 50 yX5_undo := ⟨gi 468 _ (by decide +kernel) rfl, gi 469 _ (by decide +kernel) rfl, gi 470 _ (by decide +kernel) rfl⟩
theorem lkX5_126 : VLK RX5 126 yX1_takeBack := ⟨gi 472 _ (by decide +kernel) rfl, gi 473 _ (by decide +kernel) rfl, gi 474 _ (by decide +kernel) rfl⟩
theorem lkX1_28 : VLK RX1 28 yX0_setWorth := ⟨gi 476 _ (by decide +kernel) rfl, gi 324 _ (by decide +kernel) rfl, gi 325 _ (by decide +kernel) rfl⟩
theorem lkX1_34 : VLK RX1 34 yX0_setSpread := ⟨gi 477 _ (by decide +kernel) rfl, gi 329 _ (by decide +kernel) rfl, gi 330 _ (by decide +kernel) rfl⟩
theorem lkX5_130 : VLK RX5 130 yX1_known := ⟨gi 478 _ (by decide +kernel) rfl, gi 479 _ (by decide +kernel) rfl, gi 480 _ (by decide +kernel) rfl⟩
theorem lkL_54 : VLK RL 54 yX5_value := ⟨gi 482 _ (by decide +kernel) rfl, gi 483 _ (by decide +kernel) rfl, gi 484 _ (by decide +kernel) rfl⟩
theorem lkX5_133 : VLK RX5 133 yX5_isTold := ⟨gi 486 _ (by decide +kernel) rfl, gi 488 _ (by decide +kernel) rfl, gi 18 _ (by decide +kernel) rfl⟩
theorem lkX5_177 : VLK RX5 177 yX4_formulas := ⟨gi 490 _ (by decide +kernel) rfl, gi 341 _ (by decide +kernel) rfl, gi 342 _ (by decide +kernel) rfl⟩
theorem lkX5_136 : VLK RX5 136 yX3_worth := ⟨gi 491 _ (by decide +kernel) rfl, gi 492 _ (by decide +kernel) rfl, gi 493 _ (by decide +kernel) rfl⟩
theorem lkX3_32 : VLK RX3 32 yX4_stop := ⟨gi 495 _ (by decide +kernel) rfl, gi 381 _ (by decide +kernel) rfl, gi 382 _ (by decide +kernel) rfl⟩
theorem lkX3_38 : VLK RX3 38 yX3_walkWorth := ⟨gi 496 _ (by decide +kernel) rfl, gi 498 _ (by decide +kernel) rfl, gi 19 _ (by decide +kernel) rfl⟩
theorem lkX3_57 : VLK RX3 57 yX3_worthOf := ⟨gi 500 _ (by decide +kernel) rfl, gi 502 _ (by decide +kernel) rfl, gi 20 _ (by decide +kernel) rfl⟩
theorem lkX3_71 : VLK RX3 71 yX0_worth := ⟨gi 504 _ (by decide +kernel) rfl, gi 435 _ (by decide +kernel) rfl, gi 436 _ (by decide +kernel) rfl⟩
theorem lkX3_45 : SLK RX3 45 yX3_at := ⟨gi 505 _ (by decide +kernel) rfl, gi 506 _ (by decide +kernel) rfl⟩
theorem lkX3_75 : SLK RX3 75 yX3_power := ⟨gi 508 _ (by decide +kernel) rfl, gi 509 _ (by decide +kernel) rfl⟩
theorem lkX3_42 : VLK RX3 42 yX4_root := ⟨gi 511 _ (by decide +kernel) rfl, gi 377 _ (by decide +kernel) rfl, gi 378 _ (by decide +kernel) rfl⟩
theorem lkL_59 : VLK RL 59 yX5_slope := ⟨gi 512 _ (by decide +kernel) rfl, gi 513 _ (by decide +kernel) rfl, gi 514 _ (by decide +kernel) rfl⟩
theorem lkX5_139 : VLK RX5 139 yX3_slopeBy := ⟨gi 516 _ (by decide +kernel) rfl, gi 517 _ (by decide +kernel) rfl, gi 518 _ (by decide +kernel) rfl⟩
theorem lkX3_49 : VLK RX3 49 yX3_walkSlope := ⟨gi 520 _ (by decide +kernel) rfl, gi 522 _ (by decide +kernel) rfl, gi 21 _ (by decide +kernel) rfl⟩
theorem lkX3_79 : VLK RX3 79 yX3_slopeOf := ⟨gi 524 _ (by decide +kernel) rfl, gi 526 _ (by decide +kernel) rfl, gi 22 _ (by decide +kernel) rfl⟩
theorem lkL_63 : VLK RL 63 yX5_bend := ⟨gi 528 _ (by decide +kernel) rfl, gi 529 _ (by decide +kernel) rfl, gi 530 _ (by decide +kernel) rfl⟩
theorem lkX5_143 : VLK RX5 143 yX3_bendBy := ⟨gi 532 _ (by decide +kernel) rfl, gi 533 _ (by decide +kernel) rfl, gi 534 _ (by decide +kernel) rfl⟩
theorem lkX3_53 : VLK RX3 53 yX3_walkBend := ⟨gi 536 _ (by decide +kernel) rfl, gi 538 _ (by decide +kernel) rfl, gi 23 _ (by decide +kernel) rfl⟩
theorem lkX3_83 : VLK RX3 83 yX3_bendOf := ⟨gi 540 _ (by decide +kernel) rfl, gi 542 _ (by decide +kernel) rfl, gi 24 _ (by decide +kernel) rfl⟩
theorem lkL_68 : VLK RL 68 yX5_whole := ⟨gi 544 _ (by decide +kernel) rfl, gi 545 _ (by decide +kernel) rfl, gi 546 _ (by decide +kernel) rfl⟩
theorem lkX5_146 : VLK RX5 146 yX5_remains := ⟨gi 548 _ (by decide +kernel) rfl, gi 550 _ (by decide +kernel) rfl, gi 25 _ (by decide +kernel) rfl⟩
theorem lkX5_149 : VLK RX5 149 yX3_slopesInto := ⟨gi 552 _ (by decide +kernel) rfl, gi 553 _ (by decide +kernel) rfl, gi 554 _ (by decide +kernel) rfl⟩
theorem lkX5_153 : VLK RX5 153 yX5_product := ⟨gi 556 _ (by decide +kernel) rfl, gi 558 _ (by decide +kernel) rfl, gi 26 _ (by decide +kernel) rfl⟩
theorem lkX5_157 : VLK RX5 157 yX5_part := ⟨gi 560 _ (by decide +kernel) rfl, gi 562 _ (by decide +kernel) rfl, gi 27 _ (by decide +kernel) rfl⟩
theorem lkL_72 : VLK RL 72 yX5_together := ⟨gi 564 _ (by decide +kernel) rfl, gi 565 _ (by decide +kernel) rfl, gi 566 _ (by decide +kernel) rfl⟩
theorem lkL_76 : VLK RL 76 yX5_share := ⟨gi 568 _ (by decide +kernel) rfl, gi 569 _ (by decide +kernel) rfl, gi 570 _ (by decide +kernel) rfl⟩
theorem lkL_80 : VLK RL 80 yX5_left := ⟨gi 572 _ (by decide +kernel) rfl, gi 573 _ (by decide +kernel) rfl, gi 574 _ (by decide +kernel) rfl⟩
theorem lkL_86 : VLK RL 86 yX5_fewest := ⟨gi 576 _ (by decide +kernel) rfl, gi 577 _ (by decide +kernel) rfl, gi 578 _ (by decide +kernel) rfl⟩
theorem lkX5_161 : SLK RX5 161 yJ6_bitCount_0f7a4 := ⟨gi 580 _ (by decide +kernel) rfl, gi 581 _ (by decide +kernel) rfl⟩
theorem kJ6_265 : Cond.constant RJ6 265 (1431655765 : Int32) ∈ gw := gi 583 _ (by decide +kernel) rfl
theorem kJ6_266 : Cond.constant RJ6 266 (858993459 : Int32) ∈ gw := gi 584 _ (by decide +kernel) rfl
theorem kJ6_267 : Cond.constant RJ6 267 (252645135 : Int32) ∈ gw := gi 585 _ (by decide +kernel) rfl
theorem lkL_91 : VLK RL 91 yX5_takes := ⟨gi 586 _ (by decide +kernel) rfl, gi 587 _ (by decide +kernel) rfl, gi 588 _ (by decide +kernel) rfl⟩
theorem lkX5_166 : VLK RX5 166 yX5_taken := ⟨gi 590 _ (by decide +kernel) rfl, gi 592 _ (by decide +kernel) rfl, gi 28 _ (by decide +kernel) rfl⟩
theorem lkL_95 : VLK RL 95 yX5_first := ⟨gi 594 _ (by decide +kernel) rfl, gi 595 _ (by decide +kernel) rfl, gi 596 _ (by decide +kernel) rfl⟩
theorem lkL_99 : VLK RL 99 yX5_off := ⟨gi 598 _ (by decide +kernel) rfl, gi 599 _ (by decide +kernel) rfl, gi 600 _ (by decide +kernel) rfl⟩
theorem lkX5_170 : SLK RX5 170 yX5_isMove := ⟨gi 602 _ (by decide +kernel) rfl, gi 603 _ (by decide +kernel) rfl⟩
theorem lkL_103 : VLK RL 103 yX5_sees := ⟨gi 605 _ (by decide +kernel) rfl, gi 606 _ (by decide +kernel) rfl, gi 607 _ (by decide +kernel) rfl⟩
theorem lkL_107 : VLK RL 107 yX5_forget := ⟨gi 609 _ (by decide +kernel) rfl, gi 610 _ (by decide +kernel) rfl, gi 611 _ (by decide +kernel) rfl⟩
theorem lkL_111 : VLK RL 111 yX5_unseen := ⟨gi 613 _ (by decide +kernel) rfl, gi 614 _ (by decide +kernel) rfl, gi 615 _ (by decide +kernel) rfl⟩
theorem lkX5_173 : VLK RX5 173 yX5_explains := ⟨gi 617 _ (by decide +kernel) rfl, gi 619 _ (by decide +kernel) rfl, gi 29 _ (by decide +kernel) rfl⟩
theorem lkL_115 : VLK RL 115 yX5_keep := ⟨gi 621 _ (by decide +kernel) rfl, gi 622 _ (by decide +kernel) rfl, gi 623 _ (by decide +kernel) rfl⟩
theorem lkL_119 : VLK RL 119 yX5_back := ⟨gi 625 _ (by decide +kernel) rfl, gi 626 _ (by decide +kernel) rfl, gi 627 _ (by decide +kernel) rfl⟩
theorem lkL_123 : VLK RL 123 yX5_formula := ⟨gi 629 _ (by decide +kernel) rfl, gi 630 _ (by decide +kernel) rfl, gi 631 _ (by decide +kernel) rfl⟩
theorem lkX5_180 : VLK RX5 180 yX4_stop := ⟨gi 633 _ (by decide +kernel) rfl, gi 381 _ (by decide +kernel) rfl, gi 382 _ (by decide +kernel) rfl⟩
theorem lkX5_183 : VLK RX5 183 yX4_start := ⟨gi 634 _ (by decide +kernel) rfl, gi 635 _ (by decide +kernel) rfl, gi 636 _ (by decide +kernel) rfl⟩
theorem lkX5_186 : VLK RX5 186 yX4_root := ⟨gi 638 _ (by decide +kernel) rfl, gi 377 _ (by decide +kernel) rfl, gi 378 _ (by decide +kernel) rfl⟩
theorem lkX5_189 : VLK RX5 189 yX4_steps := ⟨gi 639 _ (by decide +kernel) rfl, gi 389 _ (by decide +kernel) rfl, gi 390 _ (by decide +kernel) rfl⟩
theorem lkX5_192 : VLK RX5 192 yX4_names := ⟨gi 640 _ (by decide +kernel) rfl, gi 393 _ (by decide +kernel) rfl, gi 394 _ (by decide +kernel) rfl⟩
theorem lkL_127 : VLK RL 127 yX5_count := ⟨gi 641 _ (by decide +kernel) rfl, gi 642 _ (by decide +kernel) rfl, gi 643 _ (by decide +kernel) rfl⟩
theorem clL_10 : Cond.classLink RL 10 RX6 ∈ gw := gi 645 _ (by decide +kernel) rfl
theorem lkL_12 : ILK RL 12 yX6_init := ⟨gi 647 _ (by decide +kernel) rfl, gi 648 _ (by decide +kernel) rfl, rfl⟩
theorem lkX6_1 : Cond.methodLink RX6 1 objectInit ∈ gw := gi 650 _ (by decide +kernel) rfl
theorem lkX6_87 : VLK RX6 87 yX6_begins := ⟨gi 651 _ (by decide +kernel) rfl, gi 653 _ (by decide +kernel) rfl, gi 30 _ (by decide +kernel) rfl⟩
theorem lkX6_90 : VLK RX6 90 yX6_settles := ⟨gi 655 _ (by decide +kernel) rfl, gi 657 _ (by decide +kernel) rfl, gi 31 _ (by decide +kernel) rfl⟩
theorem lkL_17 : VLK RL 17 yX6_type := ⟨gi 781 _ (by decide +kernel) rfl, gi 782 _ (by decide +kernel) rfl, gi 783 _ (by decide +kernel) rfl⟩
theorem lkX6_97 : SLK RX6 97 yX6_in := ⟨gi 785 _ (by decide +kernel) rfl, gi 786 _ (by decide +kernel) rfl⟩
theorem lkL_22 : VLK RL 22 yX6_clear := ⟨gi 788 _ (by decide +kernel) rfl, gi 789 _ (by decide +kernel) rfl, gi 790 _ (by decide +kernel) rfl⟩
theorem lkL_26 : VLK RL 26 yX6_desk := ⟨gi 792 _ (by decide +kernel) rfl, gi 793 _ (by decide +kernel) rfl, gi 794 _ (by decide +kernel) rfl⟩
theorem lkX6_131 : VLK RX6 131 yX6_advances := ⟨gi 796 _ (by decide +kernel) rfl, gi 798 _ (by decide +kernel) rfl, gi 32 _ (by decide +kernel) rfl⟩
theorem lkX6_107 : VLK RX6 107 yX6_letterAt := ⟨gi 800 _ (by decide +kernel) rfl, gi 802 _ (by decide +kernel) rfl, gi 33 _ (by decide +kernel) rfl⟩
theorem lkX6_120 : SLK RX6 120 yX6_isSign := ⟨gi 804 _ (by decide +kernel) rfl, gi 805 _ (by decide +kernel) rfl⟩
theorem lkX6_127 : VLK RX6 127 yX6_isWell := ⟨gi 807 _ (by decide +kernel) rfl, gi 809 _ (by decide +kernel) rfl, gi 34 _ (by decide +kernel) rfl⟩
theorem lkX6_134 : VLK RX6 134 yX6_isThis := ⟨gi 811 _ (by decide +kernel) rfl, gi 813 _ (by decide +kernel) rfl, gi 35 _ (by decide +kernel) rfl⟩
theorem lkX6_137 : VLK RX6 137 yX6_takes := ⟨gi 815 _ (by decide +kernel) rfl, gi 817 _ (by decide +kernel) rfl, gi 36 _ (by decide +kernel) rfl⟩
theorem lkX6_196 : VLK RX6 196 yX6_readsItem := ⟨gi 819 _ (by decide +kernel) rfl, gi 821 _ (by decide +kernel) rfl, gi 37 _ (by decide +kernel) rfl⟩
theorem lkX6_190 : VLK RX6 190 yX6_readsSum := ⟨gi 823 _ (by decide +kernel) rfl, gi 825 _ (by decide +kernel) rfl, gi 38 _ (by decide +kernel) rfl⟩
theorem lkX6_184 : VLK RX6 184 yX6_readsPart := ⟨gi 827 _ (by decide +kernel) rfl, gi 829 _ (by decide +kernel) rfl, gi 39 _ (by decide +kernel) rfl⟩
theorem lkX6_174 : VLK RX6 174 yX6_waits := ⟨gi 831 _ (by decide +kernel) rfl, gi 833 _ (by decide +kernel) rfl, gi 40 _ (by decide +kernel) rfl⟩
theorem lkX6_168 : VLK RX6 168 yX6_counts := ⟨gi 835 _ (by decide +kernel) rfl, gi 837 _ (by decide +kernel) rfl, gi 41 _ (by decide +kernel) rfl⟩
theorem lkX6_141 : VLK RX6 141 yX6_isNumber := ⟨gi 839 _ (by decide +kernel) rfl, gi 841 _ (by decide +kernel) rfl, gi 42 _ (by decide +kernel) rfl⟩
theorem lkX6_157 : VLK RX6 157 yX6_makes := ⟨gi 843 _ (by decide +kernel) rfl, gi 845 _ (by decide +kernel) rfl, gi 43 _ (by decide +kernel) rfl⟩
theorem lkX6_178 : VLK RX6 178 yX6_isSourceSign := ⟨gi 847 _ (by decide +kernel) rfl, gi 849 _ (by decide +kernel) rfl, gi 44 _ (by decide +kernel) rfl⟩
theorem lkX6_181 : VLK RX6 181 yX6_partDone := ⟨gi 851 _ (by decide +kernel) rfl, gi 853 _ (by decide +kernel) rfl, gi 45 _ (by decide +kernel) rfl⟩
theorem lkX6_161 : VLK RX6 161 yX6_lastWaiting := ⟨gi 855 _ (by decide +kernel) rfl, gi 857 _ (by decide +kernel) rfl, gi 46 _ (by decide +kernel) rfl⟩
theorem lkX6_165 : VLK RX6 165 yX6_doesLast := ⟨gi 859 _ (by decide +kernel) rfl, gi 861 _ (by decide +kernel) rfl, gi 47 _ (by decide +kernel) rfl⟩
theorem lkX6_187 : VLK RX6 187 yX6_readsBehind := ⟨gi 863 _ (by decide +kernel) rfl, gi 865 _ (by decide +kernel) rfl, gi 48 _ (by decide +kernel) rfl⟩
theorem lkX6_193 : VLK RX6 193 yX6_signed := ⟨gi 867 _ (by decide +kernel) rfl, gi 869 _ (by decide +kernel) rfl, gi 49 _ (by decide +kernel) rfl⟩
theorem lkL_31 : VLK RL 31 yX6_source := ⟨gi 871 _ (by decide +kernel) rfl, gi 872 _ (by decide +kernel) rfl, gi 873 _ (by decide +kernel) rfl⟩
theorem lkX6_208 : SLK RX6 208 yX6_isSource := ⟨gi 875 _ (by decide +kernel) rfl, gi 876 _ (by decide +kernel) rfl⟩
theorem kX6_211 : Cond.constantLong RX6 211 (-9000000000000000000 : Int64) ∈ gw := gi 878 _ (by decide +kernel) rfl
theorem lkL_35 : VLK RL 35 yX6_joint := ⟨gi 879 _ (by decide +kernel) rfl, gi 880 _ (by decide +kernel) rfl, gi 881 _ (by decide +kernel) rfl⟩
theorem lkX6_213 : VLK RX6 213 yX6_jointOf := ⟨gi 883 _ (by decide +kernel) rfl, gi 885 _ (by decide +kernel) rfl, gi 50 _ (by decide +kernel) rfl⟩
theorem lkL_40 : VLK RL 40 yX6_values := ⟨gi 887 _ (by decide +kernel) rfl, gi 888 _ (by decide +kernel) rfl, gi 889 _ (by decide +kernel) rfl⟩
theorem lkX6_217 : VLK RX6 217 yX6_notes := ⟨gi 891 _ (by decide +kernel) rfl, gi 893 _ (by decide +kernel) rfl, gi 51 _ (by decide +kernel) rfl⟩
theorem lkL_44 : VLK RL 44 yX6_spreads := ⟨gi 895 _ (by decide +kernel) rfl, gi 896 _ (by decide +kernel) rfl, gi 897 _ (by decide +kernel) rfl⟩
theorem lkL_49 : VLK RL 49 yX6_joints := ⟨gi 899 _ (by decide +kernel) rfl, gi 900 _ (by decide +kernel) rfl, gi 901 _ (by decide +kernel) rfl⟩
theorem lkL_53 : VLK RL 53 yX6_undo := ⟨gi 903 _ (by decide +kernel) rfl, gi 904 _ (by decide +kernel) rfl, gi 905 _ (by decide +kernel) rfl⟩
theorem lkL_58 : VLK RL 58 yX6_value := ⟨gi 907 _ (by decide +kernel) rfl, gi 908 _ (by decide +kernel) rfl, gi 909 _ (by decide +kernel) rfl⟩
theorem lkX6_243 : VLK RX6 243 yX6_isFormula := ⟨gi 911 _ (by decide +kernel) rfl, gi 913 _ (by decide +kernel) rfl, gi 52 _ (by decide +kernel) rfl⟩
theorem lkX6_246 : VLK RX6 246 yX6_goes := ⟨gi 915 _ (by decide +kernel) rfl, gi 917 _ (by decide +kernel) rfl, gi 53 _ (by decide +kernel) rfl⟩
theorem lkX6_226 : VLK RX6 226 yX6_goesLeaf := ⟨gi 919 _ (by decide +kernel) rfl, gi 921 _ (by decide +kernel) rfl, gi 54 _ (by decide +kernel) rfl⟩
theorem lkX6_229 : VLK RX6 229 yX6_rootOf := ⟨gi 923 _ (by decide +kernel) rfl, gi 925 _ (by decide +kernel) rfl, gi 55 _ (by decide +kernel) rfl⟩
theorem lkX6_232 : VLK RX6 232 yX6_copiesNode := ⟨gi 927 _ (by decide +kernel) rfl, gi 929 _ (by decide +kernel) rfl, gi 56 _ (by decide +kernel) rfl⟩
theorem lkX6_236 : VLK RX6 236 yX6_goesOne := ⟨gi 931 _ (by decide +kernel) rfl, gi 933 _ (by decide +kernel) rfl, gi 57 _ (by decide +kernel) rfl⟩
theorem kX6_220 : Cond.constantLong RX6 220 (-1 : Int64) ∈ gw := gi 935 _ (by decide +kernel) rfl
theorem lkX6_222 : SLK RX6 222 yX6_power := ⟨gi 936 _ (by decide +kernel) rfl, gi 937 _ (by decide +kernel) rfl⟩
theorem lkX6_239 : VLK RX6 239 yX6_goesTwo := ⟨gi 939 _ (by decide +kernel) rfl, gi 941 _ (by decide +kernel) rfl, gi 58 _ (by decide +kernel) rfl⟩
theorem lkL_62 : VLK RL 62 yX6_slope := ⟨gi 943 _ (by decide +kernel) rfl, gi 944 _ (by decide +kernel) rfl, gi 945 _ (by decide +kernel) rfl⟩
theorem lkX6_249 : VLK RX6 249 yX6_slopeOf := ⟨gi 947 _ (by decide +kernel) rfl, gi 949 _ (by decide +kernel) rfl, gi 59 _ (by decide +kernel) rfl⟩
theorem lkL_67 : VLK RL 67 yX6_bend := ⟨gi 951 _ (by decide +kernel) rfl, gi 952 _ (by decide +kernel) rfl, gi 953 _ (by decide +kernel) rfl⟩
theorem lkL_71 : VLK RL 71 yX6_whole := ⟨gi 955 _ (by decide +kernel) rfl, gi 956 _ (by decide +kernel) rfl, gi 957 _ (by decide +kernel) rfl⟩
theorem lkX6_256 : VLK RX6 256 yX6_togetherOf := ⟨gi 959 _ (by decide +kernel) rfl, gi 961 _ (by decide +kernel) rfl, gi 60 _ (by decide +kernel) rfl⟩
theorem lkX6_253 : SLK RX6 253 yX6_has := ⟨gi 963 _ (by decide +kernel) rfl, gi 964 _ (by decide +kernel) rfl⟩
theorem lkL_75 : VLK RL 75 yX6_together := ⟨gi 966 _ (by decide +kernel) rfl, gi 967 _ (by decide +kernel) rfl, gi 968 _ (by decide +kernel) rfl⟩
theorem lkL_79 : VLK RL 79 yX6_share := ⟨gi 970 _ (by decide +kernel) rfl, gi 971 _ (by decide +kernel) rfl, gi 972 _ (by decide +kernel) rfl⟩
theorem lkX6_260 : VLK RX6 260 yX6_shareOf := ⟨gi 974 _ (by decide +kernel) rfl, gi 976 _ (by decide +kernel) rfl, gi 61 _ (by decide +kernel) rfl⟩
theorem lkL_83 : VLK RL 83 yX6_left := ⟨gi 978 _ (by decide +kernel) rfl, gi 979 _ (by decide +kernel) rfl, gi 980 _ (by decide +kernel) rfl⟩
theorem lkL_90 : VLK RL 90 yX6_fewest := ⟨gi 982 _ (by decide +kernel) rfl, gi 983 _ (by decide +kernel) rfl, gi 984 _ (by decide +kernel) rfl⟩
theorem lkX6_263 : SLK RX6 263 yX6_ones := ⟨gi 986 _ (by decide +kernel) rfl, gi 987 _ (by decide +kernel) rfl⟩
theorem lkL_94 : VLK RL 94 yX6_takes_ := ⟨gi 989 _ (by decide +kernel) rfl, gi 990 _ (by decide +kernel) rfl, gi 991 _ (by decide +kernel) rfl⟩
theorem lkX6_266 : VLK RX6 266 yX6_takesOf := ⟨gi 993 _ (by decide +kernel) rfl, gi 995 _ (by decide +kernel) rfl, gi 62 _ (by decide +kernel) rfl⟩
theorem lkL_98 : VLK RL 98 yX6_first := ⟨gi 997 _ (by decide +kernel) rfl, gi 998 _ (by decide +kernel) rfl, gi 999 _ (by decide +kernel) rfl⟩
theorem lkL_102 : VLK RL 102 yX6_off := ⟨gi 1001 _ (by decide +kernel) rfl, gi 1002 _ (by decide +kernel) rfl, gi 1003 _ (by decide +kernel) rfl⟩
theorem lkX6_269 : VLK RX6 269 yX6_valueIf := ⟨gi 1005 _ (by decide +kernel) rfl, gi 1007 _ (by decide +kernel) rfl, gi 63 _ (by decide +kernel) rfl⟩
theorem lkL_106 : VLK RL 106 yX6_sees := ⟨gi 1009 _ (by decide +kernel) rfl, gi 1010 _ (by decide +kernel) rfl, gi 1011 _ (by decide +kernel) rfl⟩
theorem lkL_110 : VLK RL 110 yX6_forget := ⟨gi 1013 _ (by decide +kernel) rfl, gi 1014 _ (by decide +kernel) rfl, gi 1015 _ (by decide +kernel) rfl⟩
theorem lkL_114 : VLK RL 114 yX6_unseen := ⟨gi 1017 _ (by decide +kernel) rfl, gi 1018 _ (by decide +kernel) rfl, gi 1019 _ (by decide +kernel) rfl⟩
theorem lkL_118 : VLK RL 118 yX6_keep := ⟨gi 1021 _ (by decide +kernel) rfl, gi 1022 _ (by decide +kernel) rfl, gi 1023 _ (by decide +kernel) rfl⟩
theorem lkL_122 : VLK RL 122 yX6_back := ⟨gi 1025 _ (by decide +kernel) rfl, gi 1026 _ (by decide +kernel) rfl, gi 1027 _ (by decide +kernel) rfl⟩
theorem lkL_126 : VLK RL 126 yX6_formula := ⟨gi 1029 _ (by decide +kernel) rfl, gi 1030 _ (by decide +kernel) rfl, gi 1031 _ (by decide +kernel) rfl⟩
theorem lkL_130 : VLK RL 130 yX6_count := ⟨gi 1033 _ (by decide +kernel) rfl, gi 1034 _ (by decide +kernel) rfl, gi 1035 _ (by decide +kernel) rfl⟩
theorem kL_84 : Cond.constantLong RL 84 (4294967295 : Int64) ∈ gw := gi 1037 _ (by decide +kernel) rfl
theorem inst0 : Cond.instantiable RX0 2 ∈ gw := gi 82 _ (by decide +kernel) rfl
theorem init0 : Cond.initialized RX0 ∈ gw := gi 66 _ (by decide +kernel) rfl
def tm0 : List Nat := [1, 1]
theorem inst1 : Cond.instantiable RX1 4 ∈ gw := gi 170 _ (by decide +kernel) rfl
theorem init1 : Cond.initialized RX1 ∈ gw := gi 69 _ (by decide +kernel) rfl
def tm1 : List Nat := [1, 1, 1, 0]
theorem inst2 : Cond.instantiable RX2 9 ∈ gw := gi 130 _ (by decide +kernel) rfl
theorem init2 : Cond.initialized RX2 ∈ gw := gi 68 _ (by decide +kernel) rfl
def tm2 : List Nat := [1, 1, 1, 0, 0, 0, 0, 0, 0]
theorem inst3 : Cond.instantiable RX3 6 ∈ gw := gi 189 _ (by decide +kernel) rfl
theorem init3 : Cond.initialized RX3 ∈ gw := gi 70 _ (by decide +kernel) rfl
def tm3 : List Nat := [1, 1, 1, 1, 1, 1]
theorem inst4 : Cond.instantiable RX4 8 ∈ gw := gi 96 _ (by decide +kernel) rfl
theorem init4 : Cond.initialized RX4 ∈ gw := gi 67 _ (by decide +kernel) rfl
def tm4 : List Nat := [1, 1, 1, 1, 1, 1, 0, 0]
theorem inst5 : Cond.instantiable RX5 14 ∈ gw := gi 74 _ (by decide +kernel) rfl
theorem init5 : Cond.initialized RX5 ∈ gw := gi 65 _ (by decide +kernel) rfl
def tm5 : List Nat := [1, 1, 1, 1, 1, 1, 1, 0, 0, 1, 1, 0, 1, 1]
theorem inst6 : Cond.instantiable RX6 40 ∈ gw := gi 646 _ (by decide +kernel) rfl
theorem init6 : Cond.initialized RX6 ∈ gw := gi 71 _ (by decide +kernel) rfl
def tm6 : List Nat := [0, 1, 0, 0, 0, 0, 0, 0, 0, 1, 1, 1, 1, 1, 0, 1, 1, 1, 1, 1, 1, 1, 1, 0, 1, 1, 1, 1, 0, 1, 0, 1, 0, 0, 0, 1, 1, 1, 1, 1]
theorem arrc_int : Cond.arrayClass .int ∈ gw := gi 94 _ (by decide +kernel) rfl
theorem arrc_long : Cond.arrayClass .long ∈ gw := gi 213 _ (by decide +kernel) rfl
theorem arrc_boolean : Cond.arrayClass .boolean ∈ gw := gi 780 _ (by decide +kernel) rfl
theorem obj_im : Cond.instanceMethod objectInit ∈ gw := gi 79 _ (by decide +kernel) rfl
theorem obj_code : Cond.code objectInit ⟨#[0xb1]⟩ 1 none ∈ gw := gi 80 _ (by decide +kernel) rfl
end
