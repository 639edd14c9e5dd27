section
-- ===== PART A: goes FIRST, ahead of the names: the tables' words, and 'selects' of the private methods out of them =====
/-- a private method of a class that the tables say can be made, by its rows of tables_1 -/
def lw_okq (q : MethodName × Nat) : Prop := (q.1.cls ≠ "java/lang/invoke/MethodHandle" ∧ q.1.cls ≠ "java/lang/invoke/VarHandle") ∧ Cond.instantiable q.1.cls q.2 ∈ tables_1 ∧ Cond.privateMethod q.1 ∈ tables_1 ∧ Cond.instanceMethod q.1 ∈ tables_1
theorem lw_p0 : lw_okq (⟨"SpreadDesk$Reader", "pass", "()V"⟩, 9) := ⟨⟨by decide +kernel, by decide +kernel⟩, List.mem_of_getElem? (i := 66) (by decide +kernel), List.mem_of_getElem? (i := 230) (by decide +kernel), List.mem_of_getElem? (i := 231) (by decide +kernel)⟩
theorem lw_p1 : lw_okq (⟨"SpreadDesk$Reader", "passDigits", "(I)V"⟩, 9) := ⟨⟨by decide +kernel, by decide +kernel⟩, List.mem_of_getElem? (i := 66) (by decide +kernel), List.mem_of_getElem? (i := 237) (by decide +kernel), List.mem_of_getElem? (i := 238) (by decide +kernel)⟩
theorem lw_p2 : lw_okq (⟨"SpreadDesk$Reader", "readItem", "()Z"⟩, 9) := ⟨⟨by decide +kernel, by decide +kernel⟩, List.mem_of_getElem? (i := 66) (by decide +kernel), List.mem_of_getElem? (i := 241) (by decide +kernel), List.mem_of_getElem? (i := 242) (by decide +kernel)⟩
theorem lw_p3 : lw_okq (⟨"SpreadDesk$Reader", "readSource", "()Z"⟩, 9) := ⟨⟨by decide +kernel, by decide +kernel⟩, List.mem_of_getElem? (i := 66) (by decide +kernel), List.mem_of_getElem? (i := 245) (by decide +kernel), List.mem_of_getElem? (i := 246) (by decide +kernel)⟩
theorem lw_p4 : lw_okq (⟨"SpreadDesk$Reader", "sourceAtHand", "()I"⟩, 9) := ⟨⟨by decide +kernel, by decide +kernel⟩, List.mem_of_getElem? (i := 66) (by decide +kernel), List.mem_of_getElem? (i := 249) (by decide +kernel), List.mem_of_getElem? (i := 250) (by decide +kernel)⟩
theorem lw_p5 : lw_okq (⟨"SpreadDesk$Reader", "passSign", "()I"⟩, 9) := ⟨⟨by decide +kernel, by decide +kernel⟩, List.mem_of_getElem? (i := 66) (by decide +kernel), List.mem_of_getElem? (i := 256) (by decide +kernel), List.mem_of_getElem? (i := 257) (by decide +kernel)⟩
theorem lw_p6 : lw_okq (⟨"SpreadDesk$Reader", "readJoint", "()Z"⟩, 9) := ⟨⟨by decide +kernel, by decide +kernel⟩, List.mem_of_getElem? (i := 66) (by decide +kernel), List.mem_of_getElem? (i := 269) (by decide +kernel), List.mem_of_getElem? (i := 270) (by decide +kernel)⟩
theorem lw_p7 : lw_okq (⟨"SpreadDesk$Reader", "readFormula", "()Z"⟩, 9) := ⟨⟨by decide +kernel, by decide +kernel⟩, List.mem_of_getElem? (i := 66) (by decide +kernel), List.mem_of_getElem? (i := 273) (by decide +kernel), List.mem_of_getElem? (i := 274) (by decide +kernel)⟩
theorem lw_p8 : lw_okq (⟨"SpreadDesk$Reader", "readSum", "(I)I"⟩, 9) := ⟨⟨by decide +kernel, by decide +kernel⟩, List.mem_of_getElem? (i := 66) (by decide +kernel), List.mem_of_getElem? (i := 281) (by decide +kernel), List.mem_of_getElem? (i := 282) (by decide +kernel)⟩
theorem lw_p9 : lw_okq (⟨"SpreadDesk$Reader", "readProduct", "(I)I"⟩, 9) := ⟨⟨by decide +kernel, by decide +kernel⟩, List.mem_of_getElem? (i := 66) (by decide +kernel), List.mem_of_getElem? (i := 285) (by decide +kernel), List.mem_of_getElem? (i := 286) (by decide +kernel)⟩
theorem lw_p10 : lw_okq (⟨"SpreadDesk$Reader", "readPower", "(I)I"⟩, 9) := ⟨⟨by decide +kernel, by decide +kernel⟩, List.mem_of_getElem? (i := 66) (by decide +kernel), List.mem_of_getElem? (i := 289) (by decide +kernel), List.mem_of_getElem? (i := 290) (by decide +kernel)⟩
theorem lw_p11 : lw_okq (⟨"SpreadDesk$Reader", "readPart", "(I)I"⟩, 9) := ⟨⟨by decide +kernel, by decide +kernel⟩, List.mem_of_getElem? (i := 66) (by decide +kernel), List.mem_of_getElem? (i := 293) (by decide +kernel), List.mem_of_getElem? (i := 294) (by decide +kernel)⟩
theorem lw_p12 : lw_okq (⟨"SpreadDesk$Reader", "countNode", "()Z"⟩, 9) := ⟨⟨by decide +kernel, by decide +kernel⟩, List.mem_of_getElem? (i := 66) (by decide +kernel), List.mem_of_getElem? (i := 297) (by decide +kernel), List.mem_of_getElem? (i := 298) (by decide +kernel)⟩
theorem lw_p13 : lw_okq (⟨"SpreadDesk$Reader", "readBarePart", "(I)I"⟩, 9) := ⟨⟨by decide +kernel, by decide +kernel⟩, List.mem_of_getElem? (i := 66) (by decide +kernel), List.mem_of_getElem? (i := 301) (by decide +kernel), List.mem_of_getElem? (i := 302) (by decide +kernel)⟩
theorem lw_p14 : lw_okq (⟨"SpreadDesk$Reader", "readInner", "(I)I"⟩, 9) := ⟨⟨by decide +kernel, by decide +kernel⟩, List.mem_of_getElem? (i := 66) (by decide +kernel), List.mem_of_getElem? (i := 305) (by decide +kernel), List.mem_of_getElem? (i := 306) (by decide +kernel)⟩
theorem lw_p15 : lw_okq (⟨"SpreadDesk$Reader", "readEarlier", "()I"⟩, 9) := ⟨⟨by decide +kernel, by decide +kernel⟩, List.mem_of_getElem? (i := 66) (by decide +kernel), List.mem_of_getElem? (i := 309) (by decide +kernel), List.mem_of_getElem? (i := 310) (by decide +kernel)⟩
def lw_privs_1 : List (MethodName × Nat) := [(⟨"SpreadDesk$Reader", "pass", "()V"⟩, 9), (⟨"SpreadDesk$Reader", "passDigits", "(I)V"⟩, 9), (⟨"SpreadDesk$Reader", "readItem", "()Z"⟩, 9), (⟨"SpreadDesk$Reader", "readSource", "()Z"⟩, 9), (⟨"SpreadDesk$Reader", "sourceAtHand", "()I"⟩, 9), (⟨"SpreadDesk$Reader", "passSign", "()I"⟩, 9), (⟨"SpreadDesk$Reader", "readJoint", "()Z"⟩, 9), (⟨"SpreadDesk$Reader", "readFormula", "()Z"⟩, 9), (⟨"SpreadDesk$Reader", "readSum", "(I)I"⟩, 9), (⟨"SpreadDesk$Reader", "readProduct", "(I)I"⟩, 9), (⟨"SpreadDesk$Reader", "readPower", "(I)I"⟩, 9), (⟨"SpreadDesk$Reader", "readPart", "(I)I"⟩, 9), (⟨"SpreadDesk$Reader", "countNode", "()Z"⟩, 9), (⟨"SpreadDesk$Reader", "readBarePart", "(I)I"⟩, 9), (⟨"SpreadDesk$Reader", "readInner", "(I)I"⟩, 9), (⟨"SpreadDesk$Reader", "readEarlier", "()I"⟩, 9)]
theorem lw_r1 : ∀ q ∈ lw_privs_1, lw_okq q := List.forall_mem_cons.mpr ⟨lw_p0, List.forall_mem_cons.mpr ⟨lw_p1, List.forall_mem_cons.mpr ⟨lw_p2, List.forall_mem_cons.mpr ⟨lw_p3, List.forall_mem_cons.mpr ⟨lw_p4, List.forall_mem_cons.mpr ⟨lw_p5, List.forall_mem_cons.mpr ⟨lw_p6, List.forall_mem_cons.mpr ⟨lw_p7, List.forall_mem_cons.mpr ⟨lw_p8, List.forall_mem_cons.mpr ⟨lw_p9, List.forall_mem_cons.mpr ⟨lw_p10, List.forall_mem_cons.mpr ⟨lw_p11, List.forall_mem_cons.mpr ⟨lw_p12, List.forall_mem_cons.mpr ⟨lw_p13, List.forall_mem_cons.mpr ⟨lw_p14, List.forall_mem_cons.mpr ⟨lw_p15, fun _ h => absurd h List.not_mem_nil⟩⟩⟩⟩⟩⟩⟩⟩⟩⟩⟩⟩⟩⟩⟩⟩
theorem lw_p16 : lw_okq (⟨"SpreadDesk$Tape", "add", "(IIIII)I"⟩, 8) := ⟨⟨by decide +kernel, by decide +kernel⟩, List.mem_of_getElem? (i := 32) (by decide +kernel), List.mem_of_getElem? (i := 333) (by decide +kernel), List.mem_of_getElem? (i := 334) (by decide +kernel)⟩
theorem lw_p17 : lw_okq (⟨"SpreadDesk$Past", "loseOldest", "()V"⟩, 4) := ⟨⟨by decide +kernel, by decide +kernel⟩, List.mem_of_getElem? (i := 106) (by decide +kernel), List.mem_of_getElem? (i := 391) (by decide +kernel), List.mem_of_getElem? (i := 392) (by decide +kernel)⟩
theorem lw_p18 : lw_okq (⟨"SpreadDesk", "isTold", "(I)Z"⟩, 14) := ⟨⟨by decide +kernel, by decide +kernel⟩, List.mem_of_getElem? (i := 10) (by decide +kernel), List.mem_of_getElem? (i := 423) (by decide +kernel), List.mem_of_getElem? (i := 424) (by decide +kernel)⟩
theorem lw_p19 : lw_okq (⟨"SpreadDesk$Sweep", "walkWorth", "(III)V"⟩, 6) := ⟨⟨by decide +kernel, by decide +kernel⟩, List.mem_of_getElem? (i := 125) (by decide +kernel), List.mem_of_getElem? (i := 433) (by decide +kernel), List.mem_of_getElem? (i := 434) (by decide +kernel)⟩
theorem lw_p20 : lw_okq (⟨"SpreadDesk$Sweep", "worthOf", "(III)J"⟩, 6) := ⟨⟨by decide +kernel, by decide +kernel⟩, List.mem_of_getElem? (i := 125) (by decide +kernel), List.mem_of_getElem? (i := 437) (by decide +kernel), List.mem_of_getElem? (i := 438) (by decide +kernel)⟩
theorem lw_p21 : lw_okq (⟨"SpreadDesk$Sweep", "walkSlope", "([JII)V"⟩, 6) := ⟨⟨by decide +kernel, by decide +kernel⟩, List.mem_of_getElem? (i := 125) (by decide +kernel), List.mem_of_getElem? (i := 457) (by decide +kernel), List.mem_of_getElem? (i := 458) (by decide +kernel)⟩
theorem lw_p22 : lw_okq (⟨"SpreadDesk$Sweep", "slopeOf", "([JII)J"⟩, 6) := ⟨⟨by decide +kernel, by decide +kernel⟩, List.mem_of_getElem? (i := 125) (by decide +kernel), List.mem_of_getElem? (i := 461) (by decide +kernel), List.mem_of_getElem? (i := 462) (by decide +kernel)⟩
theorem lw_p23 : lw_okq (⟨"SpreadDesk$Sweep", "walkBend", "(I)V"⟩, 6) := ⟨⟨by decide +kernel, by decide +kernel⟩, List.mem_of_getElem? (i := 125) (by decide +kernel), List.mem_of_getElem? (i := 473) (by decide +kernel), List.mem_of_getElem? (i := 474) (by decide +kernel)⟩
theorem lw_p24 : lw_okq (⟨"SpreadDesk$Sweep", "bendOf", "(I)J"⟩, 6) := ⟨⟨by decide +kernel, by decide +kernel⟩, List.mem_of_getElem? (i := 125) (by decide +kernel), List.mem_of_getElem? (i := 477) (by decide +kernel), List.mem_of_getElem? (i := 478) (by decide +kernel)⟩
theorem lw_p25 : lw_okq (⟨"SpreadDesk", "remains", "(II)J"⟩, 14) := ⟨⟨by decide +kernel, by decide +kernel⟩, List.mem_of_getElem? (i := 10) (by decide +kernel), List.mem_of_getElem? (i := 485) (by decide +kernel), List.mem_of_getElem? (i := 486) (by decide +kernel)⟩
theorem lw_p26 : lw_okq (⟨"SpreadDesk", "product", "([J[JI)J"⟩, 14) := ⟨⟨by decide +kernel, by decide +kernel⟩, List.mem_of_getElem? (i := 10) (by decide +kernel), List.mem_of_getElem? (i := 493) (by decide +kernel), List.mem_of_getElem? (i := 494) (by decide +kernel)⟩
theorem lw_p27 : lw_okq (⟨"SpreadDesk", "part", "([J[JII)J"⟩, 14) := ⟨⟨by decide +kernel, by decide +kernel⟩, List.mem_of_getElem? (i := 10) (by decide +kernel), List.mem_of_getElem? (i := 497) (by decide +kernel), List.mem_of_getElem? (i := 498) (by decide +kernel)⟩
theorem lw_p28 : lw_okq (⟨"SpreadDesk", "taken", "(I)J"⟩, 14) := ⟨⟨by decide +kernel, by decide +kernel⟩, List.mem_of_getElem? (i := 10) (by decide +kernel), List.mem_of_getElem? (i := 527) (by decide +kernel), List.mem_of_getElem? (i := 528) (by decide +kernel)⟩
theorem lw_p29 : lw_okq (⟨"SpreadDesk", "explains", "(II)Z"⟩, 14) := ⟨⟨by decide +kernel, by decide +kernel⟩, List.mem_of_getElem? (i := 10) (by decide +kernel), List.mem_of_getElem? (i := 554) (by decide +kernel), List.mem_of_getElem? (i := 555) (by decide +kernel)⟩
theorem lw_p30 : lw_okq (⟨"SpreadDeskModel", "begins", "()V"⟩, 40) := ⟨⟨by decide +kernel, by decide +kernel⟩, List.mem_of_getElem? (i := 582) (by decide +kernel), List.mem_of_getElem? (i := 588) (by decide +kernel), List.mem_of_getElem? (i := 589) (by decide +kernel)⟩
theorem lw_p31 : lw_okq (⟨"SpreadDeskModel", "settles", "()V"⟩, 40) := ⟨⟨by decide +kernel, by decide +kernel⟩, List.mem_of_getElem? (i := 582) (by decide +kernel), List.mem_of_getElem? (i := 592) (by decide +kernel), List.mem_of_getElem? (i := 593) (by decide +kernel)⟩
def lw_privs_2 : List (MethodName × Nat) := [(⟨"SpreadDesk$Tape", "add", "(IIIII)I"⟩, 8), (⟨"SpreadDesk$Past", "loseOldest", "()V"⟩, 4), (⟨"SpreadDesk", "isTold", "(I)Z"⟩, 14), (⟨"SpreadDesk$Sweep", "walkWorth", "(III)V"⟩, 6), (⟨"SpreadDesk$Sweep", "worthOf", "(III)J"⟩, 6), (⟨"SpreadDesk$Sweep", "walkSlope", "([JII)V"⟩, 6), (⟨"SpreadDesk$Sweep", "slopeOf", "([JII)J"⟩, 6), (⟨"SpreadDesk$Sweep", "walkBend", "(I)V"⟩, 6), (⟨"SpreadDesk$Sweep", "bendOf", "(I)J"⟩, 6), (⟨"SpreadDesk", "remains", "(II)J"⟩, 14), (⟨"SpreadDesk", "product", "([J[JI)J"⟩, 14), (⟨"SpreadDesk", "part", "([J[JII)J"⟩, 14), (⟨"SpreadDesk", "taken", "(I)J"⟩, 14), (⟨"SpreadDesk", "explains", "(II)Z"⟩, 14), (⟨"SpreadDeskModel", "begins", "()V"⟩, 40), (⟨"SpreadDeskModel", "settles", "()V"⟩, 40)]
theorem lw_r2 : ∀ q ∈ lw_privs_2, lw_okq q := List.forall_mem_cons.mpr ⟨lw_p16, List.forall_mem_cons.mpr ⟨lw_p17, List.forall_mem_cons.mpr ⟨lw_p18, List.forall_mem_cons.mpr ⟨lw_p19, List.forall_mem_cons.mpr ⟨lw_p20, List.forall_mem_cons.mpr ⟨lw_p21, List.forall_mem_cons.mpr ⟨lw_p22, List.forall_mem_cons.mpr ⟨lw_p23, List.forall_mem_cons.mpr ⟨lw_p24, List.forall_mem_cons.mpr ⟨lw_p25, List.forall_mem_cons.mpr ⟨lw_p26, List.forall_mem_cons.mpr ⟨lw_p27, List.forall_mem_cons.mpr ⟨lw_p28, List.forall_mem_cons.mpr ⟨lw_p29, List.forall_mem_cons.mpr ⟨lw_p30, List.forall_mem_cons.mpr ⟨lw_p31, fun _ h => absurd h List.not_mem_nil⟩⟩⟩⟩⟩⟩⟩⟩⟩⟩⟩⟩⟩⟩⟩⟩
theorem lw_p32 : lw_okq (⟨"SpreadDeskModel", "advances", "()V"⟩, 40) := ⟨⟨by decide +kernel, by decide +kernel⟩, List.mem_of_getElem? (i := 582) (by decide +kernel), List.mem_of_getElem? (i := 733) (by decide +kernel), List.mem_of_getElem? (i := 734) (by decide +kernel)⟩
theorem lw_p33 : lw_okq (⟨"SpreadDeskModel", "letterAt", "(I)I"⟩, 40) := ⟨⟨by decide +kernel, by decide +kernel⟩, List.mem_of_getElem? (i := 582) (by decide +kernel), List.mem_of_getElem? (i := 737) (by decide +kernel), List.mem_of_getElem? (i := 738) (by decide +kernel)⟩
theorem lw_p34 : lw_okq (⟨"SpreadDeskModel", "isWell", "()Z"⟩, 40) := ⟨⟨by decide +kernel, by decide +kernel⟩, List.mem_of_getElem? (i := 582) (by decide +kernel), List.mem_of_getElem? (i := 744) (by decide +kernel), List.mem_of_getElem? (i := 745) (by decide +kernel)⟩
theorem lw_p35 : lw_okq (⟨"SpreadDeskModel", "isThis", "(I)Z"⟩, 40) := ⟨⟨by decide +kernel, by decide +kernel⟩, List.mem_of_getElem? (i := 582) (by decide +kernel), List.mem_of_getElem? (i := 748) (by decide +kernel), List.mem_of_getElem? (i := 749) (by decide +kernel)⟩
theorem lw_p36 : lw_okq (⟨"SpreadDeskModel", "takes", "(Z)I"⟩, 40) := ⟨⟨by decide +kernel, by decide +kernel⟩, List.mem_of_getElem? (i := 582) (by decide +kernel), List.mem_of_getElem? (i := 752) (by decide +kernel), List.mem_of_getElem? (i := 753) (by decide +kernel)⟩
theorem lw_p37 : lw_okq (⟨"SpreadDeskModel", "readsItem", "(I)V"⟩, 40) := ⟨⟨by decide +kernel, by decide +kernel⟩, List.mem_of_getElem? (i := 582) (by decide +kernel), List.mem_of_getElem? (i := 756) (by decide +kernel), List.mem_of_getElem? (i := 757) (by decide +kernel)⟩
theorem lw_p38 : lw_okq (⟨"SpreadDeskModel", "readsSum", "()V"⟩, 40) := ⟨⟨by decide +kernel, by decide +kernel⟩, List.mem_of_getElem? (i := 582) (by decide +kernel), List.mem_of_getElem? (i := 760) (by decide +kernel), List.mem_of_getElem? (i := 761) (by decide +kernel)⟩
theorem lw_p39 : lw_okq (⟨"SpreadDeskModel", "readsPart", "()Z"⟩, 40) := ⟨⟨by decide +kernel, by decide +kernel⟩, List.mem_of_getElem? (i := 582) (by decide +kernel), List.mem_of_getElem? (i := 764) (by decide +kernel), List.mem_of_getElem? (i := 765) (by decide +kernel)⟩
theorem lw_p40 : lw_okq (⟨"SpreadDeskModel", "waits", "(I)V"⟩, 40) := ⟨⟨by decide +kernel, by decide +kernel⟩, List.mem_of_getElem? (i := 582) (by decide +kernel), List.mem_of_getElem? (i := 768) (by decide +kernel), List.mem_of_getElem? (i := 769) (by decide +kernel)⟩
theorem lw_p41 : lw_okq (⟨"SpreadDeskModel", "counts", "()Z"⟩, 40) := ⟨⟨by decide +kernel, by decide +kernel⟩, List.mem_of_getElem? (i := 582) (by decide +kernel), List.mem_of_getElem? (i := 772) (by decide +kernel), List.mem_of_getElem? (i := 773) (by decide +kernel)⟩
theorem lw_p42 : lw_okq (⟨"SpreadDeskModel", "isNumber", "(II)Z"⟩, 40) := ⟨⟨by decide +kernel, by decide +kernel⟩, List.mem_of_getElem? (i := 582) (by decide +kernel), List.mem_of_getElem? (i := 776) (by decide +kernel), List.mem_of_getElem? (i := 777) (by decide +kernel)⟩
theorem lw_p43 : lw_okq (⟨"SpreadDeskModel", "makes", "(IIII)V"⟩, 40) := ⟨⟨by decide +kernel, by decide +kernel⟩, List.mem_of_getElem? (i := 582) (by decide +kernel), List.mem_of_getElem? (i := 780) (by decide +kernel), List.mem_of_getElem? (i := 781) (by decide +kernel)⟩
theorem lw_p44 : lw_okq (⟨"SpreadDeskModel", "isSourceSign", "()Z"⟩, 40) := ⟨⟨by decide +kernel, by decide +kernel⟩, List.mem_of_getElem? (i := 582) (by decide +kernel), List.mem_of_getElem? (i := 784) (by decide +kernel), List.mem_of_getElem? (i := 785) (by decide +kernel)⟩
theorem lw_p45 : lw_okq (⟨"SpreadDeskModel", "partDone", "()V"⟩, 40) := ⟨⟨by decide +kernel, by decide +kernel⟩, List.mem_of_getElem? (i := 582) (by decide +kernel), List.mem_of_getElem? (i := 788) (by decide +kernel), List.mem_of_getElem? (i := 789) (by decide +kernel)⟩
theorem lw_p46 : lw_okq (⟨"SpreadDeskModel", "lastWaiting", "()I"⟩, 40) := ⟨⟨by decide +kernel, by decide +kernel⟩, List.mem_of_getElem? (i := 582) (by decide +kernel), List.mem_of_getElem? (i := 792) (by decide +kernel), List.mem_of_getElem? (i := 793) (by decide +kernel)⟩
theorem lw_p47 : lw_okq (⟨"SpreadDeskModel", "doesLast", "()V"⟩, 40) := ⟨⟨by decide +kernel, by decide +kernel⟩, List.mem_of_getElem? (i := 582) (by decide +kernel), List.mem_of_getElem? (i := 796) (by decide +kernel), List.mem_of_getElem? (i := 797) (by decide +kernel)⟩
def lw_privs_3 : List (MethodName × Nat) := [(⟨"SpreadDeskModel", "advances", "()V"⟩, 40), (⟨"SpreadDeskModel", "letterAt", "(I)I"⟩, 40), (⟨"SpreadDeskModel", "isWell", "()Z"⟩, 40), (⟨"SpreadDeskModel", "isThis", "(I)Z"⟩, 40), (⟨"SpreadDeskModel", "takes", "(Z)I"⟩, 40), (⟨"SpreadDeskModel", "readsItem", "(I)V"⟩, 40), (⟨"SpreadDeskModel", "readsSum", "()V"⟩, 40), (⟨"SpreadDeskModel", "readsPart", "()Z"⟩, 40), (⟨"SpreadDeskModel", "waits", "(I)V"⟩, 40), (⟨"SpreadDeskModel", "counts", "()Z"⟩, 40), (⟨"SpreadDeskModel", "isNumber", "(II)Z"⟩, 40), (⟨"SpreadDeskModel", "makes", "(IIII)V"⟩, 40), (⟨"SpreadDeskModel", "isSourceSign", "()Z"⟩, 40), (⟨"SpreadDeskModel", "partDone", "()V"⟩, 40), (⟨"SpreadDeskModel", "lastWaiting", "()I"⟩, 40), (⟨"SpreadDeskModel", "doesLast", "()V"⟩, 40)]
theorem lw_r3 : ∀ q ∈ lw_privs_3, lw_okq q := List.forall_mem_cons.mpr ⟨lw_p32, List.forall_mem_cons.mpr ⟨lw_p33, List.forall_mem_cons.mpr ⟨lw_p34, List.forall_mem_cons.mpr ⟨lw_p35, List.forall_mem_cons.mpr ⟨lw_p36, List.forall_mem_cons.mpr ⟨lw_p37, List.forall_mem_cons.mpr ⟨lw_p38, List.forall_mem_cons.mpr ⟨lw_p39, List.forall_mem_cons.mpr ⟨lw_p40, List.forall_mem_cons.mpr ⟨lw_p41, List.forall_mem_cons.mpr ⟨lw_p42, List.forall_mem_cons.mpr ⟨lw_p43, List.forall_mem_cons.mpr ⟨lw_p44, List.forall_mem_cons.mpr ⟨lw_p45, List.forall_mem_cons.mpr ⟨lw_p46, List.forall_mem_cons.mpr ⟨lw_p47, fun _ h => absurd h List.not_mem_nil⟩⟩⟩⟩⟩⟩⟩⟩⟩⟩⟩⟩⟩⟩⟩⟩
theorem lw_p48 : lw_okq (⟨"SpreadDeskModel", "readsBehind", "()Z"⟩, 40) := ⟨⟨by decide +kernel, by decide +kernel⟩, List.mem_of_getElem? (i := 582) (by decide +kernel), List.mem_of_getElem? (i := 800) (by decide +kernel), List.mem_of_getElem? (i := 801) (by decide +kernel)⟩
theorem lw_p49 : lw_okq (⟨"SpreadDeskModel", "signed", "()I"⟩, 40) := ⟨⟨by decide +kernel, by decide +kernel⟩, List.mem_of_getElem? (i := 582) (by decide +kernel), List.mem_of_getElem? (i := 804) (by decide +kernel), List.mem_of_getElem? (i := 805) (by decide +kernel)⟩
theorem lw_p50 : lw_okq (⟨"SpreadDeskModel", "jointOf", "(II)I"⟩, 40) := ⟨⟨by decide +kernel, by decide +kernel⟩, List.mem_of_getElem? (i := 582) (by decide +kernel), List.mem_of_getElem? (i := 820) (by decide +kernel), List.mem_of_getElem? (i := 821) (by decide +kernel)⟩
theorem lw_p51 : lw_okq (⟨"SpreadDeskModel", "notes", "()V"⟩, 40) := ⟨⟨by decide +kernel, by decide +kernel⟩, List.mem_of_getElem? (i := 582) (by decide +kernel), List.mem_of_getElem? (i := 828) (by decide +kernel), List.mem_of_getElem? (i := 829) (by decide +kernel)⟩
theorem lw_p52 : lw_okq (⟨"SpreadDeskModel", "isFormula", "(I)Z"⟩, 40) := ⟨⟨by decide +kernel, by decide +kernel⟩, List.mem_of_getElem? (i := 582) (by decide +kernel), List.mem_of_getElem? (i := 848) (by decide +kernel), List.mem_of_getElem? (i := 849) (by decide +kernel)⟩
theorem lw_p53 : lw_okq (⟨"SpreadDeskModel", "goes", "()V"⟩, 40) := ⟨⟨by decide +kernel, by decide +kernel⟩, List.mem_of_getElem? (i := 582) (by decide +kernel), List.mem_of_getElem? (i := 852) (by decide +kernel), List.mem_of_getElem? (i := 853) (by decide +kernel)⟩
theorem lw_p54 : lw_okq (⟨"SpreadDeskModel", "goesLeaf", "(I)V"⟩, 40) := ⟨⟨by decide +kernel, by decide +kernel⟩, List.mem_of_getElem? (i := 582) (by decide +kernel), List.mem_of_getElem? (i := 856) (by decide +kernel), List.mem_of_getElem? (i := 857) (by decide +kernel)⟩
theorem lw_p55 : lw_okq (⟨"SpreadDeskModel", "rootOf", "(I)I"⟩, 40) := ⟨⟨by decide +kernel, by decide +kernel⟩, List.mem_of_getElem? (i := 582) (by decide +kernel), List.mem_of_getElem? (i := 860) (by decide +kernel), List.mem_of_getElem? (i := 861) (by decide +kernel)⟩
theorem lw_p56 : lw_okq (⟨"SpreadDeskModel", "copiesNode", "(II)V"⟩, 40) := ⟨⟨by decide +kernel, by decide +kernel⟩, List.mem_of_getElem? (i := 582) (by decide +kernel), List.mem_of_getElem? (i := 864) (by decide +kernel), List.mem_of_getElem? (i := 865) (by decide +kernel)⟩
theorem lw_p57 : lw_okq (⟨"SpreadDeskModel", "goesOne", "(II)V"⟩, 40) := ⟨⟨by decide +kernel, by decide +kernel⟩, List.mem_of_getElem? (i := 582) (by decide +kernel), List.mem_of_getElem? (i := 868) (by decide +kernel), List.mem_of_getElem? (i := 869) (by decide +kernel)⟩
theorem lw_p58 : lw_okq (⟨"SpreadDeskModel", "goesTwo", "(III)V"⟩, 40) := ⟨⟨by decide +kernel, by decide +kernel⟩, List.mem_of_getElem? (i := 582) (by decide +kernel), List.mem_of_getElem? (i := 876) (by decide +kernel), List.mem_of_getElem? (i := 877) (by decide +kernel)⟩
theorem lw_p59 : lw_okq (⟨"SpreadDeskModel", "slopeOf", "(II)J"⟩, 40) := ⟨⟨by decide +kernel, by decide +kernel⟩, List.mem_of_getElem? (i := 582) (by decide +kernel), List.mem_of_getElem? (i := 884) (by decide +kernel), List.mem_of_getElem? (i := 885) (by decide +kernel)⟩
theorem lw_p60 : lw_okq (⟨"SpreadDeskModel", "togetherOf", "(III)J"⟩, 40) := ⟨⟨by decide +kernel, by decide +kernel⟩, List.mem_of_getElem? (i := 582) (by decide +kernel), List.mem_of_getElem? (i := 896) (by decide +kernel), List.mem_of_getElem? (i := 897) (by decide +kernel)⟩
theorem lw_p61 : lw_okq (⟨"SpreadDeskModel", "shareOf", "(II)J"⟩, 40) := ⟨⟨by decide +kernel, by decide +kernel⟩, List.mem_of_getElem? (i := 582) (by decide +kernel), List.mem_of_getElem? (i := 911) (by decide +kernel), List.mem_of_getElem? (i := 912) (by decide +kernel)⟩
theorem lw_p62 : lw_okq (⟨"SpreadDeskModel", "takesOf", "(II)J"⟩, 40) := ⟨⟨by decide +kernel, by decide +kernel⟩, List.mem_of_getElem? (i := 582) (by decide +kernel), List.mem_of_getElem? (i := 930) (by decide +kernel), List.mem_of_getElem? (i := 931) (by decide +kernel)⟩
theorem lw_p63 : lw_okq (⟨"SpreadDeskModel", "valueIf", "(III)J"⟩, 40) := ⟨⟨by decide +kernel, by decide +kernel⟩, List.mem_of_getElem? (i := 582) (by decide +kernel), List.mem_of_getElem? (i := 942) (by decide +kernel), List.mem_of_getElem? (i := 943) (by decide +kernel)⟩
def lw_privs_4 : List (MethodName × Nat) := [(⟨"SpreadDeskModel", "readsBehind", "()Z"⟩, 40), (⟨"SpreadDeskModel", "signed", "()I"⟩, 40), (⟨"SpreadDeskModel", "jointOf", "(II)I"⟩, 40), (⟨"SpreadDeskModel", "notes", "()V"⟩, 40), (⟨"SpreadDeskModel", "isFormula", "(I)Z"⟩, 40), (⟨"SpreadDeskModel", "goes", "()V"⟩, 40), (⟨"SpreadDeskModel", "goesLeaf", "(I)V"⟩, 40), (⟨"SpreadDeskModel", "rootOf", "(I)I"⟩, 40), (⟨"SpreadDeskModel", "copiesNode", "(II)V"⟩, 40), (⟨"SpreadDeskModel", "goesOne", "(II)V"⟩, 40), (⟨"SpreadDeskModel", "goesTwo", "(III)V"⟩, 40), (⟨"SpreadDeskModel", "slopeOf", "(II)J"⟩, 40), (⟨"SpreadDeskModel", "togetherOf", "(III)J"⟩, 40), (⟨"SpreadDeskModel", "shareOf", "(II)J"⟩, 40), (⟨"SpreadDeskModel", "takesOf", "(II)J"⟩, 40), (⟨"SpreadDeskModel", "valueIf", "(III)J"⟩, 40)]
theorem lw_r4 : ∀ q ∈ lw_privs_4, lw_okq q := List.forall_mem_cons.mpr ⟨lw_p48, List.forall_mem_cons.mpr ⟨lw_p49, List.forall_mem_cons.mpr ⟨lw_p50, List.forall_mem_cons.mpr ⟨lw_p51, List.forall_mem_cons.mpr ⟨lw_p52, List.forall_mem_cons.mpr ⟨lw_p53, List.forall_mem_cons.mpr ⟨lw_p54, List.forall_mem_cons.mpr ⟨lw_p55, List.forall_mem_cons.mpr ⟨lw_p56, List.forall_mem_cons.mpr ⟨lw_p57, List.forall_mem_cons.mpr ⟨lw_p58, List.forall_mem_cons.mpr ⟨lw_p59, List.forall_mem_cons.mpr ⟨lw_p60, List.forall_mem_cons.mpr ⟨lw_p61, List.forall_mem_cons.mpr ⟨lw_p62, List.forall_mem_cons.mpr ⟨lw_p63, fun _ h => absurd h List.not_mem_nil⟩⟩⟩⟩⟩⟩⟩⟩⟩⟩⟩⟩⟩⟩⟩⟩
def lw_privs : List (MethodName × Nat) := lw_privs_1 ++ (lw_privs_2 ++ (lw_privs_3 ++ (lw_privs_4)))
def lw_tbl : List Cond := k2_sels lw_privs ++ tables_1
theorem lw_privs_ok : ∀ q ∈ lw_privs, lw_okq q := by
  show ∀ q ∈ lw_privs_1 ++ (lw_privs_2 ++ (lw_privs_3 ++ (lw_privs_4))), lw_okq q
  exact List.forall_mem_append.mpr ⟨lw_r1, List.forall_mem_append.mpr ⟨lw_r2, List.forall_mem_append.mpr ⟨lw_r3, lw_r4⟩⟩⟩
def RX0 : String := "SpreadDesk$Figures"
def TX0 : u_T := fun k => match k with
  | 0 => ("SpreadDesk$Figures", "worth", "[I", true)
  | _ => ("SpreadDesk$Figures", "spread", "[I", true)
def tyX0 : Nat → FieldType := fun k => match k with
  | 0 => .array .int
  | _ => .array .int
theorem nmX0 : ∀ a, a < 2 → ∀ b, b < 2 → a ≠ b → (TX0 a).2.1 ≠ (TX0 b).2.1 := by decide +kernel
theorem tyX0_ok : ∀ k, k < 2 → parseFieldDescriptor (TX0 k).2.2.1 = some (tyX0 k) := by decide +kernel
abbrev cX0_init : ByteArray := prog_2_method_1_code
def yX0_init : MethodName := ⟨RX0, "<init>", "()V"⟩
abbrev cX0_worth : ByteArray := prog_2_method_2_code
def yX0_worth : MethodName := ⟨RX0, "worth", "(I)I"⟩
abbrev cX0_spread : ByteArray := prog_2_method_3_code
def yX0_spread : MethodName := ⟨RX0, "spread", "(II)I"⟩
abbrev cX0_setWorth : ByteArray := prog_2_method_4_code
def yX0_setWorth : MethodName := ⟨RX0, "setWorth", "(II)V"⟩
abbrev cX0_setSpread : ByteArray := prog_2_method_5_code
def yX0_setSpread : MethodName := ⟨RX0, "setSpread", "(III)V"⟩
abbrev cX0_reset : ByteArray := prog_2_method_6_code
def yX0_reset : MethodName := ⟨RX0, "reset", "()V"⟩
abbrev cX0_take : ByteArray := prog_2_method_7_code
def yX0_take : MethodName := ⟨RX0, "take", "(LSpreadDesk$Figures;)V"⟩
def RX1 : String := "SpreadDesk$Past"
def TX1 : u_T := fun k => match k with
  | 0 => ("SpreadDesk$Past", "source", "[I", true)
  | 1 => ("SpreadDesk$Past", "other", "[I", true)
  | 2 => ("SpreadDesk$Past", "was", "[I", true)
  | _ => ("SpreadDesk$Past", "known", "I", false)
def tyX1 : Nat → FieldType := fun k => match k with
  | 0 => .array .int
  | 1 => .array .int
  | 2 => .array .int
  | _ => .int
theorem nmX1 : ∀ a, a < 4 → ∀ b, b < 4 → a ≠ b → (TX1 a).2.1 ≠ (TX1 b).2.1 := by decide +kernel
theorem tyX1_ok : ∀ k, k < 4 → parseFieldDescriptor (TX1 k).2.2.1 = some (tyX1 k) := by decide +kernel
abbrev cX1_init : ByteArray := prog_3_method_1_code
def yX1_init : MethodName := ⟨RX1, "<init>", "()V"⟩
abbrev cX1_known : ByteArray := prog_3_method_2_code
def yX1_known : MethodName := ⟨RX1, "known", "()I"⟩
abbrev cX1_lose : ByteArray := prog_3_method_3_code
def yX1_lose : MethodName := ⟨RX1, "lose", "()V"⟩
abbrev cX1_add : ByteArray := prog_3_method_4_code
def yX1_add : MethodName := ⟨RX1, "add", "(III)V"⟩
abbrev cX1_takeBack : ByteArray := prog_3_method_5_code
def yX1_takeBack : MethodName := ⟨RX1, "takeBack", "(LSpreadDesk$Figures;)Z"⟩
abbrev cX1_loseOldest : ByteArray := prog_3_method_6_code
def yX1_loseOldest : MethodName := ⟨RX1, "loseOldest", "()V"⟩
def RX2 : String := "SpreadDesk$Reader"
def TX2 : u_T := fun k => match k with
  | 0 => ("SpreadDesk$Reader", "figures", "LSpreadDesk$Figures;", true)
  | 1 => ("SpreadDesk$Reader", "tape", "LSpreadDesk$Tape;", true)
  | 2 => ("SpreadDesk$Reader", "letter", "[I", true)
  | 3 => ("SpreadDesk$Reader", "length", "I", false)
  | 4 => ("SpreadDesk$Reader", "token", "I", false)
  | 5 => ("SpreadDesk$Reader", "place", "I", false)
  | 6 => ("SpreadDesk$Reader", "behind", "I", false)
  | 7 => ("SpreadDesk$Reader", "number", "I", false)
  | _ => ("SpreadDesk$Reader", "nodes", "I", false)
def tyX2 : Nat → FieldType := fun k => match k with
  | 0 => .object "SpreadDesk$Figures"
  | 1 => .object "SpreadDesk$Tape"
  | 2 => .array .int
  | 3 => .int
  | 4 => .int
  | 5 => .int
  | 6 => .int
  | 7 => .int
  | _ => .int
theorem nmX2 : ∀ a, a < 9 → ∀ b, b < 9 → a ≠ b → (TX2 a).2.1 ≠ (TX2 b).2.1 := by decide +kernel
theorem tyX2_ok : ∀ k, k < 9 → parseFieldDescriptor (TX2 k).2.2.1 = some (tyX2 k) := by decide +kernel
abbrev cX2_init : ByteArray := prog_4_method_1_code
def yX2_init : MethodName := ⟨RX2, "<init>", "()V"⟩
abbrev cX2_letters : ByteArray := prog_4_method_2_code
def yX2_letters : MethodName := ⟨RX2, "letters", "()I"⟩
abbrev cX2_drop : ByteArray := prog_4_method_3_code
def yX2_drop : MethodName := ⟨RX2, "drop", "()V"⟩
abbrev cX2_add : ByteArray := prog_4_method_4_code
def yX2_add : MethodName := ⟨RX2, "add", "(I)Z"⟩
abbrev cX2_read : ByteArray := prog_4_method_5_code
def yX2_read : MethodName := ⟨RX2, "read", "()I"⟩
abbrev cX2_readItem : ByteArray := prog_4_method_6_code
def yX2_readItem : MethodName := ⟨RX2, "readItem", "()Z"⟩
abbrev cX2_readSource : ByteArray := prog_4_method_7_code
def yX2_readSource : MethodName := ⟨RX2, "readSource", "()Z"⟩
abbrev cX2_readJoint : ByteArray := prog_4_method_8_code
def yX2_readJoint : MethodName := ⟨RX2, "readJoint", "()Z"⟩
abbrev cX2_readFormula : ByteArray := prog_4_method_9_code
def yX2_readFormula : MethodName := ⟨RX2, "readFormula", "()Z"⟩
abbrev cX2_readSum : ByteArray := prog_4_method_10_code
def yX2_readSum : MethodName := ⟨RX2, "readSum", "(I)I"⟩
abbrev cX2_readProduct : ByteArray := prog_4_method_11_code
def yX2_readProduct : MethodName := ⟨RX2, "readProduct", "(I)I"⟩
abbrev cX2_readPower : ByteArray := prog_4_method_12_code
def yX2_readPower : MethodName := ⟨RX2, "readPower", "(I)I"⟩
abbrev cX2_readPart : ByteArray := prog_4_method_13_code
def yX2_readPart : MethodName := ⟨RX2, "readPart", "(I)I"⟩
abbrev cX2_readBarePart : ByteArray := prog_4_method_14_code
def yX2_readBarePart : MethodName := ⟨RX2, "readBarePart", "(I)I"⟩
abbrev cX2_readInner : ByteArray := prog_4_method_15_code
def yX2_readInner : MethodName := ⟨RX2, "readInner", "(I)I"⟩
abbrev cX2_readEarlier : ByteArray := prog_4_method_16_code
def yX2_readEarlier : MethodName := ⟨RX2, "readEarlier", "()I"⟩
abbrev cX2_countNode : ByteArray := prog_4_method_17_code
def yX2_countNode : MethodName := ⟨RX2, "countNode", "()Z"⟩
abbrev cX2_passSign : ByteArray := prog_4_method_18_code
def yX2_passSign : MethodName := ⟨RX2, "passSign", "()I"⟩
abbrev cX2_sourceAtHand : ByteArray := prog_4_method_19_code
def yX2_sourceAtHand : MethodName := ⟨RX2, "sourceAtHand", "()I"⟩
abbrev cX2_pass : ByteArray := prog_4_method_20_code
def yX2_pass : MethodName := ⟨RX2, "pass", "()V"⟩
abbrev cX2_passDigits : ByteArray := prog_4_method_21_code
def yX2_passDigits : MethodName := ⟨RX2, "passDigits", "(I)V"⟩
abbrev cX2_isDigit : ByteArray := prog_4_method_22_code
def yX2_isDigit : MethodName := ⟨RX2, "isDigit", "(I)Z"⟩
def RX3 : String := "SpreadDesk$Sweep"
def TX3 : u_T := fun k => match k with
  | 0 => ("SpreadDesk$Sweep", "tape", "LSpreadDesk$Tape;", true)
  | 1 => ("SpreadDesk$Sweep", "figures", "LSpreadDesk$Figures;", true)
  | 2 => ("SpreadDesk$Sweep", "worth", "[J", true)
  | 3 => ("SpreadDesk$Sweep", "slope", "[J", true)
  | 4 => ("SpreadDesk$Sweep", "otherSlope", "[J", true)
  | _ => ("SpreadDesk$Sweep", "bend", "[J", true)
def tyX3 : Nat → FieldType := fun k => match k with
  | 0 => .object "SpreadDesk$Tape"
  | 1 => .object "SpreadDesk$Figures"
  | 2 => .array .long
  | 3 => .array .long
  | 4 => .array .long
  | _ => .array .long
theorem nmX3 : ∀ a, a < 6 → ∀ b, b < 6 → a ≠ b → (TX3 a).2.1 ≠ (TX3 b).2.1 := by decide +kernel
theorem tyX3_ok : ∀ k, k < 6 → parseFieldDescriptor (TX3 k).2.2.1 = some (tyX3 k) := by decide +kernel
abbrev cX3_init : ByteArray := prog_5_method_1_code
def yX3_init : MethodName := ⟨RX3, "<init>", "(LSpreadDesk$Tape;LSpreadDesk$Figures;)V"⟩
abbrev cX3_worth : ByteArray := prog_5_method_2_code
def yX3_worth : MethodName := ⟨RX3, "worth", "(III)J"⟩
abbrev cX3_slopeBy : ByteArray := prog_5_method_3_code
def yX3_slopeBy : MethodName := ⟨RX3, "slopeBy", "(II)J"⟩
abbrev cX3_bendBy : ByteArray := prog_5_method_4_code
def yX3_bendBy : MethodName := ⟨RX3, "bendBy", "(III)J"⟩
abbrev cX3_slopesInto : ByteArray := prog_5_method_5_code
def yX3_slopesInto : MethodName := ⟨RX3, "slopesInto", "([JI)V"⟩
abbrev cX3_walkWorth : ByteArray := prog_5_method_6_code
def yX3_walkWorth : MethodName := ⟨RX3, "walkWorth", "(III)V"⟩
abbrev cX3_worthOf : ByteArray := prog_5_method_7_code
def yX3_worthOf : MethodName := ⟨RX3, "worthOf", "(III)J"⟩
abbrev cX3_walkSlope : ByteArray := prog_5_method_8_code
def yX3_walkSlope : MethodName := ⟨RX3, "walkSlope", "([JII)V"⟩
abbrev cX3_slopeOf : ByteArray := prog_5_method_9_code
def yX3_slopeOf : MethodName := ⟨RX3, "slopeOf", "([JII)J"⟩
abbrev cX3_walkBend : ByteArray := prog_5_method_10_code
def yX3_walkBend : MethodName := ⟨RX3, "walkBend", "(I)V"⟩
abbrev cX3_bendOf : ByteArray := prog_5_method_11_code
def yX3_bendOf : MethodName := ⟨RX3, "bendOf", "(I)J"⟩
abbrev cX3_power : ByteArray := prog_5_method_12_code
def yX3_power : MethodName := ⟨RX3, "power", "(JI)J"⟩
abbrev cX3_at : ByteArray := prog_5_method_13_code
def yX3_at : MethodName := ⟨RX3, "at", "([JI)J"⟩
def RX4 : String := "SpreadDesk$Tape"
def TX4 : u_T := fun k => match k with
  | 0 => ("SpreadDesk$Tape", "kind", "[I", true)
  | 1 => ("SpreadDesk$Tape", "one", "[I", true)
  | 2 => ("SpreadDesk$Tape", "other", "[I", true)
  | 3 => ("SpreadDesk$Tape", "steps", "[I", true)
  | 4 => ("SpreadDesk$Tape", "names", "[I", true)
  | 5 => ("SpreadDesk$Tape", "stop", "[I", true)
  | 6 => ("SpreadDesk$Tape", "formulas", "I", false)
  | _ => ("SpreadDesk$Tape", "length", "I", false)
def tyX4 : Nat → FieldType := fun k => match k with
  | 0 => .array .int
  | 1 => .array .int
  | 2 => .array .int
  | 3 => .array .int
  | 4 => .array .int
  | 5 => .array .int
  | 6 => .int
  | _ => .int
theorem nmX4 : ∀ a, a < 8 → ∀ b, b < 8 → a ≠ b → (TX4 a).2.1 ≠ (TX4 b).2.1 := by decide +kernel
theorem tyX4_ok : ∀ k, k < 8 → parseFieldDescriptor (TX4 k).2.2.1 = some (tyX4 k) := by decide +kernel
abbrev cX4_init : ByteArray := prog_6_method_1_code
def yX4_init : MethodName := ⟨RX4, "<init>", "()V"⟩
abbrev cX4_formulas : ByteArray := prog_6_method_2_code
def yX4_formulas : MethodName := ⟨RX4, "formulas", "()I"⟩
abbrev cX4_start : ByteArray := prog_6_method_3_code
def yX4_start : MethodName := ⟨RX4, "start", "(I)I"⟩
abbrev cX4_stop : ByteArray := prog_6_method_4_code
def yX4_stop : MethodName := ⟨RX4, "stop", "(I)I"⟩
abbrev cX4_root : ByteArray := prog_6_method_5_code
def yX4_root : MethodName := ⟨RX4, "root", "(I)I"⟩
abbrev cX4_steps : ByteArray := prog_6_method_6_code
def yX4_steps : MethodName := ⟨RX4, "steps", "(I)I"⟩
abbrev cX4_names : ByteArray := prog_6_method_7_code
def yX4_names : MethodName := ⟨RX4, "names", "(I)I"⟩
abbrev cX4_reset : ByteArray := prog_6_method_8_code
def yX4_reset : MethodName := ⟨RX4, "reset", "()V"⟩
abbrev cX4_endFormula : ByteArray := prog_6_method_9_code
def yX4_endFormula : MethodName := ⟨RX4, "endFormula", "()V"⟩
abbrev cX4_addNumber : ByteArray := prog_6_method_10_code
def yX4_addNumber : MethodName := ⟨RX4, "addNumber", "(I)I"⟩
abbrev cX4_addSource : ByteArray := prog_6_method_11_code
def yX4_addSource : MethodName := ⟨RX4, "addSource", "(I)I"⟩
abbrev cX4_addOver : ByteArray := prog_6_method_12_code
def yX4_addOver : MethodName := ⟨RX4, "addOver", "(III)I"⟩
abbrev cX4_addBoth : ByteArray := prog_6_method_13_code
def yX4_addBoth : MethodName := ⟨RX4, "addBoth", "(III)I"⟩
abbrev cX4_take : ByteArray := prog_6_method_14_code
def yX4_take : MethodName := ⟨RX4, "take", "(LSpreadDesk$Tape;)V"⟩
abbrev cX4_add : ByteArray := prog_6_method_15_code
def yX4_add : MethodName := ⟨RX4, "add", "(IIIII)I"⟩
def RX5 : String := "SpreadDesk"
def TX5 : u_T := fun k => match k with
  | 0 => ("SpreadDesk", "figures", "LSpreadDesk$Figures;", true)
  | 1 => ("SpreadDesk", "tape", "LSpreadDesk$Tape;", true)
  | 2 => ("SpreadDesk", "reader", "LSpreadDesk$Reader;", true)
  | 3 => ("SpreadDesk", "past", "LSpreadDesk$Past;", true)
  | 4 => ("SpreadDesk", "sweep", "LSpreadDesk$Sweep;", true)
  | 5 => ("SpreadDesk", "image0", "LSpreadDesk$Figures;", true)
  | 6 => ("SpreadDesk", "image1", "LSpreadDesk$Figures;", true)
  | 7 => ("SpreadDesk", "kept0", "Z", false)
  | 8 => ("SpreadDesk", "kept1", "Z", false)
  | 9 => ("SpreadDesk", "seenFormula", "[I", true)
  | 10 => ("SpreadDesk", "seenValue", "[J", true)
  | 11 => ("SpreadDesk", "seen", "I", false)
  | 12 => ("SpreadDesk", "slopes", "[J", true)
  | _ => ("SpreadDesk", "otherSlopes", "[J", true)
def tyX5 : Nat → FieldType := fun k => match k with
  | 0 => .object "SpreadDesk$Figures"
  | 1 => .object "SpreadDesk$Tape"
  | 2 => .object "SpreadDesk$Reader"
  | 3 => .object "SpreadDesk$Past"
  | 4 => .object "SpreadDesk$Sweep"
  | 5 => .object "SpreadDesk$Figures"
  | 6 => .object "SpreadDesk$Figures"
  | 7 => .boolean
  | 8 => .boolean
  | 9 => .array .int
  | 10 => .array .long
  | 11 => .int
  | 12 => .array .long
  | _ => .array .long
theorem nmX5 : ∀ a, a < 14 → ∀ b, b < 14 → a ≠ b → (TX5 a).2.1 ≠ (TX5 b).2.1 := by decide +kernel
theorem tyX5_ok : ∀ k, k < 14 → parseFieldDescriptor (TX5 k).2.2.1 = some (tyX5 k) := by decide +kernel
abbrev cX5_init : ByteArray := prog_1_method_1_code
def yX5_init : MethodName := ⟨RX5, "<init>", "()V"⟩
abbrev cX5_type : ByteArray := prog_1_method_2_code
def yX5_type : MethodName := ⟨RX5, "type", "(I)I"⟩
abbrev cX5_clear : ByteArray := prog_1_method_3_code
def yX5_clear : MethodName := ⟨RX5, "clear", "()I"⟩
abbrev cX5_desk : ByteArray := prog_1_method_4_code
def yX5_desk : MethodName := ⟨RX5, "desk", "()I"⟩
abbrev cX5_source : ByteArray := prog_1_method_5_code
def yX5_source : MethodName := ⟨RX5, "source", "(II)J"⟩
abbrev cX5_joint : ByteArray := prog_1_method_6_code
def yX5_joint : MethodName := ⟨RX5, "joint", "(II)J"⟩
abbrev cX5_values : ByteArray := prog_1_method_7_code
def yX5_values : MethodName := ⟨RX5, "values", "(II)I"⟩
abbrev cX5_spreads : ByteArray := prog_1_method_8_code
def yX5_spreads : MethodName := ⟨RX5, "spreads", "(II)I"⟩
abbrev cX5_joints : ByteArray := prog_1_method_9_code
def yX5_joints : MethodName := ⟨RX5, "joints", "(III)I"⟩
abbrev cX5_undo : ByteArray := prog_1_method_10_code
def yX5_undo : MethodName := ⟨RX5, "undo", "()I"⟩
abbrev cX5_value : ByteArray := prog_1_method_11_code
def yX5_value : MethodName := ⟨RX5, "value", "(I)J"⟩
abbrev cX5_slope : ByteArray := prog_1_method_12_code
def yX5_slope : MethodName := ⟨RX5, "slope", "(II)J"⟩
abbrev cX5_bend : ByteArray := prog_1_method_13_code
def yX5_bend : MethodName := ⟨RX5, "bend", "(III)J"⟩
abbrev cX5_whole : ByteArray := prog_1_method_14_code
def yX5_whole : MethodName := ⟨RX5, "whole", "(I)J"⟩
abbrev cX5_together : ByteArray := prog_1_method_15_code
def yX5_together : MethodName := ⟨RX5, "together", "(II)J"⟩
abbrev cX5_share : ByteArray := prog_1_method_16_code
def yX5_share : MethodName := ⟨RX5, "share", "(II)J"⟩
abbrev cX5_left : ByteArray := prog_1_method_17_code
def yX5_left : MethodName := ⟨RX5, "left", "(II)J"⟩
abbrev cX5_fewest : ByteArray := prog_1_method_18_code
def yX5_fewest : MethodName := ⟨RX5, "fewest", "(IJ)I"⟩
abbrev cX5_takes : ByteArray := prog_1_method_19_code
def yX5_takes : MethodName := ⟨RX5, "takes", "(II)J"⟩
abbrev cX5_first : ByteArray := prog_1_method_20_code
def yX5_first : MethodName := ⟨RX5, "first", "(II)I"⟩
abbrev cX5_off : ByteArray := prog_1_method_21_code
def yX5_off : MethodName := ⟨RX5, "off", "(III)J"⟩
abbrev cX5_sees : ByteArray := prog_1_method_22_code
def yX5_sees : MethodName := ⟨RX5, "sees", "(IJ)I"⟩
abbrev cX5_forget : ByteArray := prog_1_method_23_code
def yX5_forget : MethodName := ⟨RX5, "forget", "()I"⟩
abbrev cX5_unseen : ByteArray := prog_1_method_24_code
def yX5_unseen : MethodName := ⟨RX5, "unseen", "(I)I"⟩
abbrev cX5_keep : ByteArray := prog_1_method_25_code
def yX5_keep : MethodName := ⟨RX5, "keep", "(I)I"⟩
abbrev cX5_back : ByteArray := prog_1_method_26_code
def yX5_back : MethodName := ⟨RX5, "back", "(I)I"⟩
abbrev cX5_formula : ByteArray := prog_1_method_27_code
def yX5_formula : MethodName := ⟨RX5, "formula", "(II)I"⟩
abbrev cX5_count : ByteArray := prog_1_method_28_code
def yX5_count : MethodName := ⟨RX5, "count", "(I)I"⟩
abbrev cX5_isSource : ByteArray := prog_1_method_29_code
def yX5_isSource : MethodName := ⟨RX5, "isSource", "(I)Z"⟩
abbrev cX5_isMove : ByteArray := prog_1_method_30_code
def yX5_isMove : MethodName := ⟨RX5, "isMove", "(I)Z"⟩
abbrev cX5_isTold : ByteArray := prog_1_method_31_code
def yX5_isTold : MethodName := ⟨RX5, "isTold", "(I)Z"⟩
abbrev cX5_remains : ByteArray := prog_1_method_32_code
def yX5_remains : MethodName := ⟨RX5, "remains", "(II)J"⟩
abbrev cX5_taken : ByteArray := prog_1_method_33_code
def yX5_taken : MethodName := ⟨RX5, "taken", "(I)J"⟩
abbrev cX5_product : ByteArray := prog_1_method_34_code
def yX5_product : MethodName := ⟨RX5, "product", "([J[JI)J"⟩
abbrev cX5_part : ByteArray := prog_1_method_35_code
def yX5_part : MethodName := ⟨RX5, "part", "([J[JII)J"⟩
abbrev cX5_explains : ByteArray := prog_1_method_36_code
def yX5_explains : MethodName := ⟨RX5, "explains", "(II)Z"⟩
def RX6 : String := "SpreadDeskModel"
def TX6 : u_T := fun k => match k with
  | 0 => ("SpreadDeskModel", "thrown", "I", false)
  | 1 => ("SpreadDeskModel", "text", "[I", true)
  | 2 => ("SpreadDeskModel", "typed", "I", false)
  | 3 => ("SpreadDeskModel", "at", "I", false)
  | 4 => ("SpreadDeskModel", "token", "I", false)
  | 5 => ("SpreadDeskModel", "place", "I", false)
  | 6 => ("SpreadDeskModel", "value", "I", false)
  | 7 => ("SpreadDeskModel", "fault", "I", false)
  | 8 => ("SpreadDeskModel", "formulas", "I", false)
  | 9 => ("SpreadDeskModel", "size", "[I", true)
  | 10 => ("SpreadDeskModel", "sort", "[I", true)
  | 11 => ("SpreadDeskModel", "arg", "[I", true)
  | 12 => ("SpreadDeskModel", "left", "[I", true)
  | 13 => ("SpreadDeskModel", "right", "[I", true)
  | 14 => ("SpreadDeskModel", "draftFormulas", "I", false)
  | 15 => ("SpreadDeskModel", "draftSize", "[I", true)
  | 16 => ("SpreadDeskModel", "draftSort", "[I", true)
  | 17 => ("SpreadDeskModel", "draftArg", "[I", true)
  | 18 => ("SpreadDeskModel", "draftLeft", "[I", true)
  | 19 => ("SpreadDeskModel", "draftRight", "[I", true)
  | 20 => ("SpreadDeskModel", "draft", "[I", true)
  | 21 => ("SpreadDeskModel", "s", "[I", true)
  | 22 => ("SpreadDeskModel", "undos", "[I", true)
  | 23 => ("SpreadDeskModel", "undoMany", "I", false)
  | 24 => ("SpreadDeskModel", "kept", "[I", true)
  | 25 => ("SpreadDeskModel", "isKept", "[Z", true)
  | 26 => ("SpreadDeskModel", "seenFormula", "[I", true)
  | 27 => ("SpreadDeskModel", "seenValue", "[J", true)
  | 28 => ("SpreadDeskModel", "seenMany", "I", false)
  | 29 => ("SpreadDeskModel", "parts", "[I", true)
  | 30 => ("SpreadDeskModel", "partMany", "I", false)
  | 31 => ("SpreadDeskModel", "waiting", "[I", true)
  | 32 => ("SpreadDeskModel", "waitMany", "I", false)
  | 33 => ("SpreadDeskModel", "opened", "I", false)
  | 34 => ("SpreadDeskModel", "nodes", "I", false)
  | 35 => ("SpreadDeskModel", "worth", "[J", true)
  | 36 => ("SpreadDeskModel", "slopes", "[J", true)
  | 37 => ("SpreadDeskModel", "bends", "[J", true)
  | 38 => ("SpreadDeskModel", "stepsOf", "[I", true)
  | _ => ("SpreadDeskModel", "named", "[I", true)
def tyX6 : Nat → FieldType := fun k => match k with
  | 0 => .int
  | 1 => .array .int
  | 2 => .int
  | 3 => .int
  | 4 => .int
  | 5 => .int
  | 6 => .int
  | 7 => .int
  | 8 => .int
  | 9 => .array .int
  | 10 => .array .int
  | 11 => .array .int
  | 12 => .array .int
  | 13 => .array .int
  | 14 => .int
  | 15 => .array .int
  | 16 => .array .int
  | 17 => .array .int
  | 18 => .array .int
  | 19 => .array .int
  | 20 => .array .int
  | 21 => .array .int
  | 22 => .array .int
  | 23 => .int
  | 24 => .array .int
  | 25 => .array .boolean
  | 26 => .array .int
  | 27 => .array .long
  | 28 => .int
  | 29 => .array .int
  | 30 => .int
  | 31 => .array .int
  | 32 => .int
  | 33 => .int
  | 34 => .int
  | 35 => .array .long
  | 36 => .array .long
  | 37 => .array .long
  | 38 => .array .int
  | _ => .array .int
theorem nmX6 : ∀ a, a < 40 → ∀ b, b < 40 → a ≠ b → (TX6 a).2.1 ≠ (TX6 b).2.1 := by decide +kernel
theorem tyX6_ok : ∀ k, k < 40 → parseFieldDescriptor (TX6 k).2.2.1 = some (tyX6 k) := by decide +kernel
abbrev cX6_init : ByteArray := prog_8_method_1_code
def yX6_init : MethodName := ⟨RX6, "<init>", "()V"⟩
abbrev cX6_in : ByteArray := prog_8_method_3_code
def yX6_in : MethodName := ⟨RX6, "in", "(III)Z"⟩
abbrev cX6_has : ByteArray := prog_8_method_4_code
def yX6_has : MethodName := ⟨RX6, "has", "(II)Z"⟩
abbrev cX6_ones : ByteArray := prog_8_method_5_code
def yX6_ones : MethodName := ⟨RX6, "ones", "(I)I"⟩
abbrev cX6_type : ByteArray := prog_8_method_6_code
def yX6_type : MethodName := ⟨RX6, "type", "(I)I"⟩
abbrev cX6_clear : ByteArray := prog_8_method_7_code
def yX6_clear : MethodName := ⟨RX6, "clear", "()I"⟩
abbrev cX6_letterAt : ByteArray := prog_8_method_8_code
def yX6_letterAt : MethodName := ⟨RX6, "letterAt", "(I)I"⟩
abbrev cX6_isSign : ByteArray := prog_8_method_9_code
def yX6_isSign : MethodName := ⟨RX6, "isSign", "(I)Z"⟩
abbrev cX6_advances : ByteArray := prog_8_method_10_code
def yX6_advances : MethodName := ⟨RX6, "advances", "()V"⟩
abbrev cX6_isWell : ByteArray := prog_8_method_11_code
def yX6_isWell : MethodName := ⟨RX6, "isWell", "()Z"⟩
abbrev cX6_takes : ByteArray := prog_8_method_12_code
def yX6_takes : MethodName := ⟨RX6, "takes", "(Z)I"⟩
abbrev cX6_isThis : ByteArray := prog_8_method_13_code
def yX6_isThis : MethodName := ⟨RX6, "isThis", "(I)Z"⟩
abbrev cX6_isSourceSign : ByteArray := prog_8_method_14_code
def yX6_isSourceSign : MethodName := ⟨RX6, "isSourceSign", "()Z"⟩
abbrev cX6_isNumber : ByteArray := prog_8_method_15_code
def yX6_isNumber : MethodName := ⟨RX6, "isNumber", "(II)Z"⟩
abbrev cX6_signed : ByteArray := prog_8_method_16_code
def yX6_signed : MethodName := ⟨RX6, "signed", "()I"⟩
abbrev cX6_begins : ByteArray := prog_8_method_17_code
def yX6_begins : MethodName := ⟨RX6, "begins", "()V"⟩
abbrev cX6_counts : ByteArray := prog_8_method_18_code
def yX6_counts : MethodName := ⟨RX6, "counts", "()Z"⟩
abbrev cX6_makes : ByteArray := prog_8_method_19_code
def yX6_makes : MethodName := ⟨RX6, "makes", "(IIII)V"⟩
abbrev cX6_lastWaiting : ByteArray := prog_8_method_20_code
def yX6_lastWaiting : MethodName := ⟨RX6, "lastWaiting", "()I"⟩
abbrev cX6_waits : ByteArray := prog_8_method_21_code
def yX6_waits : MethodName := ⟨RX6, "waits", "(I)V"⟩
abbrev cX6_doesLast : ByteArray := prog_8_method_22_code
def yX6_doesLast : MethodName := ⟨RX6, "doesLast", "()V"⟩
abbrev cX6_partDone : ByteArray := prog_8_method_23_code
def yX6_partDone : MethodName := ⟨RX6, "partDone", "()V"⟩
abbrev cX6_readsPart : ByteArray := prog_8_method_24_code
def yX6_readsPart : MethodName := ⟨RX6, "readsPart", "()Z"⟩
abbrev cX6_readsBehind : ByteArray := prog_8_method_25_code
def yX6_readsBehind : MethodName := ⟨RX6, "readsBehind", "()Z"⟩
abbrev cX6_readsSum : ByteArray := prog_8_method_26_code
def yX6_readsSum : MethodName := ⟨RX6, "readsSum", "()V"⟩
abbrev cX6_readsItem : ByteArray := prog_8_method_27_code
def yX6_readsItem : MethodName := ⟨RX6, "readsItem", "(I)V"⟩
abbrev cX6_desk : ByteArray := prog_8_method_28_code
def yX6_desk : MethodName := ⟨RX6, "desk", "()I"⟩
abbrev cX6_settles : ByteArray := prog_8_method_29_code
def yX6_settles : MethodName := ⟨RX6, "settles", "()V"⟩
abbrev cX6_isFormula : ByteArray := prog_8_method_30_code
def yX6_isFormula : MethodName := ⟨RX6, "isFormula", "(I)Z"⟩
abbrev cX6_isSource : ByteArray := prog_8_method_31_code
def yX6_isSource : MethodName := ⟨RX6, "isSource", "(I)Z"⟩
abbrev cX6_source : ByteArray := prog_8_method_32_code
def yX6_source : MethodName := ⟨RX6, "source", "(II)J"⟩
abbrev cX6_jointOf : ByteArray := prog_8_method_33_code
def yX6_jointOf : MethodName := ⟨RX6, "jointOf", "(II)I"⟩
abbrev cX6_joint : ByteArray := prog_8_method_34_code
def yX6_joint : MethodName := ⟨RX6, "joint", "(II)J"⟩
abbrev cX6_notes : ByteArray := prog_8_method_35_code
def yX6_notes : MethodName := ⟨RX6, "notes", "()V"⟩
abbrev cX6_values : ByteArray := prog_8_method_36_code
def yX6_values : MethodName := ⟨RX6, "values", "(II)I"⟩
abbrev cX6_spreads : ByteArray := prog_8_method_37_code
def yX6_spreads : MethodName := ⟨RX6, "spreads", "(II)I"⟩
abbrev cX6_joints : ByteArray := prog_8_method_38_code
def yX6_joints : MethodName := ⟨RX6, "joints", "(III)I"⟩
abbrev cX6_undo : ByteArray := prog_8_method_39_code
def yX6_undo : MethodName := ⟨RX6, "undo", "()I"⟩
abbrev cX6_power : ByteArray := prog_8_method_40_code
def yX6_power : MethodName := ⟨RX6, "power", "(JI)J"⟩
abbrev cX6_copiesNode : ByteArray := prog_8_method_41_code
def yX6_copiesNode : MethodName := ⟨RX6, "copiesNode", "(II)V"⟩
abbrev cX6_goesLeaf : ByteArray := prog_8_method_42_code
def yX6_goesLeaf : MethodName := ⟨RX6, "goesLeaf", "(I)V"⟩
abbrev cX6_goesOne : ByteArray := prog_8_method_43_code
def yX6_goesOne : MethodName := ⟨RX6, "goesOne", "(II)V"⟩
abbrev cX6_goesTwo : ByteArray := prog_8_method_44_code
def yX6_goesTwo : MethodName := ⟨RX6, "goesTwo", "(III)V"⟩
abbrev cX6_rootOf : ByteArray := prog_8_method_45_code
def yX6_rootOf : MethodName := ⟨RX6, "rootOf", "(I)I"⟩
abbrev cX6_goes : ByteArray := prog_8_method_46_code
def yX6_goes : MethodName := ⟨RX6, "goes", "()V"⟩
abbrev cX6_value : ByteArray := prog_8_method_47_code
def yX6_value : MethodName := ⟨RX6, "value", "(I)J"⟩
abbrev cX6_slopeOf : ByteArray := prog_8_method_48_code
def yX6_slopeOf : MethodName := ⟨RX6, "slopeOf", "(II)J"⟩
abbrev cX6_slope : ByteArray := prog_8_method_49_code
def yX6_slope : MethodName := ⟨RX6, "slope", "(II)J"⟩
abbrev cX6_bend : ByteArray := prog_8_method_50_code
def yX6_bend : MethodName := ⟨RX6, "bend", "(III)J"⟩
abbrev cX6_togetherOf : ByteArray := prog_8_method_51_code
def yX6_togetherOf : MethodName := ⟨RX6, "togetherOf", "(III)J"⟩
abbrev cX6_shareOf : ByteArray := prog_8_method_52_code
def yX6_shareOf : MethodName := ⟨RX6, "shareOf", "(II)J"⟩
abbrev cX6_takesOf : ByteArray := prog_8_method_53_code
def yX6_takesOf : MethodName := ⟨RX6, "takesOf", "(II)J"⟩
abbrev cX6_whole : ByteArray := prog_8_method_54_code
def yX6_whole : MethodName := ⟨RX6, "whole", "(I)J"⟩
abbrev cX6_together : ByteArray := prog_8_method_55_code
def yX6_together : MethodName := ⟨RX6, "together", "(II)J"⟩
abbrev cX6_share : ByteArray := prog_8_method_56_code
def yX6_share : MethodName := ⟨RX6, "share", "(II)J"⟩
abbrev cX6_left : ByteArray := prog_8_method_57_code
def yX6_left : MethodName := ⟨RX6, "left", "(II)J"⟩
abbrev cX6_fewest : ByteArray := prog_8_method_58_code
def yX6_fewest : MethodName := ⟨RX6, "fewest", "(IJ)I"⟩
abbrev cX6_takes_ : ByteArray := prog_8_method_59_code
def yX6_takes_ : MethodName := ⟨RX6, "takes", "(II)J"⟩
abbrev cX6_first : ByteArray := prog_8_method_60_code
def yX6_first : MethodName := ⟨RX6, "first", "(II)I"⟩
abbrev cX6_valueIf : ByteArray := prog_8_method_61_code
def yX6_valueIf : MethodName := ⟨RX6, "valueIf", "(III)J"⟩
abbrev cX6_off : ByteArray := prog_8_method_62_code
def yX6_off : MethodName := ⟨RX6, "off", "(III)J"⟩
abbrev cX6_sees : ByteArray := prog_8_method_63_code
def yX6_sees : MethodName := ⟨RX6, "sees", "(IJ)I"⟩
abbrev cX6_forget : ByteArray := prog_8_method_64_code
def yX6_forget : MethodName := ⟨RX6, "forget", "()I"⟩
abbrev cX6_unseen : ByteArray := prog_8_method_65_code
def yX6_unseen : MethodName := ⟨RX6, "unseen", "(I)I"⟩
abbrev cX6_keep : ByteArray := prog_8_method_66_code
def yX6_keep : MethodName := ⟨RX6, "keep", "(I)I"⟩
abbrev cX6_back : ByteArray := prog_8_method_67_code
def yX6_back : MethodName := ⟨RX6, "back", "(I)I"⟩
abbrev cX6_formula : ByteArray := prog_8_method_68_code
def yX6_formula : MethodName := ⟨RX6, "formula", "(II)I"⟩
abbrev cX6_count : ByteArray := prog_8_method_69_code
def yX6_count : MethodName := ⟨RX6, "count", "(I)I"⟩
def RJ6 : String := "java/lang/Integer"
def TJ6 : u_T := fun k => match k with
  | _ => ("", "", "", false)
def tyJ6 : Nat → FieldType := fun k => match k with
  | _ => .int
theorem nmJ6 : ∀ a, a < 0 → ∀ b, b < 0 → a ≠ b → (TJ6 a).2.1 ≠ (TJ6 b).2.1 := by decide +kernel
theorem tyJ6_ok : ∀ k, k < 0 → parseFieldDescriptor (TJ6 k).2.2.1 = some (tyJ6 k) := by decide +kernel
abbrev cJ6_bitCount_0f7a4 : ByteArray := prog_9_method_49_code
def yJ6_bitCount_0f7a4 : MethodName := ⟨RJ6, "bitCount", "(I)I"⟩
def RL : String := "SpreadDeskLaw"
abbrev cL_law : ByteArray := code
def yL_law : MethodName := ⟨RL, "law", "([I)Z"⟩
end
section
/-! THE ABSTRACT MACHINE: the heap from 'base' on is a list of cells (the shape 'sh': class and fields, or kind and length of an array) with contents I (ints), L (longs); a reference i stands for the address base + i -/
abbrev Ctx : Type := Launch × Nat × (Nat → ClassId) × (Nat → Nat → Nat) × ClassId × ClassId × ClassId
abbrev SH : Type := Nat × List Nat
abbrev MI : Type := Nat → Nat → Int32
abbrev ML : Type := Nat → Nat → Int64
abbrev MD : Type := MethodName × ByteArray × Nat × Option FieldType
abbrev TR : Type := Option Value × List SH × MI × ML
abbrev cls8 : List vw_C := [(RX0, TX0, 2), (RX1, TX1, 4), (RX2, TX2, 9), (RX3, TX3, 6), (RX4, TX4, 8), (RX5, TX5, 14), (RX6, TX6, 40)]
def tysX (X : Ctx) : List (ClassId × FieldType) := [(X.2.2.2.2.1, .int), (X.2.2.2.2.2.1, .long), (X.2.2.2.2.2.2, .boolean)]
def conc (X : Ctx) : Value → Value
  | .ref i => .ref (X.2.1 + i)
  | v => v
def isN : Value → Bool
  | .null => true
  | _ => false
def fieldV (X : Ctx) (r : Nat) (x : Int32) : Value := match r with
  | 0 => .int x
  | 1 => .null
  | n + 2 => .ref (X.2.1 + n)
def cellE (X : Ctx) (s : SH) (f : Nat → Int32) (g : Nat → Int64) : va_E :=
  if s.1 = 100 then .inl (X.2.2.2.2.1, s.2.headD 0, .inl f) else if s.1 = 101 then .inl (X.2.2.2.2.2.1, s.2.headD 0, .inr (.inl g)) else if s.1 = 102 then .inl (X.2.2.2.2.2.2, s.2.headD 0, .inl f)
  else .inr (s.1, s.2.mapIdx fun k r => fieldV X r (f k))
def wsM (X : Ctx) (sh : List SH) (I : MI) (L : ML) : va_W := sh.mapIdx fun i s => (X.2.1 + i, cellE X s (I i) (L i))
def WD (X : Ctx) (sh : List SH) (I : MI) (L : ML) (H : Heap) : Prop := H.size = X.2.1 + sh.length ∧ va_P (X.2.2.1, X.2.2.2.1) cls8 (wsM X sh I L) H
def AX (X : Ctx) : Nat → Prop := fun q => X.2.1 ≤ q
def nestWs : List Cond := [.fieldLinkNest "SpreadDesk$Sweep" 68 "SpreadDesk$Tape" "kind" "[I" "SpreadDesk", .fieldLinkNest "SpreadDesk$Sweep" 61 "SpreadDesk$Tape" "one" "[I" "SpreadDesk", .fieldLinkNest "SpreadDesk$Sweep" 65 "SpreadDesk$Tape" "other" "[I" "SpreadDesk", .fieldLinkNest "SpreadDesk" 80 "SpreadDesk$Reader" "figures" "LSpreadDesk$Figures;" "SpreadDesk", .fieldLinkNest "SpreadDesk" 85 "SpreadDesk$Reader" "tape" "LSpreadDesk$Tape;" "SpreadDesk", .methodLinkNest "SpreadDesk$Reader" 66 yX5_isSource "SpreadDesk", .methodLinkNest "SpreadDesk$Figures" 18 yX5_isSource "SpreadDesk"]
def KX (X : Ctx) (U : State) : Prop := va_K (X.2.2.1, X.2.2.2.1) cls8 (tysX X) U ∧ ∀ w ∈ nestWs, va_Nw w U
def gw : List Cond := lw_tbl.filter goodWord
theorem gw_of {w : Cond} (h : w ∈ lw_tbl) (hg : goodWord w = true) : w ∈ gw := List.mem_filter.mpr ⟨h, hg⟩
theorem KX.moved {X : Ctx} {u U : State} (hW : u.WarmedH U.vm) (h : KX X u) : KX X U := by
  refine ⟨va_K.moved hW.alike h.1, fun w hw => ?_⟩
  have h1 := h.2 w hw
  simp only [nestWs, List.mem_cons, List.not_mem_nil, or_false] at hw
  rcases hw with rfl | rfl | rfl | rfl | rfl | rfl | rfl
  · exact va_Nw.warmF hW h1
  · exact va_Nw.warmF hW h1
  · exact va_Nw.warmF hW h1
  · exact va_Nw.warmF hW h1
  · exact va_Nw.warmF hW h1
  · exact va_Nw.warmM hW h1
  · exact va_Nw.warmM hW h1
theorem KX.same {X : Ctx} {u U : State} (hvm : u.vm = U.vm) (h : KX X u) : KX X U := by
  refine ⟨va_K.moved (by rw [hvm]; exact Vm.Alike.refl U.vm) h.1, fun w hw => ?_⟩
  have h1 := h.2 w hw
  simp only [nestWs, List.mem_cons, List.not_mem_nil, or_false] at hw
  rcases hw with rfl | rfl | rfl | rfl | rfl | rfl | rfl <;> exact va_Nw.same rfl hvm h1
/-! the list of cells -/
theorem wsM_get {X : Ctx} {sh : List SH} {I : MI} {L : ML} {i : Nat} {s : SH} (h : sh[i]? = some s) : (wsM X sh I L)[i]? = some (X.2.1 + i, cellE X s (I i) (L i)) := by
  simp [wsM, List.getElem?_mapIdx, h]
theorem wsM_len (X : Ctx) (sh : List SH) (I : MI) (L : ML) : (wsM X sh I L).length = sh.length := by simp [wsM]
theorem wsM_D (X : Ctx) (sh : List SH) (I : MI) (L : ML) : va_D (AX X) (wsM X sh I L) := by
  refine ⟨fun i j p q hp hq h => ?_, fun k q hk => ?_⟩
  · simp only [wsM, List.getElem?_mapIdx, Option.map_eq_some_iff] at hp hq
    obtain ⟨a, -, rfl⟩ := hp
    obtain ⟨b, -, rfl⟩ := hq
    have h' : X.2.1 + i = X.2.1 + j := h
    omega
  · simp only [wsM, List.getElem?_mapIdx, Option.map_eq_some_iff] at hk
    obtain ⟨a, -, rfl⟩ := hk
    exact Nat.le_add_right _ _
/-- one cell of the list is changed -/
theorem wsM_set {X : Ctx} {sh sh' : List SH} {I I' : MI} {L L' : ML} {i : Nat} {s : SH} (c : va_E) (h : sh'[i]? = some s) (hl : sh'.length = sh.length) (hs : ∀ j, j ≠ i → sh'[j]? = sh[j]?) (hI : ∀ j, j ≠ i → I' j = I j) (hL : ∀ j, j ≠ i → L' j = L j) (hc : c = cellE X s (I' i) (L' i)) :
    (wsM X sh I L).set i (X.2.1 + i, c) = wsM X sh' I' L' := by
  apply List.ext_getElem?
  intro j
  rw [List.getElem?_set]
  by_cases hj : i = j
  · subst hj
    have hlt : i < sh'.length := (List.getElem?_eq_some_iff.mp h).1
    rw [if_pos rfl, if_pos (by rw [wsM_len]; omega), wsM_get h, hc]
  · rw [if_neg hj]
    have hj' : j ≠ i := fun q => hj q.symm
    simp only [wsM, List.getElem?_mapIdx]
    rw [hs j hj', hI j hj', hL j hj']
theorem wsM_push {X : Ctx} {sh : List SH} {I : MI} {L : ML} (s : SH) (c : va_E) {I' : MI} {L' : ML} (hI : ∀ j, j < sh.length → I' j = I j) (hL : ∀ j, j < sh.length → L' j = L j) (hc : c = cellE X s (I' sh.length) (L' sh.length)) :
    wsM X sh I L ++ [(X.2.1 + sh.length, c)] = wsM X (sh ++ [s]) I' L' := by
  apply List.ext_getElem?
  intro j
  by_cases hj : j < sh.length
  · rw [List.getElem?_append_left (by rw [wsM_len]; exact hj)]
    simp only [wsM, List.getElem?_mapIdx]
    rw [List.getElem?_append_left hj, hI j hj, hL j hj]
  · rw [List.getElem?_append_right (by rw [wsM_len]; omega), wsM_len]
    by_cases he : j = sh.length
    · subst he
      rw [Nat.sub_self]
      simp only [wsM, List.getElem?_mapIdx]
      simp [hc]
    · have h1 : ([(X.2.1 + sh.length, c)] : va_W)[j - sh.length]? = none := List.getElem?_eq_none_iff.mpr (by simp; omega)
      rw [h1]
      simp only [wsM, List.getElem?_mapIdx]
      rw [List.getElem?_eq_none_iff.mpr (by simp; omega)]
      rfl
theorem cell_i {X : Ctx} {n : Nat} {r : List Nat} {f : Nat → Int32} {g : Nat → Int64} : cellE X (100, n :: r) f g = .inl (X.2.2.2.2.1, n, .inl f) := rfl
theorem cell_l {X : Ctx} {n : Nat} {r : List Nat} {f : Nat → Int32} {g : Nat → Int64} : cellE X (101, n :: r) f g = .inl (X.2.2.2.2.2.1, n, .inr (.inl g)) := rfl
theorem cell_z {X : Ctx} {n : Nat} {r : List Nat} {f : Nat → Int32} {g : Nat → Int64} : cellE X (102, n :: r) f g = .inl (X.2.2.2.2.2.2, n, .inl f) := rfl
theorem cell_o {X : Ctx} {ci : Nat} {r : List Nat} {f : Nat → Int32} {g : Nat → Int64} (h : ci < 100) : cellE X (ci, r) f g = .inr (ci, r.mapIdx fun k r => fieldV X r (f k)) := by
  unfold cellE
  rw [if_neg (by show ¬ ci = 100; omega), if_neg (by show ¬ ci = 101; omega), if_neg (by show ¬ ci = 102; omega)]
/-! locals: by place; null where nothing is held -/
def asc (X : Ctx) (lo : List Value) : List (Nat × Value) := (lo.mapIdx fun i v => (i, conc X v)).filter (fun q => !isN q.2)
def LH (X : Ctx) (ls : Array Slot) (nL : Nat) (lo : List Value) : Prop := lv_has ls nL (asc X lo)
theorem isN_conc (X : Ctx) (v : Value) : isN (conc X v) = isN v := by cases v <;> rfl
theorem cat_conc (X : Ctx) (v : Value) : (conc X v).category = v.category := by cases v <;> rfl
theorem asc_mem {X : Ctx} {lo : List Value} {q : Nat × Value} : q ∈ asc X lo ↔ ∃ v, lo[q.1]? = some v ∧ isN v = false ∧ q.2 = conc X v := by
  unfold asc
  rw [List.mem_filter, List.mem_mapIdx]
  constructor
  · rintro ⟨⟨i, h, rfl⟩, h2⟩
    refine ⟨lo[i], ?_, ?_, rfl⟩
    · exact List.getElem?_eq_getElem h
    · simpa [isN_conc] using h2
  · rintro ⟨v, h1, h2, h3⟩
    obtain ⟨hlt, rfl⟩ := List.getElem?_eq_some_iff.mp h1
    refine ⟨⟨q.1, hlt, ?_⟩, ?_⟩
    · rw [← h3]
    · rw [h3]; simpa [isN_conc] using h2
theorem LH.get {X : Ctx} {ls : Array Slot} {nL : Nat} {lo : List Value} (h : LH X ls nL lo) {i : Nat} {v : Value} (hi : lo[i]? = some v) (hn : isN v = false) : ls[i]? = some (.val (conc X v)) :=
  h.2.2 (i, conc X v) (asc_mem.mpr ⟨v, hi, hn, rfl⟩)
/-- what stands ahead of place i is no long -/
def okS (lo : List Value) (i : Nat) : Bool := match i with
  | 0 => true
  | j + 1 => match lo[j]? with
    | some v => v.category != 2
    | none => true
theorem okS_at {lo : List Value} {i j : Nat} {v : Value} (h : okS lo i = true) (hj : j + 1 = i) (hv : lo[j]? = some v) : ¬ v.category = 2 := by
  subst hj
  simp only [okS, hv] at h
  simpa using h
theorem LH.put1 {X : Ctx} {ls : Array Slot} {nL : Nat} {lo : List Value} {i : Nat} {w : Value} (hk : okS lo i = true)
    (h : lv_has ls nL ((i, conc X w) :: (asc X lo).filter (fun q => !(q.1 == i) && !(q.1 + 1 == i && q.2.category == 2)))) : LH X ls nL (lo.set i w) := by
  refine ⟨h.1, h.2.1, fun q hq => h.2.2 q ?_⟩
  obtain ⟨v, h1, h2, h3⟩ := asc_mem.mp hq
  rw [List.getElem?_set] at h1
  by_cases hj : i = q.1
  · rw [if_pos hj] at h1
    split at h1
    · cases h1
      exact List.mem_cons.mpr (Or.inl (by rw [← h3, hj]))
    · cases h1
  · rw [if_neg hj] at h1
    refine List.mem_cons_of_mem _ (List.mem_filter.mpr ⟨asc_mem.mpr ⟨v, h1, h2, h3⟩, ?_⟩)
    have hne : (q.1 == i) = false := by simpa using fun e => hj e.symm
    by_cases he : q.1 + 1 = i
    · have hc := okS_at hk he h1
      rw [h3]
      simp [hne, cat_conc, hc]
    · simp [hne, he]
theorem LH.put2 {X : Ctx} {ls : Array Slot} {nL : Nat} {lo : List Value} {i : Nat} {w : Value} (hk : okS lo i = true)
    (h : lv_has ls nL ((i, conc X w) :: (asc X lo).filter (fun q => !(q.1 == i) && (!(q.1 == i + 1) && !(q.1 + 1 == i && q.2.category == 2))))) : LH X ls nL ((lo.set i w).set (i + 1) .null) := by
  refine ⟨h.1, h.2.1, fun q hq => h.2.2 q ?_⟩
  obtain ⟨v, h1, h2, h3⟩ := asc_mem.mp hq
  rw [List.getElem?_set] at h1
  by_cases hj1 : i + 1 = q.1
  · rw [if_pos hj1] at h1
    split at h1
    · cases h1; cases h2
    · cases h1
  rw [if_neg hj1, List.getElem?_set] at h1
  by_cases hj : i = q.1
  · rw [if_pos hj] at h1
    split at h1
    · cases h1
      exact List.mem_cons.mpr (Or.inl (by rw [← h3, hj]))
    · cases h1
  · rw [if_neg hj] at h1
    refine List.mem_cons_of_mem _ (List.mem_filter.mpr ⟨asc_mem.mpr ⟨v, h1, h2, h3⟩, ?_⟩)
    have hne : (q.1 == i) = false := by simpa using fun e => hj e.symm
    have hne1 : (q.1 == i + 1) = false := by simpa using fun e => hj1 e.symm
    by_cases he : q.1 + 1 = i
    · have hc := okS_at hk he h1
      rw [h3]
      simp [hne, hne1, cat_conc, hc]
    · simp [hne, hne1, he]
def loA : List Value → List Value
  | [] => []
  | v :: r => if v.category = 2 then v :: .null :: loA r else v :: loA r
theorem loA_args (X : Ctx) (n : Nat) (av : List Value) : ∀ (i : Nat) (q : Nat × Value) (v : Value), (loA av ++ List.replicate n Value.null)[q.1]? = some v → isN v = false → q.2 = conc X v → (i + q.1, q.2) ∈ lv_args i (av.map (conc X)) := by
  induction av with
  | nil =>
    intro i q v h1 h2 h3
    simp only [loA, List.nil_append] at h1
    have := List.eq_of_mem_replicate (List.mem_of_getElem? h1)
    subst this
    cases h2
  | cons a r ih =>
    intro i q v h1 h2 h3
    obtain ⟨k, w⟩ := q
    by_cases hc : a.category = 2
    · have hl : lv_args i ((a :: r).map (conc X)) = (i, conc X a) :: lv_args (i + 2) (r.map (conc X)) := by
        simp [lv_args, cat_conc, hc]
      rw [hl]
      simp only [loA, if_pos hc] at h1
      match k, h1 with
      | 0, h1 =>
        simp at h1
        subst h1
        exact List.mem_cons.mpr (Or.inl (by rw [show w = conc X a from h3]; rfl))
      | 1, h1 =>
        simp at h1
        subst h1
        cases h2
      | k + 2, h1 =>
        simp at h1
        have := ih (i + 2) (k, w) v (by simpa using h1) h2 h3
        refine List.mem_cons_of_mem _ ?_
        have e : i + (k + 2) = i + 2 + k := by omega
        rw [show ((i + (k + 2), w) : Nat × Value) = (i + 2 + k, w) by rw [e]]
        exact this
    · have hl : lv_args i ((a :: r).map (conc X)) = (i, conc X a) :: lv_args (i + 1) (r.map (conc X)) := by
        simp [lv_args, cat_conc, hc]
      rw [hl]
      simp only [loA, if_neg hc] at h1
      match k, h1 with
      | 0, h1 =>
        simp at h1
        subst h1
        exact List.mem_cons.mpr (Or.inl (by rw [show w = conc X a from h3]; rfl))
      | k + 1, h1 =>
        simp at h1
        have := ih (i + 1) (k, w) v (by simpa using h1) h2 h3
        refine List.mem_cons_of_mem _ ?_
        have e : i + (k + 1) = i + 1 + k := by omega
        rw [show ((i + (k + 1), w) : Nat × Value) = (i + 1 + k, w) by rw [e]]
        exact this
theorem LH.entry (X : Ctx) (av : List Value) {n : Nat} (hlen : (lg_sl (av.map (conc X))).length ≤ n) (k : Nat) : LH X ((lg_sl (av.map (conc X)) ++ List.replicate (n - (lg_sl (av.map (conc X))).length) Slot.unset).toArray) n (loA av ++ List.replicate k Value.null) := by
  have h := lv_entry (av.map (conc X)) hlen
  refine ⟨h.1, h.2.1, fun q hq => h.2.2 q ?_⟩
  obtain ⟨v, h1, h2, h3⟩ := asc_mem.mp hq
  have := loA_args X k av 0 q v h1 h2 h3
  simpa using this
/-! the judgement -/
def rmX (d : Nat) (ct : Nat × Nat) : Room := { frames := d, cells := ct.1, slots := ct.2, locals := 40 * d }
def QX (X : Ctx) (T : TR) : Array Value → State → Outcome → State → Prop := fun _ st oc t => oc = .returned (T.1.map (conc X)) ∧ WD X T.2.1 T.2.2.1 T.2.2.2 t.heap ∧ va_F (AX X) st t
def CX (X : Ctx) (M : MD) (p : Program) (s : State) (m : MethodId) (args : Array Value) (meth : Method) (c : Code) : Prop :=
  p.tables.exec = Jvm.exec ∧ c.code = M.2.1 ∧ c.maxLocals = M.2.2.1 ∧ s.vm.findClass M.1.cls = some m.cls ∧ meth.sig.returnType = M.2.2.2 ∧ meth.locks = false ∧ meth.name = M.1.name ∧ (∀ w ∈ gw, w.before args s = true) ∧ KX X s ∧ X.2.1 ≤ s.heap.size
def Ev (X : Ctx) (M : MD) (d : Nat) (ct cs : Nat × Nat) (T : TR) (pc : Nat) (lo st : List Value) (sh : List SH) (I : MI) (L : ML) : Prop :=
  ∀ (p : Program) (e : Env) (s : State) (m : MethodId) (args : Array Value) (below : List Frame) (meth : Method) (c : Code) (H : Heap) (locs : List Loc) (ls : Array Slot),
    CX X M p s m args meth c → WD X sh I L H → va_S (AX X) s.heap H locs → LH X ls M.2.2.1 lo →
    W p X.1 e (rmX d ct) s m args below meth c H locs cs.1 cs.2 (MQ below (QX X T) args s ct.1 ct.2 (AX X)) (F0 m pc ls (st.map (conc X)))
def Sp (X : Ctx) (M : MD) (d : Nat) (ct : Nat × Nat) (av : List Value) (sh : List SH) (I : MI) (L : ML) (T : TR) : Prop :=
  Met X.1 M.1 (.code M.1 M.2.1 M.2.2.1 M.2.2.2 :: gw) (rmX d ct) (va_Pc (av.map (conc X)) (fun U => WD X sh I L U.heap ∧ KX X U)) (QX X T) ct.1 ct.2 (AX X)
def OKM (M : MD) (n : Nat) : Prop := plainName M.1.cls = true ∧ Cond.code M.1 M.2.1 M.2.2.1 M.2.2.2 ∈ gw ∧ (M.1.cls ≠ "java/lang/invoke/MethodHandle" ∧ M.1.cls ≠ "java/lang/invoke/VarHandle") ∧ (parseMethodDescriptor M.1.desc).map (fun d => d.parameters.length) = some n ∧ Cond.initialized M.1.cls ∈ gw ∧ M.2.2.1 ≤ 20
theorem gw_good : ∀ w ∈ gw, (w.onTables && w.keeps) = true ∨ ∃ ty, w = .arrayClass ty := fun _ h => good_of_word (List.mem_filter.mp h).2
theorem gw_pay {s : State} {args : Array Value} (hts : ∀ w ∈ gw, w.before args s = true) {ws : List Cond} (hw : ∀ w ∈ ws, w ∈ gw) : GoodIn gw ws := fun w h => ⟨hw w h, gw_good w (hw w h)⟩
set_option maxHeartbeats 1000000 in
theorem Sp.of {X : Ctx} {M : MD} {d n : Nat} {ct : Nat × Nat} {av : List Value} {sh : List SH} {I : MI} {L : ML} {T : TR} (hok : OKM M n) (lo : List Value) (k : Nat) (hlo : loA av ++ List.replicate k Value.null = lo) (hlen : (lg_sl (av.map (conc X))).length ≤ M.2.2.1)
    (h : Ev X M d ct (0, 0) T 0 lo [] sh I L) : Sp X M d ct av sh I L T := by
  obtain ⟨y, cc, nL, ret⟩ := M
  subst hlo
  refine Met.ofW (cc := cc) (maxL := nL) (ret := ret) hok.1 rfl ?_
  intro p e s m args below meth c s₁ B hml hv
  obtain ⟨rfl, hW, hK⟩ := hv
  have hts := atoms_spec (ws := Cond.code y cc nL ret :: gw) B.pre
  rw [lg_entry_eq]
  exact h p e s m _ below meth c s.heap [] _ ⟨B.exec, B.bytes, hml, findClass_of_methodNamed B.named, B.returns, B.notSynchronized, (name_of_methodNamed B.named B.method).1, fun w hw => hts w (List.mem_cons_of_mem _ hw), hK, by rw [hW.1]; exact Nat.le_add_right _ _⟩ hW va_S.rf (LH.entry X av hlen k)
section ROWS
variable {X : Ctx} {M : MD} {d : Nat} {ct cs : Nat × Nat} {T : TR} {pc : Nat} {lo st rest : List Value} {sh : List SH} {I : MI} {L : ML}
theorem r_iconst {n : Int} {v : Int32} (hdg : decode M.2.1 pc = .ok (.iconst n, 1)) (hv : Int32.ofInt n = v) (k : Ev X M d ct cs T (pc + 1) lo (.int v :: st) sh I L) : Ev X M d ct cs T pc lo st sh I L :=
  fun p e s m args below meth c H locs ls hC hW hS hl0 => lv_iconst hC.1 hC.2.1 hdg hv (k p e s m args below meth c H locs ls hC hW hS hl0)
theorem r_bipush {n : Int} {v : Int32} (hdg : decode M.2.1 pc = .ok (.bipush n, 2)) (hv : (Int8.ofInt n).toInt32 = v) (k : Ev X M d ct cs T (pc + 2) lo (.int v :: st) sh I L) : Ev X M d ct cs T pc lo st sh I L :=
  fun p e s m args below meth c H locs ls hC hW hS hl0 => lv_bipush hC.1 hC.2.1 hdg hv (k p e s m args below meth c H locs ls hC hW hS hl0)
theorem r_sipush {n : Int} {v : Int32} (hdg : decode M.2.1 pc = .ok (.sipush n, 3)) (hv : (Int16.ofInt n).toInt32 = v) (k : Ev X M d ct cs T (pc + 3) lo (.int v :: st) sh I L) : Ev X M d ct cs T pc lo st sh I L :=
  fun p e s m args below meth c H locs ls hC hW hS hl0 => lv_sipush hC.1 hC.2.1 hdg hv (k p e s m args below meth c H locs ls hC hW hS hl0)
theorem r_lconst {n : Fin 2} {v : Int64} (hdg : decode M.2.1 pc = .ok (.lconst n, 1)) (hv : Int64.ofNat (n : Nat) = v) (k : Ev X M d ct cs T (pc + 1) lo (.long v :: st) sh I L) : Ev X M d ct cs T pc lo st sh I L :=
  fun p e s m args below meth c H locs ls hC hW hS hl0 => lv_lconst hC.1 hC.2.1 hdg hv (k p e s m args below meth c H locs ls hC hW hS hl0)
theorem r_iload_n {j : Fin 4} {x : Int32} (hdg : decode M.2.1 pc = .ok (.iload_n j, 1)) (hl : lo[(j : Nat)]? = some (.int x)) (k : Ev X M d ct cs T (pc + 1) lo (.int x :: st) sh I L) : Ev X M d ct cs T pc lo st sh I L :=
  fun p e s m args below meth c H locs ls hC hW hS hl0 => lv_iload_n hC.1 hC.2.1 hdg rfl (hl0.get hl rfl) (k p e s m args below meth c H locs ls hC hW hS hl0)
theorem r_iload {j : Nat} {x : Int32} (hdg : decode M.2.1 pc = .ok (.iload j, 2)) (hl : lo[j]? = some (.int x)) (k : Ev X M d ct cs T (pc + 2) lo (.int x :: st) sh I L) : Ev X M d ct cs T pc lo st sh I L :=
  fun p e s m args below meth c H locs ls hC hW hS hl0 => lv_iload hC.1 hC.2.1 hdg (hl0.get hl rfl) (k p e s m args below meth c H locs ls hC hW hS hl0)
theorem r_lload_n {j : Fin 4} {x : Int64} (hdg : decode M.2.1 pc = .ok (.lload_n j, 1)) (hl : lo[(j : Nat)]? = some (.long x)) (k : Ev X M d ct cs T (pc + 1) lo (.long x :: st) sh I L) : Ev X M d ct cs T pc lo st sh I L :=
  fun p e s m args below meth c H locs ls hC hW hS hl0 => lv_lload_n hC.1 hC.2.1 hdg rfl (hl0.get hl rfl) (k p e s m args below meth c H locs ls hC hW hS hl0)
theorem r_lload {j : Nat} {x : Int64} (hdg : decode M.2.1 pc = .ok (.lload j, 2)) (hl : lo[j]? = some (.long x)) (k : Ev X M d ct cs T (pc + 2) lo (.long x :: st) sh I L) : Ev X M d ct cs T pc lo st sh I L :=
  fun p e s m args below meth c H locs ls hC hW hS hl0 => lv_lload hC.1 hC.2.1 hdg (hl0.get hl rfl) (k p e s m args below meth c H locs ls hC hW hS hl0)
theorem r_aload_n {j : Fin 4} {x : Nat} (hdg : decode M.2.1 pc = .ok (.aload_n j, 1)) (hl : lo[(j : Nat)]? = some (.ref x)) (k : Ev X M d ct cs T (pc + 1) lo (.ref x :: st) sh I L) : Ev X M d ct cs T pc lo st sh I L :=
  fun p e s m args below meth c H locs ls hC hW hS hl0 => lv_aload_n hC.1 hC.2.1 hdg rfl (hl0.get hl rfl) (k p e s m args below meth c H locs ls hC hW hS hl0)
theorem r_aload {j : Nat} {x : Nat} (hdg : decode M.2.1 pc = .ok (.aload j, 2)) (hl : lo[j]? = some (.ref x)) (k : Ev X M d ct cs T (pc + 2) lo (.ref x :: st) sh I L) : Ev X M d ct cs T pc lo st sh I L :=
  fun p e s m args below meth c H locs ls hC hW hS hl0 => lv_aload hC.1 hC.2.1 hdg (hl0.get hl rfl) (k p e s m args below meth c H locs ls hC hW hS hl0)
theorem r_istore_n {j : Fin 4} {x : Int32} {lo1 : List Value} (hdg : decode M.2.1 pc = .ok (.istore_n j, 1)) (hk : okS lo j = true) (hn : (j : Nat) < M.2.2.1) (h1 : lo.set j (.int x) = lo1) (k : Ev X M d ct cs T (pc + 1) lo1 st sh I L) : Ev X M d ct cs T pc lo (.int x :: st) sh I L :=
  fun p e s m args below meth c H locs ls hC hW hS hl0 => by subst h1; exact lv_istore_n hC.1 hC.2.1 hdg rfl hl0 hn rfl (fun ls1 hl1 => k p e s m args below meth c H locs ls1 hC hW hS (LH.put1 hk hl1))
theorem r_istore {j : Nat} {x : Int32} {lo1 : List Value} (hdg : decode M.2.1 pc = .ok (.istore j, 2)) (hk : okS lo j = true) (hn : j < M.2.2.1) (h1 : lo.set j (.int x) = lo1) (k : Ev X M d ct cs T (pc + 2) lo1 st sh I L) : Ev X M d ct cs T pc lo (.int x :: st) sh I L :=
  fun p e s m args below meth c H locs ls hC hW hS hl0 => by subst h1; exact lv_istore hC.1 hC.2.1 hdg hl0 hn rfl (fun ls1 hl1 => k p e s m args below meth c H locs ls1 hC hW hS (LH.put1 hk hl1))
theorem r_astore_n {j : Fin 4} {x : Nat} {lo1 : List Value} (hdg : decode M.2.1 pc = .ok (.astore_n j, 1)) (hk : okS lo j = true) (hn : (j : Nat) < M.2.2.1) (h1 : lo.set j (.ref x) = lo1) (k : Ev X M d ct cs T (pc + 1) lo1 st sh I L) : Ev X M d ct cs T pc lo (.ref x :: st) sh I L :=
  fun p e s m args below meth c H locs ls hC hW hS hl0 => by subst h1; exact lv_astore_n hC.1 hC.2.1 hdg rfl hl0 hn rfl (fun ls1 hl1 => k p e s m args below meth c H locs ls1 hC hW hS (LH.put1 hk hl1))
theorem r_astore {j : Nat} {x : Nat} {lo1 : List Value} (hdg : decode M.2.1 pc = .ok (.astore j, 2)) (hk : okS lo j = true) (hn : j < M.2.2.1) (h1 : lo.set j (.ref x) = lo1) (k : Ev X M d ct cs T (pc + 2) lo1 st sh I L) : Ev X M d ct cs T pc lo (.ref x :: st) sh I L :=
  fun p e s m args below meth c H locs ls hC hW hS hl0 => by subst h1; exact lv_astore hC.1 hC.2.1 hdg hl0 hn rfl (fun ls1 hl1 => k p e s m args below meth c H locs ls1 hC hW hS (LH.put1 hk hl1))
theorem r_lstore_n {j : Fin 4} {x : Int64} {lo1 : List Value} (hdg : decode M.2.1 pc = .ok (.lstore_n j, 1)) (hk : okS lo j = true) (hn : (j : Nat) + 1 < M.2.2.1) (h1 : (lo.set j (.long x)).set (j + 1) .null = lo1) (k : Ev X M d ct cs T (pc + 1) lo1 st sh I L) : Ev X M d ct cs T pc lo (.long x :: st) sh I L :=
  fun p e s m args below meth c H locs ls hC hW hS hl0 => by subst h1; exact lv_lstore_n hC.1 hC.2.1 hdg rfl hl0 hn rfl (fun ls1 hl1 => k p e s m args below meth c H locs ls1 hC hW hS (LH.put2 hk hl1))
theorem r_lstore {j : Nat} {x : Int64} {lo1 : List Value} (hdg : decode M.2.1 pc = .ok (.lstore j, 2)) (hk : okS lo j = true) (hn : j + 1 < M.2.2.1) (h1 : (lo.set j (.long x)).set (j + 1) .null = lo1) (k : Ev X M d ct cs T (pc + 2) lo1 st sh I L) : Ev X M d ct cs T pc lo (.long x :: st) sh I L :=
  fun p e s m args below meth c H locs ls hC hW hS hl0 => by subst h1; exact lv_lstore hC.1 hC.2.1 hdg hl0 hn rfl (fun ls1 hl1 => k p e s m args below meth c H locs ls1 hC hW hS (LH.put2 hk hl1))
theorem asc_at {X : Ctx} {lo : List Value} {i : Nat} {v : Value} (h : lo[i]? = some v) (hn : isN v = false) : ∃ k : Nat, (asc X lo)[k]? = some (i, conc X v) := List.getElem?_of_mem (asc_mem.mpr ⟨v, h, hn, rfl⟩)
theorem r_iinc {j : Nat} {n : Int} {x v : Int32} {lo1 : List Value} (hdg : decode M.2.1 pc = .ok (.iinc j n, 3)) (hj : lo[j]? = some (.int x)) (hk : okS lo j = true) (hv : x + Int32.ofInt n = v) (hn : j < M.2.2.1) (h1 : lo.set j (.int v) = lo1) (k : Ev X M d ct cs T (pc + 3) lo1 st sh I L) : Ev X M d ct cs T pc lo st sh I L :=
  fun p e s m args below meth c H locs ls hC hW hS hl0 => by subst h1; obtain ⟨kk, hkk⟩ := asc_at (X := X) hj rfl; exact lv_iinc hC.1 hC.2.1 hdg hl0 hkk hv hn rfl (fun ls1 hl1 => k p e s m args below meth c H locs ls1 hC hW hS (LH.put1 hk hl1))
theorem r_iadd {x y : Int32} (hdg : decode M.2.1 pc = .ok (.iadd, 1)) (k : Ev X M d ct cs T (pc + 1) lo (.int (x + y) :: st) sh I L) : Ev X M d ct cs T pc lo (.int y :: .int x :: st) sh I L :=
  fun p e s m args below meth c H locs ls hC hW hS hl0 => lv_iadd hC.1 hC.2.1 hdg (k p e s m args below meth c H locs ls hC hW hS hl0)
theorem r_isub {x y : Int32} (hdg : decode M.2.1 pc = .ok (.isub, 1)) (k : Ev X M d ct cs T (pc + 1) lo (.int (x - y) :: st) sh I L) : Ev X M d ct cs T pc lo (.int y :: .int x :: st) sh I L :=
  fun p e s m args below meth c H locs ls hC hW hS hl0 => lv_isub hC.1 hC.2.1 hdg (k p e s m args below meth c H locs ls hC hW hS hl0)
theorem r_imul {x y : Int32} (hdg : decode M.2.1 pc = .ok (.imul, 1)) (k : Ev X M d ct cs T (pc + 1) lo (.int (x * y) :: st) sh I L) : Ev X M d ct cs T pc lo (.int y :: .int x :: st) sh I L :=
  fun p e s m args below meth c H locs ls hC hW hS hl0 => lv_imul hC.1 hC.2.1 hdg (k p e s m args below meth c H locs ls hC hW hS hl0)
theorem r_iand {x y : Int32} (hdg : decode M.2.1 pc = .ok (.iand, 1)) (k : Ev X M d ct cs T (pc + 1) lo (.int (x &&& y) :: st) sh I L) : Ev X M d ct cs T pc lo (.int y :: .int x :: st) sh I L :=
  fun p e s m args below meth c H locs ls hC hW hS hl0 => lv_iand hC.1 hC.2.1 hdg (k p e s m args below meth c H locs ls hC hW hS hl0)
theorem r_ior {x y : Int32} (hdg : decode M.2.1 pc = .ok (.ior, 1)) (k : Ev X M d ct cs T (pc + 1) lo (.int (x ||| y) :: st) sh I L) : Ev X M d ct cs T pc lo (.int y :: .int x :: st) sh I L :=
  fun p e s m args below meth c H locs ls hC hW hS hl0 => lv_ior hC.1 hC.2.1 hdg (k p e s m args below meth c H locs ls hC hW hS hl0)
theorem r_ishl {x y : Int32} (hdg : decode M.2.1 pc = .ok (.ishl, 1)) (k : Ev X M d ct cs T (pc + 1) lo (.int (x <<< (y &&& 31)) :: st) sh I L) : Ev X M d ct cs T pc lo (.int y :: .int x :: st) sh I L :=
  fun p e s m args below meth c H locs ls hC hW hS hl0 => lv_ishl hC.1 hC.2.1 hdg (k p e s m args below meth c H locs ls hC hW hS hl0)
theorem r_ishr {x y : Int32} (hdg : decode M.2.1 pc = .ok (.ishr, 1)) (k : Ev X M d ct cs T (pc + 1) lo (.int (x >>> (y &&& 31)) :: st) sh I L) : Ev X M d ct cs T pc lo (.int y :: .int x :: st) sh I L :=
  fun p e s m args below meth c H locs ls hC hW hS hl0 => lv_ishr hC.1 hC.2.1 hdg (k p e s m args below meth c H locs ls hC hW hS hl0)
theorem r_ladd {x y : Int64} (hdg : decode M.2.1 pc = .ok (.ladd, 1)) (k : Ev X M d ct cs T (pc + 1) lo (.long (x + y) :: st) sh I L) : Ev X M d ct cs T pc lo (.long y :: .long x :: st) sh I L :=
  fun p e s m args below meth c H locs ls hC hW hS hl0 => lv_ladd hC.1 hC.2.1 hdg (k p e s m args below meth c H locs ls hC hW hS hl0)
theorem r_lsub {x y : Int64} (hdg : decode M.2.1 pc = .ok (.lsub, 1)) (k : Ev X M d ct cs T (pc + 1) lo (.long (x - y) :: st) sh I L) : Ev X M d ct cs T pc lo (.long y :: .long x :: st) sh I L :=
  fun p e s m args below meth c H locs ls hC hW hS hl0 => lv_lsub hC.1 hC.2.1 hdg (k p e s m args below meth c H locs ls hC hW hS hl0)
theorem r_lmul {x y : Int64} (hdg : decode M.2.1 pc = .ok (.lmul, 1)) (k : Ev X M d ct cs T (pc + 1) lo (.long (x * y) :: st) sh I L) : Ev X M d ct cs T pc lo (.long y :: .long x :: st) sh I L :=
  fun p e s m args below meth c H locs ls hC hW hS hl0 => lv_lmul hC.1 hC.2.1 hdg (k p e s m args below meth c H locs ls hC hW hS hl0)
theorem r_land {x y : Int64} (hdg : decode M.2.1 pc = .ok (.land, 1)) (k : Ev X M d ct cs T (pc + 1) lo (.long (x &&& y) :: st) sh I L) : Ev X M d ct cs T pc lo (.long y :: .long x :: st) sh I L :=
  fun p e s m args below meth c H locs ls hC hW hS hl0 => lv_land hC.1 hC.2.1 hdg (k p e s m args below meth c H locs ls hC hW hS hl0)
theorem r_lor {x y : Int64} (hdg : decode M.2.1 pc = .ok (.lor, 1)) (k : Ev X M d ct cs T (pc + 1) lo (.long (x ||| y) :: st) sh I L) : Ev X M d ct cs T pc lo (.long y :: .long x :: st) sh I L :=
  fun p e s m args below meth c H locs ls hC hW hS hl0 => lv_lor hC.1 hC.2.1 hdg (k p e s m args below meth c H locs ls hC hW hS hl0)
theorem r_idiv {x y : Int32} (hdg : decode M.2.1 pc = .ok (.idiv, 1)) (hne : ¬ y = 0) (k : Ev X M d ct cs T (pc + 1) lo (.int (x / y) :: st) sh I L) : Ev X M d ct cs T pc lo (.int y :: .int x :: st) sh I L :=
  fun p e s m args below meth c H locs ls hC hW hS hl0 => lv_idiv hC.1 hC.2.1 hdg hne (k p e s m args below meth c H locs ls hC hW hS hl0)
theorem r_irem {x y : Int32} (hdg : decode M.2.1 pc = .ok (.irem, 1)) (hne : ¬ y = 0) (k : Ev X M d ct cs T (pc + 1) lo (.int (x - x / y * y) :: st) sh I L) : Ev X M d ct cs T pc lo (.int y :: .int x :: st) sh I L :=
  fun p e s m args below meth c H locs ls hC hW hS hl0 => lv_irem hC.1 hC.2.1 hdg hne (k p e s m args below meth c H locs ls hC hW hS hl0)
theorem r_ineg {x : Int32} (hdg : decode M.2.1 pc = .ok (.ineg, 1)) (k : Ev X M d ct cs T (pc + 1) lo (.int (-x) :: st) sh I L) : Ev X M d ct cs T pc lo (.int x :: st) sh I L :=
  fun p e s m args below meth c H locs ls hC hW hS hl0 => lv_ineg hC.1 hC.2.1 hdg (k p e s m args below meth c H locs ls hC hW hS hl0)
theorem r_lneg {x : Int64} (hdg : decode M.2.1 pc = .ok (.lneg, 1)) (k : Ev X M d ct cs T (pc + 1) lo (.long (-x) :: st) sh I L) : Ev X M d ct cs T pc lo (.long x :: st) sh I L :=
  fun p e s m args below meth c H locs ls hC hW hS hl0 => lv_lneg hC.1 hC.2.1 hdg (k p e s m args below meth c H locs ls hC hW hS hl0)
theorem r_i2l {x : Int32} (hdg : decode M.2.1 pc = .ok (.i2l, 1)) (k : Ev X M d ct cs T (pc + 1) lo (.long x.toInt64 :: st) sh I L) : Ev X M d ct cs T pc lo (.int x :: st) sh I L :=
  fun p e s m args below meth c H locs ls hC hW hS hl0 => lv_i2l hC.1 hC.2.1 hdg rfl (k p e s m args below meth c H locs ls hC hW hS hl0)
theorem r_iushr {x y : Int32} (hdg : decode M.2.1 pc = .ok (.iushr, 1)) (k : Ev X M d ct cs T (pc + 1) lo (.int (x.toUInt32 >>> (y.toUInt32 &&& Int32.toUInt32 31)).toInt32 :: st) sh I L) : Ev X M d ct cs T pc lo (.int y :: .int x :: st) sh I L :=
  fun p e s m args below meth c H locs ls hC hW hS hl0 => lv_iushr hC.1 hC.2.1 hdg rfl (k p e s m args below meth c H locs ls hC hW hS hl0)
theorem r_lshl {x : Int64} {y : Int32} (hdg : decode M.2.1 pc = .ok (.lshl, 1)) (k : Ev X M d ct cs T (pc + 1) lo (.long (x <<< (y.toInt64 &&& 63)) :: st) sh I L) : Ev X M d ct cs T pc lo (.int y :: .long x :: st) sh I L :=
  fun p e s m args below meth c H locs ls hC hW hS hl0 => lv_lshl hC.1 hC.2.1 hdg rfl (k p e s m args below meth c H locs ls hC hW hS hl0)
theorem r_lcmp {x y : Int64} (hdg : decode M.2.1 pc = .ok (.lcmp, 1)) (k : Ev X M d ct cs T (pc + 1) lo (.int (lg_cmp x y) :: st) sh I L) : Ev X M d ct cs T pc lo (.long y :: .long x :: st) sh I L :=
  fun p e s m args below meth c H locs ls hC hW hS hl0 => W.lcmp hC.1 hC.2.1 hdg (k p e s m args below meth c H locs ls hC hW hS hl0)
theorem r_dup {v : Value} (hdg : decode M.2.1 pc = .ok (.dup, 1)) (hv : v.category = 1) (k : Ev X M d ct cs T (pc + 1) lo (v :: v :: st) sh I L) : Ev X M d ct cs T pc lo (v :: st) sh I L :=
  fun p e s m args below meth c H locs ls hC hW hS hl0 => lv_dup hC.1 hC.2.1 hdg (by rw [cat_conc]; exact hv) (k p e s m args below meth c H locs ls hC hW hS hl0)
theorem r_pop {v : Value} (hdg : decode M.2.1 pc = .ok (.pop, 1)) (hv : v.category = 1) (k : Ev X M d ct cs T (pc + 1) lo st sh I L) : Ev X M d ct cs T pc lo (v :: st) sh I L :=
  fun p e s m args below meth c H locs ls hC hW hS hl0 => lv_pop hC.1 hC.2.1 hdg (by rw [cat_conc]; exact hv) (k p e s m args below meth c H locs ls hC hW hS hl0)
theorem r_dup2 {v w : Value} (hdg : decode M.2.1 pc = .ok (.dup2, 1)) (hv : v.category = 1) (hw : w.category = 1) (k : Ev X M d ct cs T (pc + 1) lo (v :: w :: v :: w :: st) sh I L) : Ev X M d ct cs T pc lo (v :: w :: st) sh I L :=
  fun p e s m args below meth c H locs ls hC hW hS hl0 => lv_dup2_11 hC.1 hC.2.1 hdg (by rw [cat_conc]; exact hv) (by rw [cat_conc]; exact hw) (k p e s m args below meth c H locs ls hC hW hS hl0)
theorem r_goto {off : Int} {tgt : Nat} (hdg : decode M.2.1 pc = .ok (.goto off, 3)) (ht : (pc : Int) + off = (tgt : Int)) (k : Ev X M d ct cs T tgt lo st sh I L) : Ev X M d ct cs T pc lo st sh I L :=
  fun p e s m args below meth c H locs ls hC hW hS hl0 => lv_goto hC.1 hC.2.1 hdg ht (k p e s m args below meth c H locs ls hC hW hS hl0)
theorem r_if_eq {x : Int32} {off : Int} {tgt : Nat} (hdg : decode M.2.1 pc = .ok (.ifCond .eq off, 3)) (ht : (pc : Int) + off = (tgt : Int)) (kt : x = 0 → Ev X M d ct cs T tgt lo st sh I L) (kf : ¬ x = 0 → Ev X M d ct cs T (pc + 3) lo st sh I L) : Ev X M d ct cs T pc lo (.int x :: st) sh I L :=
  fun p e s m args below meth c H locs ls hC hW hS hl => lv_if_eq hC.1 hC.2.1 hdg ht (fun q => kt q p e s m args below meth c H locs ls hC hW hS hl) (fun q => kf q p e s m args below meth c H locs ls hC hW hS hl)
theorem r_icmp_eq {x y : Int32} {off : Int} {tgt : Nat} (hdg : decode M.2.1 pc = .ok (.if_icmp .eq off, 3)) (ht : (pc : Int) + off = (tgt : Int)) (kt : x = y → Ev X M d ct cs T tgt lo st sh I L) (kf : ¬ x = y → Ev X M d ct cs T (pc + 3) lo st sh I L) : Ev X M d ct cs T pc lo (.int y :: .int x :: st) sh I L :=
  fun p e s m args below meth c H locs ls hC hW hS hl => lv_icmp_eq hC.1 hC.2.1 hdg ht (fun q => kt q p e s m args below meth c H locs ls hC hW hS hl) (fun q => kf q p e s m args below meth c H locs ls hC hW hS hl)
theorem r_if_ne {x : Int32} {off : Int} {tgt : Nat} (hdg : decode M.2.1 pc = .ok (.ifCond .ne off, 3)) (ht : (pc : Int) + off = (tgt : Int)) (kt : ¬ x = 0 → Ev X M d ct cs T tgt lo st sh I L) (kf : x = 0 → Ev X M d ct cs T (pc + 3) lo st sh I L) : Ev X M d ct cs T pc lo (.int x :: st) sh I L :=
  fun p e s m args below meth c H locs ls hC hW hS hl => lv_if_ne hC.1 hC.2.1 hdg ht (fun q => kt q p e s m args below meth c H locs ls hC hW hS hl) (fun q => kf q p e s m args below meth c H locs ls hC hW hS hl)
theorem r_icmp_ne {x y : Int32} {off : Int} {tgt : Nat} (hdg : decode M.2.1 pc = .ok (.if_icmp .ne off, 3)) (ht : (pc : Int) + off = (tgt : Int)) (kt : ¬ x = y → Ev X M d ct cs T tgt lo st sh I L) (kf : x = y → Ev X M d ct cs T (pc + 3) lo st sh I L) : Ev X M d ct cs T pc lo (.int y :: .int x :: st) sh I L :=
  fun p e s m args below meth c H locs ls hC hW hS hl => lv_icmp_ne hC.1 hC.2.1 hdg ht (fun q => kt q p e s m args below meth c H locs ls hC hW hS hl) (fun q => kf q p e s m args below meth c H locs ls hC hW hS hl)
theorem r_if_lt {x : Int32} {off : Int} {tgt : Nat} (hdg : decode M.2.1 pc = .ok (.ifCond .lt off, 3)) (ht : (pc : Int) + off = (tgt : Int)) (kt : x < 0 → Ev X M d ct cs T tgt lo st sh I L) (kf : ¬ x < 0 → Ev X M d ct cs T (pc + 3) lo st sh I L) : Ev X M d ct cs T pc lo (.int x :: st) sh I L :=
  fun p e s m args below meth c H locs ls hC hW hS hl => lv_if_lt hC.1 hC.2.1 hdg ht (fun q => kt q p e s m args below meth c H locs ls hC hW hS hl) (fun q => kf q p e s m args below meth c H locs ls hC hW hS hl)
theorem r_icmp_lt {x y : Int32} {off : Int} {tgt : Nat} (hdg : decode M.2.1 pc = .ok (.if_icmp .lt off, 3)) (ht : (pc : Int) + off = (tgt : Int)) (kt : x < y → Ev X M d ct cs T tgt lo st sh I L) (kf : ¬ x < y → Ev X M d ct cs T (pc + 3) lo st sh I L) : Ev X M d ct cs T pc lo (.int y :: .int x :: st) sh I L :=
  fun p e s m args below meth c H locs ls hC hW hS hl => lv_icmp_lt hC.1 hC.2.1 hdg ht (fun q => kt q p e s m args below meth c H locs ls hC hW hS hl) (fun q => kf q p e s m args below meth c H locs ls hC hW hS hl)
theorem r_if_ge {x : Int32} {off : Int} {tgt : Nat} (hdg : decode M.2.1 pc = .ok (.ifCond .ge off, 3)) (ht : (pc : Int) + off = (tgt : Int)) (kt : 0 ≤ x → Ev X M d ct cs T tgt lo st sh I L) (kf : ¬ 0 ≤ x → Ev X M d ct cs T (pc + 3) lo st sh I L) : Ev X M d ct cs T pc lo (.int x :: st) sh I L :=
  fun p e s m args below meth c H locs ls hC hW hS hl => lv_if_ge hC.1 hC.2.1 hdg ht (fun q => kt q p e s m args below meth c H locs ls hC hW hS hl) (fun q => kf q p e s m args below meth c H locs ls hC hW hS hl)
theorem r_icmp_ge {x y : Int32} {off : Int} {tgt : Nat} (hdg : decode M.2.1 pc = .ok (.if_icmp .ge off, 3)) (ht : (pc : Int) + off = (tgt : Int)) (kt : y ≤ x → Ev X M d ct cs T tgt lo st sh I L) (kf : ¬ y ≤ x → Ev X M d ct cs T (pc + 3) lo st sh I L) : Ev X M d ct cs T pc lo (.int y :: .int x :: st) sh I L :=
  fun p e s m args below meth c H locs ls hC hW hS hl => lv_icmp_ge hC.1 hC.2.1 hdg ht (fun q => kt q p e s m args below meth c H locs ls hC hW hS hl) (fun q => kf q p e s m args below meth c H locs ls hC hW hS hl)
theorem r_if_gt {x : Int32} {off : Int} {tgt : Nat} (hdg : decode M.2.1 pc = .ok (.ifCond .gt off, 3)) (ht : (pc : Int) + off = (tgt : Int)) (kt : 0 < x → Ev X M d ct cs T tgt lo st sh I L) (kf : ¬ 0 < x → Ev X M d ct cs T (pc + 3) lo st sh I L) : Ev X M d ct cs T pc lo (.int x :: st) sh I L :=
  fun p e s m args below meth c H locs ls hC hW hS hl => lv_if_gt hC.1 hC.2.1 hdg ht (fun q => kt q p e s m args below meth c H locs ls hC hW hS hl) (fun q => kf q p e s m args below meth c H locs ls hC hW hS hl)
theorem r_icmp_gt {x y : Int32} {off : Int} {tgt : Nat} (hdg : decode M.2.1 pc = .ok (.if_icmp .gt off, 3)) (ht : (pc : Int) + off = (tgt : Int)) (kt : y < x → Ev X M d ct cs T tgt lo st sh I L) (kf : ¬ y < x → Ev X M d ct cs T (pc + 3) lo st sh I L) : Ev X M d ct cs T pc lo (.int y :: .int x :: st) sh I L :=
  fun p e s m args below meth c H locs ls hC hW hS hl => lv_icmp_gt hC.1 hC.2.1 hdg ht (fun q => kt q p e s m args below meth c H locs ls hC hW hS hl) (fun q => kf q p e s m args below meth c H locs ls hC hW hS hl)
theorem r_if_le {x : Int32} {off : Int} {tgt : Nat} (hdg : decode M.2.1 pc = .ok (.ifCond .le off, 3)) (ht : (pc : Int) + off = (tgt : Int)) (kt : x ≤ 0 → Ev X M d ct cs T tgt lo st sh I L) (kf : ¬ x ≤ 0 → Ev X M d ct cs T (pc + 3) lo st sh I L) : Ev X M d ct cs T pc lo (.int x :: st) sh I L :=
  fun p e s m args below meth c H locs ls hC hW hS hl => lv_if_le hC.1 hC.2.1 hdg ht (fun q => kt q p e s m args below meth c H locs ls hC hW hS hl) (fun q => kf q p e s m args below meth c H locs ls hC hW hS hl)
theorem r_icmp_le {x y : Int32} {off : Int} {tgt : Nat} (hdg : decode M.2.1 pc = .ok (.if_icmp .le off, 3)) (ht : (pc : Int) + off = (tgt : Int)) (kt : x ≤ y → Ev X M d ct cs T tgt lo st sh I L) (kf : ¬ x ≤ y → Ev X M d ct cs T (pc + 3) lo st sh I L) : Ev X M d ct cs T pc lo (.int y :: .int x :: st) sh I L :=
  fun p e s m args below meth c H locs ls hC hW hS hl => lv_icmp_le hC.1 hC.2.1 hdg ht (fun q => kt q p e s m args below meth c H locs ls hC hW hS hl) (fun q => kf q p e s m args below meth c H locs ls hC hW hS hl)
theorem r_swOut {dflt a b : Int} {offs : Array Int} {len : Nat} {x : Int32} {tgt : Nat} (hdg : decode M.2.1 pc = .ok (.tableswitch dflt a b offs, len)) (h : x.toInt < a ∨ b < x.toInt) (ht : (pc : Int) + dflt = (tgt : Int)) (k : Ev X M d ct cs T tgt lo st sh I L) : Ev X M d ct cs T pc lo (.int x :: st) sh I L :=
  fun p e s m args below meth c H locs ls hC hW hS hl0 => lv_tableOut hC.1 hC.2.1 hdg h ht (k p e s m args below meth c H locs ls hC hW hS hl0)
theorem r_swIn {dflt a b : Int} {offs : Array Int} {len : Nat} {x : Int32} {off : Int} {tgt : Nat} (hdg : decode M.2.1 pc = .ok (.tableswitch dflt a b offs, len)) (h1 : ¬ x.toInt < a) (h2 : ¬ b < x.toInt) (ho : offs[(x.toInt - a).toNat]? = some off) (ht : (pc : Int) + off = (tgt : Int)) (k : Ev X M d ct cs T tgt lo st sh I L) : Ev X M d ct cs T pc lo (.int x :: st) sh I L :=
  fun p e s m args below meth c H locs ls hC hW hS hl0 => lv_tableIn hC.1 hC.2.1 hdg h1 h2 ho ht (k p e s m args below meth c H locs ls hC hW hS hl0)
theorem r_ldc2 {idx : Nat} {v : Int64} (hdg : decode M.2.1 pc = .ok (.ldc2_w idx, 3)) (hw : Cond.constantLong M.1.cls idx v ∈ gw) (k : Ev X M d ct cs T (pc + 3) lo (.long v :: st) sh I L) : Ev X M d ct cs T pc lo st sh I L :=
  fun p e s m args below meth c H locs ls hC hW hS hl0 => lv_ldc2 hC.1 hC.2.1 hC.2.2.2.1 (hC.2.2.2.2.2.2.2.1 _ hw) hdg (k p e s m args below meth c H locs ls hC hW hS hl0)
theorem r_ldcw {idx : Nat} {v : Int32} (hdg : decode M.2.1 pc = .ok (.ldc_w idx, 3)) (hw : Cond.constant M.1.cls idx v ∈ gw) (k : Ev X M d ct cs T (pc + 3) lo (.int v :: st) sh I L) : Ev X M d ct cs T pc lo st sh I L :=
  fun p e s m args below meth c H locs ls hC hW hS hl0 => lv_ldcw hC.1 hC.2.1 hC.2.2.2.1 (hC.2.2.2.2.2.2.2.1 _ hw) hdg (k p e s m args below meth c H locs ls hC hW hS hl0)
def u2 (I : MI) (c j : Nat) (x : Int32) : MI := fun c' => if c' = c then upd (I c) j x else I c'
def v2 (L : ML) (c j : Nat) (x : Int64) : ML := fun c' => if c' = c then vp_updL (L c) j x else L c'
theorem u2_off {I : MI} {c j c' : Nat} {x : Int32} (h : c' ≠ c) : u2 I c j x c' = I c' := if_neg h
theorem u2_on {I : MI} {c j : Nat} {x : Int32} : u2 I c j x c = upd (I c) j x := if_pos rfl
theorem v2_off {I : ML} {c j c' : Nat} {x : Int64} (h : c' ≠ c) : v2 I c j x c' = I c' := if_neg h
theorem v2_on {I : ML} {c j : Nat} {x : Int64} : v2 I c j x c = vp_updL (I c) j x := if_pos rfl
theorem WD.put {sh sh' : List SH} {I I' : MI} {L L' : ML} {H0 : Heap} {ws : va_W} (h : H0.size = X.2.1 + sh.length) (hP : va_P (X.2.2.1, X.2.2.2.1) cls8 ws H0) (hl : sh'.length = sh.length) (he : ws = wsM X sh' I' L') : WD X sh' I' L' H0 := by
  subst he
  exact ⟨by rw [h, hl], hP⟩
theorem r_iald {a n : Nat} {i : Int32} {j : Nat} (hdg : decode M.2.1 pc = .ok (.iaload, 1)) (hs : sh[a]? = some (100, [n])) (hi : i = nI j) (hj : j < n) (hn : n < 2 ^ 31) (k : Ev X M d ct cs T (pc + 1) lo (.int (I a j) :: st) sh I L) : Ev X M d ct cs T pc lo (.int i :: .ref a :: st) sh I L :=
  fun p e s m args below meth c H locs ls hC hW hS hl => by
    subst hi
    refine va_iald hC.1 hC.2.1 hC.2.2.2.2.2.2.2.2.1.1 hW.2 a 0 (wsM_get hs) rfl (vp_in_nI hj hn) hdg ?_
    rw [nI_clamp (by omega)]
    exact k p e s m args below meth c H locs ls hC hW hS hl
theorem r_lald {a n : Nat} {i : Int32} {j : Nat} (hdg : decode M.2.1 pc = .ok (.laload, 1)) (hs : sh[a]? = some (101, [n])) (hi : i = nI j) (hj : j < n) (hn : n < 2 ^ 31) (k : Ev X M d ct cs T (pc + 1) lo (.long (L a j) :: st) sh I L) : Ev X M d ct cs T pc lo (.int i :: .ref a :: st) sh I L :=
  fun p e s m args below meth c H locs ls hC hW hS hl => by
    subst hi
    refine va_lald hC.1 hC.2.1 hC.2.2.2.2.2.2.2.2.1.1 hW.2 a 1 (wsM_get hs) rfl (vp_in_nI hj hn) hdg ?_
    rw [nI_clamp (by omega)]
    exact k p e s m args below meth c H locs ls hC hW hS hl
theorem r_zald {a n : Nat} {i : Int32} {j : Nat} (hdg : decode M.2.1 pc = .ok (.baload, 1)) (hs : sh[a]? = some (102, [n])) (hi : i = nI j) (hj : j < n) (hn : n < 2 ^ 31) (k : Ev X M d ct cs T (pc + 1) lo (.int (I a j) :: st) sh I L) : Ev X M d ct cs T pc lo (.int i :: .ref a :: st) sh I L :=
  fun p e s m args below meth c H locs ls hC hW hS hl => by
    subst hi
    refine va_zald hC.1 hC.2.1 hC.2.2.2.2.2.2.2.2.1.1 hW.2 a 2 (wsM_get hs) rfl (vp_in_nI hj hn) hdg ?_
    rw [nI_clamp (by omega)]
    exact k p e s m args below meth c H locs ls hC hW hS hl
theorem r_alen {a t n : Nat} (hdg : decode M.2.1 pc = .ok (.arraylength, 1)) (hs : sh[a]? = some (t, [n])) (ht : t = 100 ∨ t = 101 ∨ t = 102) (k : Ev X M d ct cs T (pc + 1) lo (.int (nI n) :: st) sh I L) : Ev X M d ct cs T pc lo (.ref a :: st) sh I L :=
  fun p e s m args below meth c H locs ls hC hW hS hl => by
    rcases ht with rfl | rfl | rfl
    · exact va_alen hC.1 hC.2.1 hC.2.2.2.2.2.2.2.2.1.1 hW.2 a 0 (wsM_get hs) (ty := .int) rfl rfl hdg (k p e s m args below meth c H locs ls hC hW hS hl)
    · exact va_alen hC.1 hC.2.1 hC.2.2.2.2.2.2.2.2.1.1 hW.2 a 1 (wsM_get hs) (ty := .long) rfl rfl hdg (k p e s m args below meth c H locs ls hC hW hS hl)
    · exact va_alen hC.1 hC.2.1 hC.2.2.2.2.2.2.2.2.1.1 hW.2 a 2 (wsM_get hs) (ty := .boolean) rfl rfl hdg (k p e s m args below meth c H locs ls hC hW hS hl)
theorem upd_arr (f : Nat → Int32) (j : Nat) (x : Int32) : (fun q => Value.int (upd f j x q)) = updV (fun q => Value.int (f q)) j (.int x) := by
  funext q
  by_cases hq : q = j
  · subst hq; simp [updV, upd]
  · simp [updV, upd, hq]
theorem updL_arr (f : Nat → Int64) (j : Nat) (x : Int64) : (fun q => Value.long (vp_updL f j x q)) = updV (fun q => Value.long (f q)) j (.long x) := by
  funext q
  by_cases hq : q = j
  · subst hq; simp [updV, vp_updL]
  · simp [updV, vp_updL, hq]
theorem r_iast {a n : Nat} {i x : Int32} {j : Nat} (hdg : decode M.2.1 pc = .ok (.iastore, 1)) (hs : sh[a]? = some (100, [n])) (hi : i = nI j) (hj : j < n) (hn : n < 2 ^ 31) (k : Ev X M d ct cs T (pc + 1) lo st sh (u2 I a j x) L) : Ev X M d ct cs T pc lo (.int x :: .int i :: .ref a :: st) sh I L :=
  fun p e s m args below meth c H locs ls hC hW hS hl => by
    subst hi
    have hin := vp_in_nI hj hn
    have hg := wsM_get (X := X) (I := I) (L := L) hs
    refine W.iast hC.1 hC.2.1 (hW.2 a _ hg) ((hC.2.2.2.2.2.2.2.2.1.1.2 0 _ rfl).1 n (fun q => .int (I a q))) (fun q => by cases q) (by show ¬ (nI j < 0 ∨ (arrV _ _ _).slots.size ≤ _); rw [arrV_size]; exact hin) rfl rfl hdg fun H1 ec z oq => ?_
    have he : (wsM X sh I L).set a (X.2.1 + a, Sum.inl (X.2.2.2.2.1, n, Sum.inl (upd (I a) j x))) = wsM X sh (u2 I a j x) L := wsM_set (s := (100, [n])) _ hs rfl (fun _ _ => rfl) (fun _ h => u2_off h) (fun _ _ => rfl) (by rw [u2_on]; rfl)
    refine k p e s m args below meth c H1 _ ls hC ⟨by rw [z]; exact hW.1, he ▸ hW.2.set (wsM_D X sh I L) hg ?_ oq⟩ (hS.put z oq (Nat.le_add_right _ _)) hl
    show H1[X.2.1 + a]? = some (vp_cell _ _)
    rw [ec, nI_clamp (by omega)]
    show some ((arrV X.2.2.2.2.1 n (fun q => Value.int (I a q))).setSlot j (.int x)) = some (arrV X.2.2.2.2.1 n (fun q => Value.int (upd (I a) j x q)))
    rw [arrV_store, upd_arr]
theorem r_last {a n : Nat} {i : Int32} {x : Int64} {j : Nat} (hdg : decode M.2.1 pc = .ok (.lastore, 1)) (hs : sh[a]? = some (101, [n])) (hi : i = nI j) (hj : j < n) (hn : n < 2 ^ 31) (k : Ev X M d ct cs T (pc + 1) lo st sh I (v2 L a j x)) : Ev X M d ct cs T pc lo (.long x :: .int i :: .ref a :: st) sh I L :=
  fun p e s m args below meth c H locs ls hC hW hS hl => by
    subst hi
    have hin := vp_in_nI hj hn
    have hg := wsM_get (X := X) (I := I) (L := L) hs
    refine W.last hC.1 hC.2.1 (hW.2 a _ hg) ((hC.2.2.2.2.2.2.2.2.1.1.2 1 _ rfl).1 n (fun q => .long (L a q))) (fun q => by cases q) (by show ¬ (nI j < 0 ∨ (arrV _ _ _).slots.size ≤ _); rw [arrV_size]; exact hin) rfl rfl hdg fun H1 ec z oq => ?_
    have he : (wsM X sh I L).set a (X.2.1 + a, Sum.inl (X.2.2.2.2.2.1, n, Sum.inr (Sum.inl (vp_updL (L a) j x)))) = wsM X sh I (v2 L a j x) := wsM_set (s := (101, [n])) _ hs rfl (fun _ _ => rfl) (fun _ _ => rfl) (fun _ h => v2_off h) (by rw [v2_on]; rfl)
    refine k p e s m args below meth c H1 _ ls hC ⟨by rw [z]; exact hW.1, he ▸ hW.2.set (wsM_D X sh I L) hg ?_ oq⟩ (hS.put z oq (Nat.le_add_right _ _)) hl
    show H1[X.2.1 + a]? = some (vp_cell _ _)
    rw [ec, nI_clamp (by omega)]
    show some ((arrV X.2.2.2.2.2.1 n (fun q => Value.long (L a q))).setSlot j (.long x)) = some (arrV X.2.2.2.2.2.1 n (fun q => Value.long (vp_updL (L a) j x q)))
    rw [arrV_store, updL_arr]
theorem r_zast {a n : Nat} {i x : Int32} {j : Nat} (hdg : decode M.2.1 pc = .ok (.bastore, 1)) (hs : sh[a]? = some (102, [n])) (hi : i = nI j) (hj : j < n) (hn : n < 2 ^ 31) (hx : narrow .boolean (.int x) = .int x) (k : Ev X M d ct cs T (pc + 1) lo st sh (u2 I a j x) L) : Ev X M d ct cs T pc lo (.int x :: .int i :: .ref a :: st) sh I L :=
  fun p e s m args below meth c H locs ls hC hW hS hl => by
    subst hi
    have hin := vp_in_nI hj hn
    have hg := wsM_get (X := X) (I := I) (L := L) hs
    refine W.zast hC.1 hC.2.1 (hW.2 a _ hg) ((hC.2.2.2.2.2.2.2.2.1.1.2 2 _ rfl).1 n (fun q => .int (I a q))) (fun q => by cases q) (by show ¬ (nI j < 0 ∨ (arrV _ _ _).slots.size ≤ _); rw [arrV_size]; exact hin) rfl rfl hdg fun H1 ec z oq => ?_
    have he : (wsM X sh I L).set a (X.2.1 + a, Sum.inl (X.2.2.2.2.2.2, n, Sum.inl (upd (I a) j x))) = wsM X sh (u2 I a j x) L := wsM_set (s := (102, [n])) _ hs rfl (fun _ _ => rfl) (fun _ h => u2_off h) (fun _ _ => rfl) (by rw [u2_on]; rfl)
    refine k p e s m args below meth c H1 _ ls hC ⟨by rw [z]; exact hW.1, he ▸ hW.2.set (wsM_D X sh I L) hg ?_ oq⟩ (hS.put z oq (Nat.le_add_right _ _)) hl
    show H1[X.2.1 + a]? = some (vp_cell _ _)
    rw [ec, nI_clamp (by omega), hx]
    show some ((arrV X.2.2.2.2.2.2 n (fun q => Value.int (I a q))).setSlot j (.int x)) = some (arrV X.2.2.2.2.2.2 n (fun q => Value.int (upd (I a) j x q)))
    rw [arrV_store, upd_arr]
/-! fields -/
def CLK (ci : Nat) : Prop := ∃ (q : vw_C) (ty : Nat → FieldType), cls8[ci]? = some q ∧ (∀ w ∈ u_ws q.1 q.2.1 q.2.2, w ∈ gw) ∧ (∀ k, k < q.2.2 → parseFieldDescriptor (q.2.1 k).2.2.1 = some (ty k)) ∧ (∀ a, a < q.2.2 → ∀ b, b < q.2.2 → a ≠ b → (q.2.1 a).2.1 ≠ (q.2.1 b).2.1)
def FLK (own : String) (idx ci k : Nat) : Prop := CLK ci ∧ ci < 100 ∧ ∀ q : vw_C, cls8[ci]? = some q → k < q.2.2 ∧ (Cond.fieldLink own idx (q.2.1 k).1 (q.2.1 k).2.1 (q.2.1 k).2.2.1 ∈ gw ∨ ∃ host, Cond.fieldLinkNest own idx (q.2.1 k).1 (q.2.1 k).2.1 (q.2.1 k).2.2.1 host ∈ nestWs)
theorem get_core {a idx ci j : Nat} {r : List Nat} {v : Value} (hdg : decode M.2.1 pc = .ok (.getfield idx, 3)) (hf : FLK M.1.cls idx ci j) (hs : sh[a]? = some (ci, r)) (hv : (r.mapIdx fun k r => fieldV X r (I a k))[j]? = some (conc X v))
    (k : Ev X M d ct cs T (pc + 3) lo (v :: st) sh I L) : Ev X M d ct cs T pc lo (.ref a :: st) sh I L :=
  fun p e s m args below meth c H locs ls hC hW hS hl => by
    obtain ⟨⟨q, ty, hq, hin, hty, hnm⟩, h100, hf⟩ := hf
    obtain ⟨hk, hlk⟩ := hf q hq
    have hg := wsM_get (X := X) (I := I) (L := L) hs
    rw [cell_o h100] at hg
    rcases hlk with hlk | ⟨host, hlk⟩
    · exact va_get hC.1 hC.2.1 hC.2.2.2.2.2.2.2.1 hin hC.2.2.2.1 hC.2.2.2.2.2.2.2.2.1.1 hW.2 a hg hq j hk (hC.2.2.2.2.2.2.2.1 _ hlk) (fun _ h => h) hv hdg (k p e s m args below meth c H locs ls hC hW hS hl)
    · exact va_getN hC.1 hC.2.1 hC.2.2.2.2.2.2.2.1 hin hC.2.2.2.1 hC.2.2.2.2.2.2.2.2.1.1 hW.2 a hg hq j hk (va_Nw.use rfl (hC.2.2.2.2.2.2.2.2.1.2 _ hlk)) (fun _ h => h) hv hdg (k p e s m args below meth c H locs ls hC hW hS hl)
theorem r_get {a idx ci j : Nat} {r : List Nat} (hdg : decode M.2.1 pc = .ok (.getfield idx, 3)) (hf : FLK M.1.cls idx ci j) (hs : sh[a]? = some (ci, r)) (hr : r[j]? = some 0) (k : Ev X M d ct cs T (pc + 3) lo (.int (I a j) :: st) sh I L) : Ev X M d ct cs T pc lo (.ref a :: st) sh I L :=
  get_core (v := .int (I a j)) hdg hf hs (by simp [List.getElem?_mapIdx, hr, fieldV, conc]) k
theorem r_getR {a b idx ci j : Nat} {r : List Nat} (hdg : decode M.2.1 pc = .ok (.getfield idx, 3)) (hf : FLK M.1.cls idx ci j) (hs : sh[a]? = some (ci, r)) (hr : r[j]? = some (b + 2)) (k : Ev X M d ct cs T (pc + 3) lo (.ref b :: st) sh I L) : Ev X M d ct cs T pc lo (.ref a :: st) sh I L :=
  get_core (v := .ref b) hdg hf hs (by simp [List.getElem?_mapIdx, hr, fieldV, conc]) k
theorem r_put {a idx ci j : Nat} {x : Int32} {r : List Nat} (ty : FieldType) (hdg : decode M.2.1 pc = .ok (.putfield idx, 3)) (hf : FLK M.1.cls idx ci j) (hs : sh[a]? = some (ci, r)) (hr : r[j]? = some 0)
    (hcl : ∀ q : vw_C, cls8[ci]? = some q → (q.2.1 j).2.2.2 = false ∧ parseFieldDescriptor (q.2.1 j).2.2.1 = some ty) (hnr : narrow ty (.int x) = .int x) (hft : fits ty (.int x) = true) (k : Ev X M d ct cs T (pc + 3) lo st sh (u2 I a j x) L) : Ev X M d ct cs T pc lo (.int x :: .ref a :: st) sh I L :=
  fun p e s m args below meth c H locs ls hC hW hS hl => by
    obtain ⟨⟨q, tys, hq, hin, hty, hnm⟩, h100, hf⟩ := hf
    obtain ⟨hk, hlk⟩ := hf q hq
    obtain ⟨hfin, hd⟩ := hcl q hq
    obtain ⟨C0, T0, N0⟩ := q
    have hg := wsM_get (X := X) (I := I) (L := L) hs
    rw [cell_o h100] at hg
    have hK := hC.2.2.2.2.2.2.2.2.1.1
    have hts := hC.2.2.2.2.2.2.2.1
    have hown := hC.2.2.2.1
    have hap := va_apart (own := M.1.cls) hts hin tys hty hnm hK hq
    obtain ⟨rr, h1, cell, q1, q2, q3, q4⟩ := hW.2 a _ hg
    have hrr : rr = (C0, T0, N0) := Option.some.inj (h1.symm.trans hq)
    subst hrr
    obtain ⟨hSl, hfc, kC, hkC, hkind⟩ := hK.1 ci _ hq
    obtain ⟨cf, kf, fi, f, hi, hsl⟩ := hSl j hk
    have hlay := hts _ (hin _ (u_in_lay hk))
    unfold u_lay at hlay
    rw [if_neg (by rw [hfin]; decide)] at hlay
    have hst := (u_facts hfc hkC (u_lays hts hin hk) hi).1
    have h6 := u_store hfc hkC hkind hlay hi hd hnr hft
    have he : (wsM X sh I L).set a (X.2.1 + a, Sum.inr (ci, (r.mapIdx fun k r => fieldV X r (I a k)).set j (.int x))) = wsM X sh (u2 I a j x) L := by
      refine wsM_set (s := (ci, r)) _ hs rfl (fun _ _ => rfl) (fun _ h => u2_off h) (fun _ _ => rfl) ?_
      rw [cell_o h100, u2_on]
      congr 2
      apply List.ext_getElem?
      intro z
      rw [List.getElem?_set]
      by_cases hz : j = z
      · subst hz
        have hlt : j < r.length := (List.getElem?_eq_some_iff.mp hr).1
        rw [if_pos rfl, if_pos (by simpa using hlt)]
        simp only [List.getElem?_mapIdx, hr, Option.map_some, fieldV, upd, if_true]
      · rw [if_neg hz]
        simp only [List.getElem?_mapIdx, upd, if_neg (fun e : z = j => hz e.symm)]
    have hlt : j < (r.mapIdx fun k r => fieldV X r (I a k)).length := by simpa using (List.getElem?_eq_some_iff.mp hr).1
    have fin : ∀ H1 : Heap, H1[X.2.1 + a]? = some (cell.setSlot f.slot (.int x)) → H1.size = H.size → (∀ q : Nat, q ≠ X.2.1 + a → H1[q]? = H[q]?) → W p X.1 e (rmX d ct) s m args below meth c H1 (locs ++ [⟨X.2.1 + a, f.slot⟩]) cs.1 cs.2 (MQ below (QX X T) args s ct.1 ct.2 (AX X)) (F0 m (pc + 3) ls (st.map (conc X))) := by
      intro H1 e1 e2 e3
      rw [hsl] at e1
      exact k p e s m args below meth c H1 _ ls hC ⟨by rw [e2]; exact hW.1, he ▸ hW.2.set (wsM_D X sh I L) hg ⟨_, hq, t_OB.to (V := updV (vp_V (r.mapIdx fun k r => fieldV X r (I a k))) j (.int x)) ⟨_, e1, q2, q3, t_set q4 hap hk (.int x)⟩ (fun z _ => vp_updV_set hlt (.int x) z)⟩ e3⟩ (hS.put e2 e3 (Nat.le_add_right _ _)) hl
    rcases hlk with hlk | ⟨host, hlk⟩
    · exact W.putK hC.1 hC.2.1 (f := f) ⟨hown, hts _ hlk, ⟨_, _, _, hi⟩, hst⟩ (by rw [q2]; exact h6) q1 q3 (by rw [hsl]; exact k2_hasslot (q4 j hk)) rfl rfl hdg fin
    · exact va_WputK hC.1 hC.2.1 hown (va_Nw.use rfl (hC.2.2.2.2.2.2.2.2.1.2 _ hlk)) hi hst (by rw [q2]; exact h6) q1 q3 (by rw [hsl]; exact k2_hasslot (q4 j hk)) rfl rfl hdg fin
/-- a final field of a reference, in its constructor -/
theorem r_putR {a b idx ci j : Nat} {r : List Nat} (ty : FieldType) {sh1 : List SH} (hdg : decode M.2.1 pc = .ok (.putfield idx, 3)) (hf : FLK M.1.cls idx ci j) (hs : sh[a]? = some (ci, r)) (hr : j < r.length) (hnest : ∀ q : vw_C, cls8[ci]? = some q → Cond.fieldLink M.1.cls idx (q.2.1 j).1 (q.2.1 j).2.1 (q.2.1 j).2.2.1 ∈ gw)
    (hcl : ∀ q : vw_C, cls8[ci]? = some q → (q.2.1 j).2.2.2 = true ∧ (q.2.1 j).1 = M.1.cls ∧ parseFieldDescriptor (q.2.1 j).2.2.1 = some ty) (hini : M.1.name = "<init>") (hnr : ∀ z, narrow ty (.ref z) = .ref z) (hft : ∀ z, fits ty (.ref z) = true) (hsh : sh.set a (ci, r.set j (b + 2)) = sh1)
    (k : Ev X M d ct cs T (pc + 3) lo st sh1 I L) : Ev X M d ct cs T pc lo (.ref b :: .ref a :: st) sh I L :=
  fun p e s m args below meth c H locs ls hC hW hS hl => by
    subst hsh
    obtain ⟨⟨q, tys, hq, hin, hty, hnm⟩, h100, hf⟩ := hf
    obtain ⟨hk, -⟩ := hf q hq
    have hlk := hnest q hq
    obtain ⟨hfin, hdecl, hd⟩ := hcl q hq
    obtain ⟨C0, T0, N0⟩ := q
    have hg := wsM_get (X := X) (I := I) (L := L) hs
    rw [cell_o h100] at hg
    have hK := hC.2.2.2.2.2.2.2.2.1.1
    have hts := hC.2.2.2.2.2.2.2.1
    have hown := hC.2.2.2.1
    have hap := va_apart (own := M.1.cls) hts hin tys hty hnm hK hq
    obtain ⟨rr, h1, cell, q1, q2, q3, q4⟩ := hW.2 a _ hg
    have hrr : rr = (C0, T0, N0) := Option.some.inj (h1.symm.trans hq)
    subst hrr
    obtain ⟨hSl, hfc, kC, hkC, hkind⟩ := hK.1 ci _ hq
    obtain ⟨cf, kf, fi, f, hi, hsl⟩ := hSl j hk
    have hlay := hts _ (hin _ (u_in_lay hk))
    unfold u_lay at hlay
    rw [if_pos hfin] at hlay
    have hst := (u_facts hfc hkC (u_lays hts hin hk) hi).1
    have hcf : m.cls = cf := by
      obtain ⟨_, _, c', _, _, _, -, -, hf', -, -, -, hown2, -⟩ := Cond.laysFinal_spec hlay
      have e1 : c' = cf := by have := hi.symm.trans hf'; simp at this; exact this.1.symm
      rw [hdecl] at hown2
      rw [← e1]; exact Option.some.inj (hown.symm.trans hown2)
    have h6 := u_fits (v := .ref (X.2.1 + b)) hfc hkC hkind (Or.inr hlay) hi hd (hnr _) (hft _)
    have hlta : a < sh.length := (List.getElem?_eq_some_iff.mp hs).1
    have he : (wsM X sh I L).set a (X.2.1 + a, Sum.inr (ci, (r.mapIdx fun k r => fieldV X r (I a k)).set j (.ref (X.2.1 + b)))) = wsM X (sh.set a (ci, r.set j (b + 2))) I L := by
      refine wsM_set (s := (ci, r.set j (b + 2))) _ (by simp [hlta]) (by simp) (fun z hz => by rw [List.getElem?_set, if_neg (fun q => hz q.symm)]) (fun _ _ => rfl) (fun _ _ => rfl) ?_
      rw [cell_o h100]
      congr 2
      apply List.ext_getElem?
      intro z
      rw [List.getElem?_set]
      by_cases hz : j = z
      · subst hz
        simp [hr, List.getElem?_mapIdx, fieldV]
      · simp [hz, List.getElem?_mapIdx, List.getElem?_set]
    have hlt : j < (r.mapIdx fun k r => fieldV X r (I a k)).length := by simpa using hr
    refine W.putFinK hC.1 hC.2.1 hown (hts _ hlk) hi hst hcf (by rw [hC.2.2.2.2.2.2.1]; exact hini) (by rw [q2]; exact h6) q1 q3 (by rw [hsl]; exact k2_hasslot (q4 j hk)) rfl rfl hdg fun H1 e1 e2 e3 => ?_
    rw [hsl] at e1
    exact k p e s m args below meth c H1 _ ls hC ⟨by rw [e2, List.length_set]; exact hW.1, he ▸ hW.2.set (wsM_D X sh I L) hg ⟨_, hq, t_OB.to (V := updV (vp_V (r.mapIdx fun k r => fieldV X r (I a k))) j (.ref (X.2.1 + b))) ⟨_, e1, q2, q3, t_set q4 hap hk _⟩ (fun z _ => vp_updV_set hlt _ z)⟩ e3⟩ (hS.put e2 e3 (Nat.le_add_right _ _)) hl
/-! new objects and arrays: their contents are 0 already -/
theorem r_new {idx ci N : Nat} {C : String} {r : List Nat} {sh1 : List SH} (hdg : decode M.2.1 pc = .ok (.new idx, 3)) (hc : CLK ci) (h100 : ci < 100) (hq : (cls8[ci]?).map (fun q => (q.1, q.2.2)) = some (C, N)) (h1 : Cond.classLink M.1.cls idx C ∈ gw) (h2 : Cond.instantiable C N ∈ gw) (h3 : Cond.initialized C ∈ gw)
    (hr : r.length = N) (hd : ∀ (q : vw_C), cls8[ci]? = some q → ∀ (k : Nat) (ty : FieldType), k < N → parseFieldDescriptor (q.2.1 k).2.2.1 = some ty → some (defaultValue ty) = (r[k]?).map (fun z => fieldV X z 0)) (hI : I sh.length = fun _ => 0) (hcc : cs.1 + 1 ≤ ct.1) (hcs : cs.2 + N ≤ ct.2) (hsh : sh ++ [(ci, r)] = sh1)
    (k : Ev X M d ct (cs.1 + 1, cs.2 + N) T (pc + 3) lo (.ref sh.length :: st) sh1 I L) : Ev X M d ct cs T pc lo st sh I L :=
  fun p e s m args below meth c H locs ls hC hW hS hl => by
    subst hsh
    obtain ⟨⟨C0, T0, N0⟩, tys, hq0, hin, hty, hnm⟩ := hc
    rw [hq0] at hq
    simp at hq
    obtain ⟨rfl, rfl⟩ := hq
    have hK := hC.2.2.2.2.2.2.2.2.1.1
    have hts := hC.2.2.2.2.2.2.2.1
    have hKn := hK.1 ci _ hq0
    refine W.newcK hC.1 hC.2.1 hC.2.2.2.1 (hts _ h1) (hts _ h2) (hts _ h3) rfl hdg hcc hcs hKn.2.1 hW.1 fun H1 kC hkC e1 z1 o1 => ?_
    have e0 := wsM_push (X := X) (sh := sh) (I := I) (L := L) (ci, r) (cellE X (ci, r) (I sh.length) (L sh.length)) (I' := I) (L' := L) (fun _ _ => rfl) (fun _ _ => rfl) rfl
    rw [cell_o h100] at e0
    refine k p e s m args below meth c H1 _ ls hC ⟨by rw [z1]; simp; omega, e0 ▸ (hW.2.kept (fun kk x hx => o1 x.1 (by rw [← hW.1]; exact (hW.2 kk x hx).lt))).app (fun kk x hx => ?_)⟩ ⟨Nat.le_trans hS.1 (by rw [z1, hW.1]; exact Nat.le_succ _), fun x a1 a2 => (o1 x (by rw [← hW.1]; exact Nat.lt_of_lt_of_le a1 hS.1)).trans (hS.2.1 x a1 a2), hS.2.2⟩ hl
    have hz : kk < 1 := (List.getElem?_eq_some_iff.mp hx).1
    rw [show kk = 0 by omega] at hx
    cases hx
    refine ⟨_, hq0, (u_born tys hts hin hKn hkC e1 hty).to fun z hz => ?_⟩
    have h9 := hd _ hq0 z _ hz (hty z hz)
    cases hrz : r[z]? with
    | none => rw [hrz] at h9; cases h9
    | some w =>
      rw [hrz] at h9
      simp [vp_V, List.getD_eq_getElem?_getD, List.getElem?_mapIdx, hrz, hI]
      simpa using h9
theorem narr_core {at0 : ArrayType} {ty : FieldType} {x : Int32} {n t0 tag : Nat} {cA0 : ClassId} {sh1 : List SH} (hdg : decode M.2.1 pc = .ok (.newarray at0, 2)) (hty : newarray.typeOf at0 = ty) (harr : Cond.arrayClass ty ∈ gw) (ht0 : (tysX X)[t0]? = some (cA0, ty)) (hra : ∀ s : State, va_RA s cA0 ty → s.vm.findClass ("[" ++ ty.toString) = some cA0)
    (hcell : ∀ cA : ClassId, cA = cA0 → some (arrV cA n (fun _ => defaultValue ty)) = (match cellE X (tag, [n]) (fun _ => 0) (L sh.length) with | .inl a => some (vp_cell a.1 a.2) | .inr _ => none))
    (hx : x = nI n) (hn : n < 2 ^ 20) (hb : n * componentBytes ty ≤ 536870912) (hI : I sh.length = fun _ => 0) (hcc : cs.1 + 1 ≤ ct.1) (hcs : cs.2 + n ≤ ct.2) (hsh : sh ++ [(tag, [n])] = sh1)
    (k : Ev X M d ct (cs.1 + 1, cs.2 + n) T (pc + 2) lo (.ref sh.length :: st) sh1 I L) : Ev X M d ct cs T pc lo (.int x :: st) sh I L :=
  fun p e s m args below meth c H locs ls hC hW hS hl => by
    subst hsh; subst hty; subst hx
    have hK := hC.2.2.2.2.2.2.2.2.1.1
    have hts := hC.2.2.2.2.2.2.2.1
    refine va_newaK hC.1 hC.2.1 (hts _ harr) rfl hdg rfl (nI_pos (by omega)) (nI_clamp (by omega)) hb hcc hcs hW.1 fun H1 cA e1 z1 o1 hAr hNm => ?_
    have hcA : cA = cA0 := Option.some.inj (hNm.symm.trans (hra s (hK.2 t0 _ ht0).2))
    have e0 := wsM_push (X := X) (sh := sh) (I := I) (L := L) (tag, [n]) (cellE X (tag, [n]) (I sh.length) (L sh.length)) (I' := I) (L' := L) (fun _ _ => rfl) (fun _ _ => rfl) rfl
    have h9 := hcell cA hcA
    rw [hI] at e0
    refine k p e s m args below meth c H1 _ ls hC ⟨by rw [z1]; simp; omega, e0 ▸ (hW.2.kept (fun kk x hx => o1 x.1 (by rw [← hW.1]; exact (hW.2 kk x hx).lt))).app (fun kk x hx => ?_)⟩ ⟨Nat.le_trans hS.1 (by rw [z1, hW.1]; exact Nat.le_succ _), fun x a1 a2 => (o1 x (by rw [← hW.1]; exact Nat.lt_of_lt_of_le a1 hS.1)).trans (hS.2.1 x a1 a2), hS.2.2⟩ hl
    have hz : kk < 1 := (List.getElem?_eq_some_iff.mp hx).1
    rw [show kk = 0 by omega] at hx
    cases hx
    show va_at _ _ (X.2.1 + sh.length, cellE X (tag, [n]) (fun _ => 0) (L sh.length)) H1
    cases hce : cellE X (tag, [n]) (fun _ => 0) (L sh.length) with
    | inl a => rw [hce] at h9; exact e1.trans h9
    | inr a => rw [hce] at h9; cases h9
theorem r_newI {x : Int32} {n : Nat} {sh1 : List SH} (hdg : decode M.2.1 pc = .ok (.newarray .int, 2)) (harr : Cond.arrayClass .int ∈ gw) (hx : x = nI n) (hn : n < 2 ^ 20) (hI : I sh.length = fun _ => 0) (hcc : cs.1 + 1 ≤ ct.1) (hcs : cs.2 + n ≤ ct.2) (hsh : sh ++ [(100, [n])] = sh1)
    (k : Ev X M d ct (cs.1 + 1, cs.2 + n) T (pc + 2) lo (.ref sh.length :: st) sh1 I L) : Ev X M d ct cs T pc lo (.int x :: st) sh I L :=
  narr_core (ty := .int) (t0 := 0) hdg rfl harr rfl (fun _ h => h) (fun cA h => by subst h; rfl) hx hn (by show n * 4 ≤ 536870912; omega) hI hcc hcs hsh k
theorem r_newZ {x : Int32} {n : Nat} {sh1 : List SH} (hdg : decode M.2.1 pc = .ok (.newarray .boolean, 2)) (harr : Cond.arrayClass .boolean ∈ gw) (hx : x = nI n) (hn : n < 2 ^ 20) (hI : I sh.length = fun _ => 0) (hcc : cs.1 + 1 ≤ ct.1) (hcs : cs.2 + n ≤ ct.2) (hsh : sh ++ [(102, [n])] = sh1)
    (k : Ev X M d ct (cs.1 + 1, cs.2 + n) T (pc + 2) lo (.ref sh.length :: st) sh1 I L) : Ev X M d ct cs T pc lo (.int x :: st) sh I L :=
  narr_core (ty := .boolean) (t0 := 2) hdg rfl harr rfl (fun _ h => h) (fun cA h => by subst h; rfl) hx hn (by show n * 1 ≤ 536870912; omega) hI hcc hcs hsh k
theorem r_newL {x : Int32} {n : Nat} {sh1 : List SH} (hdg : decode M.2.1 pc = .ok (.newarray .long, 2)) (harr : Cond.arrayClass .long ∈ gw) (hx : x = nI n) (hn : n < 2 ^ 20) (hI : I sh.length = fun _ => 0) (hL : L sh.length = fun _ => 0) (hcc : cs.1 + 1 ≤ ct.1) (hcs : cs.2 + n ≤ ct.2) (hsh : sh ++ [(101, [n])] = sh1)
    (k : Ev X M d ct (cs.1 + 1, cs.2 + n) T (pc + 2) lo (.ref sh.length :: st) sh1 I L) : Ev X M d ct cs T pc lo (.int x :: st) sh I L :=
  narr_core (ty := .long) (t0 := 1) hdg rfl harr rfl (fun _ h => h) (fun cA h => by subst h; rw [hL]; rfl) hx hn (by show n * 8 ≤ 536870912; omega) hI hcc hcs hsh k
/-! calls -/
def wsOf (M : MD) : List Cond := .code M.1 M.2.1 M.2.2.1 M.2.2.2 :: gw
theorem call_good {N : MD} {n : Nat} (hok : OKM N n) : GoodIn gw (.code N.1 N.2.1 N.2.2.1 N.2.2.2 :: gw) := fun w h => by
  rcases List.mem_cons.mp h with rfl | h
  · exact ⟨hok.2.1, gw_good _ hok.2.1⟩
  · exact ⟨h, gw_good _ h⟩
theorem call_blind {av : List Value} : FrameBlind (va_Pc (av.map (conc X)) (fun U => WD X sh I L U.heap ∧ KX X U)) := fun a U g mk q => by
  obtain ⟨q0, q1, q2⟩ := q
  exact ⟨q0, q1, KX.same (u := U) (U := U.calling g mk a) rfl q2⟩
theorem run_call {p : Program} {e : Env} {R : Room} {s : State} {m : MethodId} {args a : Array Value} {below : List Frame} {meth : Method} {c : Code} {H : Heap} {locs : List Loc} {ls : Array Slot} {c0 s0 mc ms : Nat} {Q : State → Prop} {st0 : List Value} {v : Option Value} {sh' : List SH} {I' : MI} {L' : ML} {H0 : Heap}
    (hr : va_Run p X.1 e R s m args below meth c H locs c0 s0 mc ms (F0 m pc ls st0) (rest.map (conc X)) (QX X (v, sh', I', L') a) (AX X)) (hS : va_S (AX X) H0 H locs)
    (k : ∀ (H1 : Heap) (locs1 : List Loc), WD X sh' I' L' H1 → va_S (AX X) H0 H1 locs1 → W p X.1 e R s m args below meth c H1 locs1 (c0 + mc) (s0 + ms) Q (F0 m (pc + 3) ls ((v.toList ++ rest).map (conc X)))) : W p X.1 e R s m args below meth c H locs c0 s0 Q (F0 m pc ls st0) := by
  intro T0 hT XX
  obtain ⟨v0, st₀, t, T', L0, h0, X', hL, e1, e2, ⟨hv, hWD, hz, hk⟩, stp⟩ := hr T0 hT XX
  cases hv
  rw [h0] at hz hk
  obtain ⟨t2, a1, b1⟩ := k T'.heap (locs ++ L0) (by rw [e1]; exact hWD) ⟨Nat.le_trans hS.1 (by rw [e1]; exact hz), fun q h1 h2 => by rw [e1, hk q (Nat.lt_of_lt_of_le h1 hS.1) h2]; exact hS.2.1 q h1 h2, fun q hq => by
      rcases List.mem_append.mp hq with h | h
      · exact hS.2.2 q h
      · exact hL q h⟩ T' rfl X'
  refine ⟨t2, stp t2 ?_, b1⟩
  have e3 : ((v.toList ++ rest).map (conc X)) = (Option.map (conc X) v).toList ++ rest.map (conc X) := by cases v <;> simp
  rw [e3] at a1
  exact a1
def VLK (own : String) (idx : Nat) (y : MethodName) : Prop := Cond.methodLink own idx y ∈ gw ∧ Cond.instanceMethod y ∈ gw ∧ Cond.selects y.cls y y ∈ gw
def SLK (own : String) (idx : Nat) (y : MethodName) : Prop := Cond.methodLink own idx y ∈ gw ∧ Cond.static y ∈ gw
def SNK (own : String) (idx : Nat) (y : MethodName) : Prop := (∃ host, Cond.methodLinkNest own idx y host ∈ nestWs) ∧ Cond.static y ∈ gw
def ILK (own : String) (idx : Nat) (y : MethodName) : Prop := Cond.methodLink own idx y ∈ gw ∧ Cond.instanceMethod y ∈ gw ∧ y.name = "<init>"
theorem cat_sum (l : List Value) : ((l.map (conc X)).map fun v => v.category).sum = (l.map fun v => v.category).sum := by
  congr 1
  rw [List.map_map]
  exact List.map_congr_left fun v _ => cat_conc X v
/-- the callee's side of a call, at any caller -/
theorem callee_B {p : Program} {R : Room} {s : State} {m : MethodId} {args : Array Value} {N : MD} {n d' idx : Nat} {ct' : Nat × Nat} {own : String} (hts : ∀ w ∈ gw, w.before args s = true) (hok : OKM N n) (hl : Cond.methodLink own idx N.1 ∈ gw) (hR : d' + 1 ≤ R.frames ∧ 40 * (d' + 1) ≤ R.locals) :
    CallB R s args own idx N.1 N.2.1 N.2.2.1 N.2.2.2 (.code N.1 N.2.1 N.2.2.1 N.2.2.2 :: gw) (rmX d' ct') ct'.1 ct'.2 n :=
  callB_of n hts (call_good hok) rfl rfl rfl (hts _ hok.2.2.2.2.1) (hts _ hl) ⟨hok.2.2.1.1, hok.2.2.1.2, hok.2.2.2.1⟩ ⟨hR.1, by have := hok.2.2.2.2.2; show 8 + (N.2.2.1 + 11) + 40 * d' ≤ R.locals; omega⟩
theorem w_callV {p : Program} {e : Env} {R : Room} {s : State} {m : MethodId} {args : Array Value} {below : List Frame} {meth : Method} {c : Code} {H : Heap} {locs : List Loc} {ls : Array Slot} {c0 s0 nL : Nat} {Q : State → Prop} {N : MD} {n d' b idx ci : Nat} {r : List Nat} {ct' : Nat × Nat} {own : String} {cc : ByteArray} {av : List Value} {v : Option Value} {sh' : List SH} {I' : MI} {L' : ML} {H0 : Heap} {st0 : List Value}
    (hx : p.tables.exec = Jvm.exec) (hb : c.code = cc) (hml : c.maxLocals = nL) (hown : s.vm.findClass own = some m.cls) (hts : ∀ w ∈ gw, w.before args s = true) (hK : KX X s)
    (hok : OKM N n) (hl : VLK own idx N.1) (hs : sh[b]? = some (ci, r)) (h100 : ci < 100) (hcl : (cls8[ci]?).map (·.1) = some N.1.cls) (hM : Sp X N d' ct' (.ref b :: av) sh I L (v, sh', I', L')) (hn : av.length = n) (hst : st0 = av.reverse ++ .ref b :: rest) (hroom : (rest.map fun v => v.category).sum ≤ 8)
    (hR : d' + 1 ≤ R.frames ∧ 40 * (d' + 1) ≤ R.locals) (hf : c0 + ct'.1 ≤ R.cells ∧ s0 + ct'.2 ≤ R.slots) (hls : ls.size = nL) (hdg : decode cc pc = .ok (.invokevirtual idx, 3)) (hW : WD X sh I L H) (hS : va_S (AX X) H0 H locs)
    (k : ∀ (H1 : Heap) (locs1 : List Loc), WD X sh' I' L' H1 → va_S (AX X) H0 H1 locs1 → W p X.1 e R s m args below meth c H1 locs1 (c0 + ct'.1) (s0 + ct'.2) Q (F0 m (pc + 3) ls ((v.toList ++ rest).map (conc X)))) : W p X.1 e R s m args below meth c H locs c0 s0 Q (F0 m pc ls (st0.map (conc X))) := by
  subst hst
  have hg := wsM_get (X := X) (I := I) (L := L) hs
  rw [cell_o h100] at hg
  obtain ⟨q, hq, hq1⟩ := Option.map_eq_some_iff.mp hcl
  have hrec := va_recv hK.1 hW.2 hq hg
  rw [hq1] at hrec
  refine run_call (va_runV (b := X.2.1 + b) (As := av.map (conc X)) (n := n) (C := N.1.cls) (Ts := gw) (own := own) ⟨hx, hb, hml, hown, hts⟩ hM ⟨callee_B (p := p) (m := m) hts hok hl.1 hR, hts _ hl.2.1, hts _ hl.2.2⟩ ⟨call_blind, hrec, fun U hU hWm => ⟨rfl, by rw [hU]; exact hW, hK.moved hWm⟩⟩ rfl (by simpa using hn) hls (by simp [conc]) ?_ hdg hf) hS k
  have := lv_room (m := m) (pc := pc) (ls := ls) (rest := (av.reverse ++ .ref b :: rest).map (conc X)) (st := rest.map (conc X)) (by rw [cat_sum]; exact hroom)
  exact this
theorem w_callS {p : Program} {e : Env} {R : Room} {s : State} {m : MethodId} {args : Array Value} {below : List Frame} {meth : Method} {c : Code} {H : Heap} {locs : List Loc} {ls : Array Slot} {c0 s0 nL : Nat} {Q : State → Prop} {N : MD} {n d' idx : Nat} {ct' : Nat × Nat} {own : String} {cc : ByteArray} {av : List Value} {v : Option Value} {sh' : List SH} {I' : MI} {L' : ML} {H0 : Heap} {st0 : List Value}
    (hx : p.tables.exec = Jvm.exec) (hb : c.code = cc) (hml : c.maxLocals = nL) (hown : s.vm.findClass own = some m.cls) (hts : ∀ w ∈ gw, w.before args s = true) (hK : KX X s)
    (hok : OKM N n) (hl : SLK own idx N.1) (hM : Sp X N d' ct' av sh I L (v, sh', I', L')) (hn : av.length = n) (hst : st0 = av.reverse ++ rest) (hroom : (rest.map fun v => v.category).sum ≤ 8)
    (hR : d' + 1 ≤ R.frames ∧ 40 * (d' + 1) ≤ R.locals) (hf : c0 + ct'.1 ≤ R.cells ∧ s0 + ct'.2 ≤ R.slots) (hls : ls.size = nL) (hdg : decode cc pc = .ok (.invokestatic idx, 3)) (hW : WD X sh I L H) (hS : va_S (AX X) H0 H locs)
    (k : ∀ (H1 : Heap) (locs1 : List Loc), WD X sh' I' L' H1 → va_S (AX X) H0 H1 locs1 → W p X.1 e R s m args below meth c H1 locs1 (c0 + ct'.1) (s0 + ct'.2) Q (F0 m (pc + 3) ls ((v.toList ++ rest).map (conc X)))) : W p X.1 e R s m args below meth c H locs c0 s0 Q (F0 m pc ls (st0.map (conc X))) := by
  subst hst
  refine run_call (va_runS (As := av.map (conc X)) (n := n) (Ts := gw) (own := own) ⟨hx, hb, hml, hown, hts⟩ hM ⟨callee_B (p := p) (m := m) hts hok hl.1 hR, hts _ hl.2⟩ ⟨call_blind, fun U hU hWm => ⟨rfl, by rw [hU]; exact hW, hK.moved hWm⟩⟩ rfl (by simpa using hn) hls (by simp) ?_ hdg hf) hS k
  have := lv_room (m := m) (pc := pc) (ls := ls) (rest := (av.reverse ++ rest).map (conc X)) (st := rest.map (conc X)) (by rw [cat_sum]; exact hroom)
  exact this
theorem w_callSN {p : Program} {e : Env} {R : Room} {s : State} {m : MethodId} {args : Array Value} {below : List Frame} {meth : Method} {c : Code} {H : Heap} {locs : List Loc} {ls : Array Slot} {c0 s0 nL : Nat} {Q : State → Prop} {N : MD} {n d' idx : Nat} {ct' : Nat × Nat} {own : String} {cc : ByteArray} {av : List Value} {v : Option Value} {sh' : List SH} {I' : MI} {L' : ML} {H0 : Heap} {st0 : List Value}
    (hx : p.tables.exec = Jvm.exec) (hb : c.code = cc) (hml : c.maxLocals = nL) (hown : s.vm.findClass own = some m.cls) (hts : ∀ w ∈ gw, w.before args s = true) (hK : KX X s)
    (hok : OKM N n) (hl : SNK own idx N.1) (hM : Sp X N d' ct' av sh I L (v, sh', I', L')) (hn : av.length = n) (hst : st0 = av.reverse ++ rest) (hroom : (rest.map fun v => v.category).sum ≤ 8)
    (hR : d' + 1 ≤ R.frames ∧ 40 * (d' + 1) ≤ R.locals) (hf : c0 + ct'.1 ≤ R.cells ∧ s0 + ct'.2 ≤ R.slots) (hls : ls.size = nL) (hdg : decode cc pc = .ok (.invokestatic idx, 3)) (hW : WD X sh I L H) (hS : va_S (AX X) H0 H locs)
    (k : ∀ (H1 : Heap) (locs1 : List Loc), WD X sh' I' L' H1 → va_S (AX X) H0 H1 locs1 → W p X.1 e R s m args below meth c H1 locs1 (c0 + ct'.1) (s0 + ct'.2) Q (F0 m (pc + 3) ls ((v.toList ++ rest).map (conc X)))) : W p X.1 e R s m args below meth c H locs c0 s0 Q (F0 m pc ls (st0.map (conc X))) := by
  subst hst
  obtain ⟨⟨host, hl0⟩, hl1⟩ := hl
  refine run_call (va_runSN (As := av.map (conc X)) (n := n) (Ts := gw) (own := own) (host := host) ⟨hx, hb, hml, hown, hts⟩ hM ⟨va_cnB n hts (call_good hok) rfl rfl rfl (hK.2 _ hl0) (hts _ hok.2.2.2.2.1) ⟨hok.2.2.1.1, hok.2.2.1.2, hok.2.2.2.1⟩ ⟨hR.1, by have := hok.2.2.2.2.2; show 8 + (N.2.2.1 + 11) + 40 * d' ≤ R.locals; omega⟩, hts _ hl1, trivial⟩ ⟨call_blind, fun U hU hWm => ⟨rfl, by rw [hU]; exact hW, hK.moved hWm⟩⟩ rfl (by simpa using hn) hls (by simp) ?_ hdg hf) hS k
  have := lv_room (m := m) (pc := pc) (ls := ls) (rest := (av.reverse ++ rest).map (conc X)) (st := rest.map (conc X)) (by rw [cat_sum]; exact hroom)
  exact this
theorem w_callI {p : Program} {e : Env} {R : Room} {s : State} {m : MethodId} {args : Array Value} {below : List Frame} {meth : Method} {c : Code} {H : Heap} {locs : List Loc} {ls : Array Slot} {c0 s0 nL : Nat} {Q : State → Prop} {N : MD} {n d' b idx : Nat} {ct' : Nat × Nat} {own : String} {cc : ByteArray} {av : List Value} {v : Option Value} {sh' : List SH} {I' : MI} {L' : ML} {H0 : Heap} {st0 : List Value}
    (hx : p.tables.exec = Jvm.exec) (hb : c.code = cc) (hml : c.maxLocals = nL) (hown : s.vm.findClass own = some m.cls) (hts : ∀ w ∈ gw, w.before args s = true) (hK : KX X s)
    (hok : OKM N n) (hl : ILK own idx N.1) (hret : N.2.2.2 = none) (hM : Sp X N d' ct' (.ref b :: av) sh I L (v, sh', I', L')) (hn : av.length = n) (hst : st0 = av.reverse ++ .ref b :: rest) (hroom : (rest.map fun v => v.category).sum ≤ 8)
    (hR : d' + 1 ≤ R.frames ∧ 40 * (d' + 1) ≤ R.locals) (hf : c0 + ct'.1 ≤ R.cells ∧ s0 + ct'.2 ≤ R.slots) (hls : ls.size = nL) (hdg : decode cc pc = .ok (.invokespecial idx, 3)) (hW : WD X sh I L H) (hS : va_S (AX X) H0 H locs)
    (k : ∀ (H1 : Heap) (locs1 : List Loc), WD X sh' I' L' H1 → va_S (AX X) H0 H1 locs1 → W p X.1 e R s m args below meth c H1 locs1 (c0 + ct'.1) (s0 + ct'.2) Q (F0 m (pc + 3) ls ((v.toList ++ rest).map (conc X)))) : W p X.1 e R s m args below meth c H locs c0 s0 Q (F0 m pc ls (st0.map (conc X))) := by
  subst hst
  have hB := callee_B (p := p) (m := m) (ct' := ct') hts hok hl.1 hR
  rw [hret] at hB
  have hM' : Met X.1 N.1 (.code N.1 N.2.1 N.2.2.1 none :: gw) (rmX d' ct') (va_Pc ((.ref b :: av).map (conc X)) (fun U => WD X sh I L U.heap ∧ KX X U)) (QX X (v, sh', I', L')) ct'.1 ct'.2 (AX X) := by
    have h9 := hM
    unfold Sp at h9
    rw [hret] at h9
    exact h9
  refine run_call (va_runI (b := X.2.1 + b) (As := av.map (conc X)) (n := n) (Ts := gw) (own := own) ⟨hx, hb, hml, hown, hts⟩ hM' ⟨hB, hl.2.2, hts _ hl.2.1⟩ ⟨call_blind, fun U hU hWm => ⟨rfl, by rw [hU]; exact hW, hK.moved hWm⟩⟩ rfl (by simpa using hn) hls (by simp [conc]) ?_ hdg hf) hS k
  have := lv_room (m := m) (pc := pc) (ls := ls) (rest := (av.reverse ++ .ref b :: rest).map (conc X)) (st := rest.map (conc X)) (by rw [cat_sum]; exact hroom)
  exact this
section CALLROWS
variable {N : MD} {n b idx ci : Nat} {r : List Nat} {ct' : Nat × Nat} {av : List Value} {v : Option Value} {sh' : List SH} {I' : MI} {L' : ML}
theorem r_callV (hM : Sp X N d ct' (.ref b :: av) sh I L (v, sh', I', L')) (hok : OKM N n) (hl : VLK M.1.cls idx N.1) (hs : sh[b]? = some (ci, r)) (h100 : ci < 100) (hcl : (cls8[ci]?).map (·.1) = some N.1.cls) (hn : av.length = n) (hst : st = av.reverse ++ .ref b :: rest) (hroom : (rest.map fun v => v.category).sum ≤ 8)
    (hf : cs.1 + ct'.1 ≤ ct.1 ∧ cs.2 + ct'.2 ≤ ct.2) (hdg : decode M.2.1 pc = .ok (.invokevirtual idx, 3)) (k : Ev X M (d + 1) ct (cs.1 + ct'.1, cs.2 + ct'.2) T (pc + 3) lo (v.toList ++ rest) sh' I' L') : Ev X M (d + 1) ct cs T pc lo st sh I L :=
  fun p e s m args below meth c H locs ls hC hW hS hl0 => w_callV hC.1 hC.2.1 hC.2.2.1 hC.2.2.2.1 hC.2.2.2.2.2.2.2.1 hC.2.2.2.2.2.2.2.2.1 hok hl hs h100 hcl hM hn hst hroom ⟨Nat.le_refl _, Nat.le_refl _⟩ hf hl0.1 hdg hW hS fun H1 locs1 h1 h2 => k p e s m args below meth c H1 locs1 ls hC h1 h2 hl0
theorem r_callS (hM : Sp X N d ct' av sh I L (v, sh', I', L')) (hok : OKM N n) (hl : SLK M.1.cls idx N.1) (hn : av.length = n) (hst : st = av.reverse ++ rest) (hroom : (rest.map fun v => v.category).sum ≤ 8)
    (hf : cs.1 + ct'.1 ≤ ct.1 ∧ cs.2 + ct'.2 ≤ ct.2) (hdg : decode M.2.1 pc = .ok (.invokestatic idx, 3)) (k : Ev X M (d + 1) ct (cs.1 + ct'.1, cs.2 + ct'.2) T (pc + 3) lo (v.toList ++ rest) sh' I' L') : Ev X M (d + 1) ct cs T pc lo st sh I L :=
  fun p e s m args below meth c H locs ls hC hW hS hl0 => w_callS hC.1 hC.2.1 hC.2.2.1 hC.2.2.2.1 hC.2.2.2.2.2.2.2.1 hC.2.2.2.2.2.2.2.2.1 hok hl hM hn hst hroom ⟨Nat.le_refl _, Nat.le_refl _⟩ hf hl0.1 hdg hW hS fun H1 locs1 h1 h2 => k p e s m args below meth c H1 locs1 ls hC h1 h2 hl0
theorem r_callSN (hM : Sp X N d ct' av sh I L (v, sh', I', L')) (hok : OKM N n) (hl : SNK M.1.cls idx N.1) (hn : av.length = n) (hst : st = av.reverse ++ rest) (hroom : (rest.map fun v => v.category).sum ≤ 8)
    (hf : cs.1 + ct'.1 ≤ ct.1 ∧ cs.2 + ct'.2 ≤ ct.2) (hdg : decode M.2.1 pc = .ok (.invokestatic idx, 3)) (k : Ev X M (d + 1) ct (cs.1 + ct'.1, cs.2 + ct'.2) T (pc + 3) lo (v.toList ++ rest) sh' I' L') : Ev X M (d + 1) ct cs T pc lo st sh I L :=
  fun p e s m args below meth c H locs ls hC hW hS hl0 => w_callSN hC.1 hC.2.1 hC.2.2.1 hC.2.2.2.1 hC.2.2.2.2.2.2.2.1 hC.2.2.2.2.2.2.2.2.1 hok hl hM hn hst hroom ⟨Nat.le_refl _, Nat.le_refl _⟩ hf hl0.1 hdg hW hS fun H1 locs1 h1 h2 => k p e s m args below meth c H1 locs1 ls hC h1 h2 hl0
theorem r_callI (hM : Sp X N d ct' (.ref b :: av) sh I L (v, sh', I', L')) (hok : OKM N n) (hl : ILK M.1.cls idx N.1) (hret : N.2.2.2 = none) (hn : av.length = n) (hst : st = av.reverse ++ .ref b :: rest) (hroom : (rest.map fun v => v.category).sum ≤ 8)
    (hf : cs.1 + ct'.1 ≤ ct.1 ∧ cs.2 + ct'.2 ≤ ct.2) (hdg : decode M.2.1 pc = .ok (.invokespecial idx, 3)) (k : Ev X M (d + 1) ct (cs.1 + ct'.1, cs.2 + ct'.2) T (pc + 3) lo (v.toList ++ rest) sh' I' L') : Ev X M (d + 1) ct cs T pc lo st sh I L :=
  fun p e s m args below meth c H locs ls hC hW hS hl0 => w_callI hC.1 hC.2.1 hC.2.2.1 hC.2.2.2.1 hC.2.2.2.2.2.2.2.1 hC.2.2.2.2.2.2.2.2.1 hok hl hret hM hn hst hroom ⟨Nat.le_refl _, Nat.le_refl _⟩ hf hl0.1 hdg hW hS fun H1 locs1 h1 h2 => k p e s m args below meth c H1 locs1 ls hC h1 h2 hl0
end CALLROWS
theorem r_obj {a idx : Nat} (hdg : decode M.2.1 pc = .ok (.invokespecial idx, 3)) (h1 : Cond.methodLink M.1.cls idx objectInit ∈ gw) (h2 : Cond.instanceMethod objectInit ∈ gw) (h3 : Cond.code objectInit ⟨#[0xb1]⟩ 1 none ∈ gw) (hroom : (st.map fun v => v.category).sum ≤ 8)
    (k : Ev X M (d + 1) ct cs T (pc + 3) lo st sh I L) : Ev X M (d + 1) ct cs T pc lo (.ref a :: st) sh I L :=
  fun p e s m args below meth c H locs ls hC hW hS hl => W.objInit hC.1 hC.2.1 hC.2.2.2.1 (hC.2.2.2.2.2.2.2.1 _ h1) (hC.2.2.2.2.2.2.2.1 _ h2) (hC.2.2.2.2.2.2.2.1 _ h3) rfl (by rw [hC.2.2.1]; exact hl.1) rfl hdg (by show 1 ≤ d + 1; omega) (by
      have := lv_room (m := m) (pc := pc) (ls := ls) (rest := (Value.ref a :: st).map (conc X)) (st := st.map (conc X)) (by rw [cat_sum]; exact hroom)
      show _ + 12 ≤ 40 * (d + 1)
      have h9 : 2 * (F0 m pc ls ((Value.ref a :: st).map (conc X))).monitorRoom + ((st.map (conc X)).map fun v => v.category).sum ≤ 8 := this
      omega) (k p e s m args below meth c H locs ls hC hW hS hl)
/-! the end of a method -/
theorem r_iret {x : Int32} (hdg : decode M.2.1 pc = .ok (.ireturn, 1)) (hr : M.2.2.2 = some .int) (hT : T = (some (.int x), sh, I, L)) (hcs : cs = ct) : Ev X M d ct cs T pc lo [.int x] sh I L :=
  fun p e s m args below meth c H locs ls hC hW hS hl => by
    subst hT; subst hcs
    have hlocks := hC.2.2.2.2.2.1
    exact W.iret hC.1 hC.2.1 (by rw [hC.2.2.2.2.1]; exact hr) (fun t ht _ => ⟨rfl, by rw [ht]; exact hW, hS.F ht⟩) hS.2.2 hdg
theorem r_zret {x : Int32} (hdg : decode M.2.1 pc = .ok (.ireturn, 1)) (hr : M.2.2.2 = some .boolean) (hx : narrow .boolean (.int x) = .int x) (hT : T = (some (.int x), sh, I, L)) (hcs : cs = ct) : Ev X M d ct cs T pc lo [.int x] sh I L :=
  fun p e s m args below meth c H locs ls hC hW hS hl => by
    subst hT; subst hcs
    have hlocks := hC.2.2.2.2.2.1
    exact W.zret hC.1 hC.2.1 (by rw [hC.2.2.2.2.1]; exact hr) hx (fun t ht _ => ⟨rfl, by rw [ht]; exact hW, hS.F ht⟩) hS.2.2 hdg
theorem r_lret {x : Int64} (hdg : decode M.2.1 pc = .ok (.lreturn, 1)) (hr : M.2.2.2 = some .long) (hT : T = (some (.long x), sh, I, L)) (hcs : cs = ct) : Ev X M d ct cs T pc lo [.long x] sh I L :=
  fun p e s m args below meth c H locs ls hC hW hS hl => by
    subst hT; subst hcs
    have hlocks := hC.2.2.2.2.2.1
    exact W.lret hC.1 hC.2.1 (by rw [hC.2.2.2.2.1]; exact hr) (fun t ht _ => ⟨rfl, by rw [ht]; exact hW, hS.F ht⟩) hS.2.2 hdg
theorem r_vret (hdg : decode M.2.1 pc = .ok (.return_, 1)) (hr : M.2.2.2 = none) (hT : T = (none, sh, I, L)) (hcs : cs = ct) : Ev X M d ct cs T pc lo [] sh I L :=
  fun p e s m args below meth c H locs ls hC hW hS hl => by
    subst hT; subst hcs
    have hlocks := hC.2.2.2.2.2.1
    exact W.vret hC.1 hC.2.1 (by rw [hC.2.2.2.2.1]; exact hr) (fun t ht _ => ⟨rfl, by rw [ht]; exact hW, hS.F ht⟩) hS.2.2 hdg
/-- locals may be forgotten -/
theorem r_lo {lo lo1 : List Value} (h : ∀ (i : Nat) (v : Value), lo1[i]? = some v → isN v = false → lo[i]? = some v) (k : Ev X M d ct cs T pc lo1 st sh I L) : Ev X M d ct cs T pc lo st sh I L :=
  fun p e s m args below meth c H locs ls hC hW hS hl => k p e s m args below meth c H locs ls hC hW hS ⟨hl.1, hl.2.1, fun q hq => by
    obtain ⟨v, h1, h2, h3⟩ := asc_mem.mp hq
    exact hl.2.2 q (asc_mem.mpr ⟨v, h _ _ h1 h2, h2, h3⟩)⟩
end ROWS
end
section
theorem gi (i : Nat) (w : Cond) (h : lw_tbl[i]? = some w) (g : goodWord w = true) : w ∈ gw := gw_of (List.mem_of_getElem? h) g
theorem clk0 : CLK 0 := ⟨(RX0, TX0, 2), tyX0, rfl, fun w hw => gw_of ((by decide +kernel : ∀ w ∈ u_ws RX0 TX0 2, w ∈ lw_tbl) w hw) ((by decide +kernel : ∀ w ∈ u_ws RX0 TX0 2, goodWord w = true) w hw), tyX0_ok, nmX0⟩
theorem clk1 : CLK 1 := ⟨(RX1, TX1, 4), tyX1, rfl, fun w hw => gw_of ((by decide +kernel : ∀ w ∈ u_ws RX1 TX1 4, w ∈ lw_tbl) w hw) ((by decide +kernel : ∀ w ∈ u_ws RX1 TX1 4, goodWord w = true) w hw), tyX1_ok, nmX1⟩
theorem clk2 : CLK 2 := ⟨(RX2, TX2, 9), tyX2, rfl, fun w hw => gw_of ((by decide +kernel : ∀ w ∈ u_ws RX2 TX2 9, w ∈ lw_tbl) w hw) ((by decide +kernel : ∀ w ∈ u_ws RX2 TX2 9, goodWord w = true) w hw), tyX2_ok, nmX2⟩
theorem clk3 : CLK 3 := ⟨(RX3, TX3, 6), tyX3, rfl, fun w hw => gw_of ((by decide +kernel : ∀ w ∈ u_ws RX3 TX3 6, w ∈ lw_tbl) w hw) ((by decide +kernel : ∀ w ∈ u_ws RX3 TX3 6, goodWord w = true) w hw), tyX3_ok, nmX3⟩
theorem clk4 : CLK 4 := ⟨(RX4, TX4, 8), tyX4, rfl, fun w hw => gw_of ((by decide +kernel : ∀ w ∈ u_ws RX4 TX4 8, w ∈ lw_tbl) w hw) ((by decide +kernel : ∀ w ∈ u_ws RX4 TX4 8, goodWord w = true) w hw), tyX4_ok, nmX4⟩
theorem clk5 : CLK 5 := ⟨(RX5, TX5, 14), tyX5, rfl, fun w hw => gw_of ((by decide +kernel : ∀ w ∈ u_ws RX5 TX5 14, w ∈ lw_tbl) w hw) ((by decide +kernel : ∀ w ∈ u_ws RX5 TX5 14, goodWord w = true) w hw), tyX5_ok, nmX5⟩
theorem clk6 : CLK 6 := ⟨(RX6, TX6, 40), tyX6, rfl, fun w hw => gw_of ((by decide +kernel : ∀ w ∈ u_ws RX6 TX6 40, w ∈ lw_tbl) w hw) ((by decide +kernel : ∀ w ∈ u_ws RX6 TX6 40, goodWord w = true) w hw), tyX6_ok, nmX6⟩
abbrev mX5_init : MD := (yX5_init, cX5_init, 1, none)
theorem okX5_init : OKM mX5_init 0 := ⟨by decide +kernel, gi 77 _ (by decide +kernel) rfl, ⟨by decide +kernel, by decide +kernel⟩, by decide +kernel, gi 65 _ (by decide +kernel) rfl, by decide⟩
abbrev mX0_init : MD := (yX0_init, cX0_init, 1, none)
theorem okX0_init : OKM mX0_init 0 := ⟨by decide +kernel, gi 85 _ (by decide +kernel) rfl, ⟨by decide +kernel, by decide +kernel⟩, by decide +kernel, gi 66 _ (by decide +kernel) rfl, by decide⟩
abbrev mX4_init : MD := (yX4_init, cX4_init, 1, none)
theorem okX4_init : OKM mX4_init 0 := ⟨by decide +kernel, gi 99 _ (by decide +kernel) rfl, ⟨by decide +kernel, by decide +kernel⟩, by decide +kernel, gi 67 _ (by decide +kernel) rfl, by decide⟩
abbrev mX2_init : MD := (yX2_init, cX2_init, 1, none)
theorem okX2_init : OKM mX2_init 0 := ⟨by decide +kernel, gi 133 _ (by decide +kernel) rfl, ⟨by decide +kernel, by decide +kernel⟩, by decide +kernel, gi 68 _ (by decide +kernel) rfl, by decide⟩
abbrev mX1_init : MD := (yX1_init, cX1_init, 1, none)
theorem okX1_init : OKM mX1_init 0 := ⟨by decide +kernel, gi 173 _ (by decide +kernel) rfl, ⟨by decide +kernel, by decide +kernel⟩, by decide +kernel, gi 69 _ (by decide +kernel) rfl, by decide⟩
abbrev mX3_init : MD := (yX3_init, cX3_init, 3, none)
theorem okX3_init : OKM mX3_init 2 := ⟨by decide +kernel, gi 192 _ (by decide +kernel) rfl, ⟨by decide +kernel, by decide +kernel⟩, by decide +kernel, gi 70 _ (by decide +kernel) rfl, by decide⟩
abbrev mX5_type : MD := (yX5_type, cX5_type, 2, (some .int))
theorem okX5_type : OKM mX5_type 1 := ⟨by decide +kernel, gi 260 _ (by decide +kernel) rfl, ⟨by decide +kernel, by decide +kernel⟩, by decide +kernel, gi 65 _ (by decide +kernel) rfl, by decide⟩
abbrev mX2_add : MD := (yX2_add, cX2_add, 2, (some .boolean))
theorem okX2_add : OKM mX2_add 1 := ⟨by decide +kernel, gi 264 _ (by decide +kernel) rfl, ⟨by decide +kernel, by decide +kernel⟩, by decide +kernel, gi 68 _ (by decide +kernel) rfl, by decide⟩
abbrev mX2_letters : MD := (yX2_letters, cX2_letters, 1, (some .int))
theorem okX2_letters : OKM mX2_letters 0 := ⟨by decide +kernel, gi 268 _ (by decide +kernel) rfl, ⟨by decide +kernel, by decide +kernel⟩, by decide +kernel, gi 68 _ (by decide +kernel) rfl, by decide⟩
abbrev mX5_clear : MD := (yX5_clear, cX5_clear, 2, (some .int))
theorem okX5_clear : OKM mX5_clear 0 := ⟨by decide +kernel, gi 272 _ (by decide +kernel) rfl, ⟨by decide +kernel, by decide +kernel⟩, by decide +kernel, gi 65 _ (by decide +kernel) rfl, by decide⟩
abbrev mX2_drop : MD := (yX2_drop, cX2_drop, 1, none)
theorem okX2_drop : OKM mX2_drop 0 := ⟨by decide +kernel, gi 276 _ (by decide +kernel) rfl, ⟨by decide +kernel, by decide +kernel⟩, by decide +kernel, gi 68 _ (by decide +kernel) rfl, by decide⟩
abbrev mX5_desk : MD := (yX5_desk, cX5_desk, 2, (some .int))
theorem okX5_desk : OKM mX5_desk 0 := ⟨by decide +kernel, gi 280 _ (by decide +kernel) rfl, ⟨by decide +kernel, by decide +kernel⟩, by decide +kernel, gi 65 _ (by decide +kernel) rfl, by decide⟩
abbrev mX2_read : MD := (yX2_read, cX2_read, 2, (some .int))
theorem okX2_read : OKM mX2_read 0 := ⟨by decide +kernel, gi 284 _ (by decide +kernel) rfl, ⟨by decide +kernel, by decide +kernel⟩, by decide +kernel, gi 68 _ (by decide +kernel) rfl, by decide⟩
abbrev mX0_reset : MD := (yX0_reset, cX0_reset, 2, none)
theorem okX0_reset : OKM mX0_reset 0 := ⟨by decide +kernel, gi 288 _ (by decide +kernel) rfl, ⟨by decide +kernel, by decide +kernel⟩, by decide +kernel, gi 66 _ (by decide +kernel) rfl, by decide⟩
abbrev mX4_reset : MD := (yX4_reset, cX4_reset, 1, none)
theorem okX4_reset : OKM mX4_reset 0 := ⟨by decide +kernel, gi 292 _ (by decide +kernel) rfl, ⟨by decide +kernel, by decide +kernel⟩, by decide +kernel, gi 67 _ (by decide +kernel) rfl, by decide⟩
abbrev mX2_pass : MD := (yX2_pass, cX2_pass, 2, none)
theorem okX2_pass : OKM mX2_pass 0 := ⟨by decide +kernel, gi 296 _ (by decide +kernel) rfl, ⟨by decide +kernel, by decide +kernel⟩, by decide +kernel, gi 68 _ (by decide +kernel) rfl, by decide⟩
abbrev mX2_isDigit : MD := (yX2_isDigit, cX2_isDigit, 1, (some .boolean))
theorem okX2_isDigit : OKM mX2_isDigit 1 := ⟨by decide +kernel, gi 299 _ (by decide +kernel) rfl, ⟨by decide +kernel, by decide +kernel⟩, by decide +kernel, gi 68 _ (by decide +kernel) rfl, by decide⟩
abbrev mX2_passDigits : MD := (yX2_passDigits, cX2_passDigits, 3, none)
theorem okX2_passDigits : OKM mX2_passDigits 1 := ⟨by decide +kernel, gi 303 _ (by decide +kernel) rfl, ⟨by decide +kernel, by decide +kernel⟩, by decide +kernel, gi 68 _ (by decide +kernel) rfl, by decide⟩
abbrev mX2_readItem : MD := (yX2_readItem, cX2_readItem, 2, (some .boolean))
theorem okX2_readItem : OKM mX2_readItem 0 := ⟨by decide +kernel, gi 307 _ (by decide +kernel) rfl, ⟨by decide +kernel, by decide +kernel⟩, by decide +kernel, gi 68 _ (by decide +kernel) rfl, by decide⟩
abbrev mX2_readSource : MD := (yX2_readSource, cX2_readSource, 3, (some .boolean))
theorem okX2_readSource : OKM mX2_readSource 0 := ⟨by decide +kernel, gi 311 _ (by decide +kernel) rfl, ⟨by decide +kernel, by decide +kernel⟩, by decide +kernel, gi 68 _ (by decide +kernel) rfl, by decide⟩
abbrev mX2_sourceAtHand : MD := (yX2_sourceAtHand, cX2_sourceAtHand, 1, (some .int))
theorem okX2_sourceAtHand : OKM mX2_sourceAtHand 0 := ⟨by decide +kernel, gi 315 _ (by decide +kernel) rfl, ⟨by decide +kernel, by decide +kernel⟩, by decide +kernel, gi 68 _ (by decide +kernel) rfl, by decide⟩
abbrev mX5_isSource : MD := (yX5_isSource, cX5_isSource, 1, (some .boolean))
theorem okX5_isSource : OKM mX5_isSource 1 := ⟨by decide +kernel, gi 318 _ (by decide +kernel) rfl, ⟨by decide +kernel, by decide +kernel⟩, by decide +kernel, gi 65 _ (by decide +kernel) rfl, by decide⟩
abbrev mX2_passSign : MD := (yX2_passSign, cX2_passSign, 1, (some .int))
theorem okX2_passSign : OKM mX2_passSign 0 := ⟨by decide +kernel, gi 322 _ (by decide +kernel) rfl, ⟨by decide +kernel, by decide +kernel⟩, by decide +kernel, gi 68 _ (by decide +kernel) rfl, by decide⟩
abbrev mX0_setWorth : MD := (yX0_setWorth, cX0_setWorth, 3, none)
theorem okX0_setWorth : OKM mX0_setWorth 2 := ⟨by decide +kernel, gi 326 _ (by decide +kernel) rfl, ⟨by decide +kernel, by decide +kernel⟩, by decide +kernel, gi 66 _ (by decide +kernel) rfl, by decide⟩
abbrev mX0_setSpread : MD := (yX0_setSpread, cX0_setSpread, 4, none)
theorem okX0_setSpread : OKM mX0_setSpread 3 := ⟨by decide +kernel, gi 331 _ (by decide +kernel) rfl, ⟨by decide +kernel, by decide +kernel⟩, by decide +kernel, gi 66 _ (by decide +kernel) rfl, by decide⟩
abbrev mX2_readJoint : MD := (yX2_readJoint, cX2_readJoint, 4, (some .boolean))
theorem okX2_readJoint : OKM mX2_readJoint 0 := ⟨by decide +kernel, gi 335 _ (by decide +kernel) rfl, ⟨by decide +kernel, by decide +kernel⟩, by decide +kernel, gi 68 _ (by decide +kernel) rfl, by decide⟩
abbrev mX2_readFormula : MD := (yX2_readFormula, cX2_readFormula, 1, (some .boolean))
theorem okX2_readFormula : OKM mX2_readFormula 0 := ⟨by decide +kernel, gi 339 _ (by decide +kernel) rfl, ⟨by decide +kernel, by decide +kernel⟩, by decide +kernel, gi 68 _ (by decide +kernel) rfl, by decide⟩
abbrev mX4_formulas : MD := (yX4_formulas, cX4_formulas, 1, (some .int))
theorem okX4_formulas : OKM mX4_formulas 0 := ⟨by decide +kernel, gi 343 _ (by decide +kernel) rfl, ⟨by decide +kernel, by decide +kernel⟩, by decide +kernel, gi 67 _ (by decide +kernel) rfl, by decide⟩
abbrev mX2_readSum : MD := (yX2_readSum, cX2_readSum, 6, (some .int))
theorem okX2_readSum : OKM mX2_readSum 1 := ⟨by decide +kernel, gi 347 _ (by decide +kernel) rfl, ⟨by decide +kernel, by decide +kernel⟩, by decide +kernel, gi 68 _ (by decide +kernel) rfl, by decide⟩
abbrev mX2_readProduct : MD := (yX2_readProduct, cX2_readProduct, 5, (some .int))
theorem okX2_readProduct : OKM mX2_readProduct 1 := ⟨by decide +kernel, gi 351 _ (by decide +kernel) rfl, ⟨by decide +kernel, by decide +kernel⟩, by decide +kernel, gi 68 _ (by decide +kernel) rfl, by decide⟩
abbrev mX2_readPower : MD := (yX2_readPower, cX2_readPower, 3, (some .int))
theorem okX2_readPower : OKM mX2_readPower 1 := ⟨by decide +kernel, gi 355 _ (by decide +kernel) rfl, ⟨by decide +kernel, by decide +kernel⟩, by decide +kernel, gi 68 _ (by decide +kernel) rfl, by decide⟩
abbrev mX2_readPart : MD := (yX2_readPart, cX2_readPart, 5, (some .int))
theorem okX2_readPart : OKM mX2_readPart 1 := ⟨by decide +kernel, gi 359 _ (by decide +kernel) rfl, ⟨by decide +kernel, by decide +kernel⟩, by decide +kernel, gi 68 _ (by decide +kernel) rfl, by decide⟩
abbrev mX2_countNode : MD := (yX2_countNode, cX2_countNode, 1, (some .boolean))
theorem okX2_countNode : OKM mX2_countNode 0 := ⟨by decide +kernel, gi 363 _ (by decide +kernel) rfl, ⟨by decide +kernel, by decide +kernel⟩, by decide +kernel, gi 68 _ (by decide +kernel) rfl, by decide⟩
abbrev mX2_readBarePart : MD := (yX2_readBarePart, cX2_readBarePart, 4, (some .int))
theorem okX2_readBarePart : OKM mX2_readBarePart 1 := ⟨by decide +kernel, gi 367 _ (by decide +kernel) rfl, ⟨by decide +kernel, by decide +kernel⟩, by decide +kernel, gi 68 _ (by decide +kernel) rfl, by decide⟩
abbrev mX2_readInner : MD := (yX2_readInner, cX2_readInner, 3, (some .int))
theorem okX2_readInner : OKM mX2_readInner 1 := ⟨by decide +kernel, gi 371 _ (by decide +kernel) rfl, ⟨by decide +kernel, by decide +kernel⟩, by decide +kernel, gi 68 _ (by decide +kernel) rfl, by decide⟩
abbrev mX2_readEarlier : MD := (yX2_readEarlier, cX2_readEarlier, 2, (some .int))
theorem okX2_readEarlier : OKM mX2_readEarlier 0 := ⟨by decide +kernel, gi 375 _ (by decide +kernel) rfl, ⟨by decide +kernel, by decide +kernel⟩, by decide +kernel, gi 68 _ (by decide +kernel) rfl, by decide⟩
abbrev mX4_root : MD := (yX4_root, cX4_root, 2, (some .int))
theorem okX4_root : OKM mX4_root 1 := ⟨by decide +kernel, gi 379 _ (by decide +kernel) rfl, ⟨by decide +kernel, by decide +kernel⟩, by decide +kernel, gi 67 _ (by decide +kernel) rfl, by decide⟩
abbrev mX4_stop : MD := (yX4_stop, cX4_stop, 2, (some .int))
theorem okX4_stop : OKM mX4_stop 1 := ⟨by decide +kernel, gi 383 _ (by decide +kernel) rfl, ⟨by decide +kernel, by decide +kernel⟩, by decide +kernel, gi 67 _ (by decide +kernel) rfl, by decide⟩
abbrev mX4_addOver : MD := (yX4_addOver, cX4_addOver, 4, (some .int))
theorem okX4_addOver : OKM mX4_addOver 3 := ⟨by decide +kernel, gi 387 _ (by decide +kernel) rfl, ⟨by decide +kernel, by decide +kernel⟩, by decide +kernel, gi 67 _ (by decide +kernel) rfl, by decide⟩
abbrev mX4_steps : MD := (yX4_steps, cX4_steps, 2, (some .int))
theorem okX4_steps : OKM mX4_steps 1 := ⟨by decide +kernel, gi 391 _ (by decide +kernel) rfl, ⟨by decide +kernel, by decide +kernel⟩, by decide +kernel, gi 67 _ (by decide +kernel) rfl, by decide⟩
abbrev mX4_names : MD := (yX4_names, cX4_names, 2, (some .int))
theorem okX4_names : OKM mX4_names 1 := ⟨by decide +kernel, gi 395 _ (by decide +kernel) rfl, ⟨by decide +kernel, by decide +kernel⟩, by decide +kernel, gi 67 _ (by decide +kernel) rfl, by decide⟩
abbrev mX4_add : MD := (yX4_add, cX4_add, 7, (some .int))
theorem okX4_add : OKM mX4_add 5 := ⟨by decide +kernel, gi 399 _ (by decide +kernel) rfl, ⟨by decide +kernel, by decide +kernel⟩, by decide +kernel, gi 67 _ (by decide +kernel) rfl, by decide⟩
abbrev mX4_addNumber : MD := (yX4_addNumber, cX4_addNumber, 2, (some .int))
theorem okX4_addNumber : OKM mX4_addNumber 1 := ⟨by decide +kernel, gi 403 _ (by decide +kernel) rfl, ⟨by decide +kernel, by decide +kernel⟩, by decide +kernel, gi 67 _ (by decide +kernel) rfl, by decide⟩
abbrev mX4_addSource : MD := (yX4_addSource, cX4_addSource, 2, (some .int))
theorem okX4_addSource : OKM mX4_addSource 1 := ⟨by decide +kernel, gi 407 _ (by decide +kernel) rfl, ⟨by decide +kernel, by decide +kernel⟩, by decide +kernel, gi 67 _ (by decide +kernel) rfl, by decide⟩
abbrev mX4_addBoth : MD := (yX4_addBoth, cX4_addBoth, 4, (some .int))
theorem okX4_addBoth : OKM mX4_addBoth 3 := ⟨by decide +kernel, gi 411 _ (by decide +kernel) rfl, ⟨by decide +kernel, by decide +kernel⟩, by decide +kernel, gi 67 _ (by decide +kernel) rfl, by decide⟩
abbrev mX4_endFormula : MD := (yX4_endFormula, cX4_endFormula, 1, none)
theorem okX4_endFormula : OKM mX4_endFormula 0 := ⟨by decide +kernel, gi 415 _ (by decide +kernel) rfl, ⟨by decide +kernel, by decide +kernel⟩, by decide +kernel, gi 67 _ (by decide +kernel) rfl, by decide⟩
abbrev mX0_take : MD := (yX0_take, cX0_take, 3, none)
theorem okX0_take : OKM mX0_take 1 := ⟨by decide +kernel, gi 419 _ (by decide +kernel) rfl, ⟨by decide +kernel, by decide +kernel⟩, by decide +kernel, gi 66 _ (by decide +kernel) rfl, by decide⟩
abbrev mX4_take : MD := (yX4_take, cX4_take, 3, none)
theorem okX4_take : OKM mX4_take 1 := ⟨by decide +kernel, gi 423 _ (by decide +kernel) rfl, ⟨by decide +kernel, by decide +kernel⟩, by decide +kernel, gi 67 _ (by decide +kernel) rfl, by decide⟩
abbrev mX1_lose : MD := (yX1_lose, cX1_lose, 1, none)
theorem okX1_lose : OKM mX1_lose 0 := ⟨by decide +kernel, gi 427 _ (by decide +kernel) rfl, ⟨by decide +kernel, by decide +kernel⟩, by decide +kernel, gi 69 _ (by decide +kernel) rfl, by decide⟩
abbrev mX5_source : MD := (yX5_source, cX5_source, 3, (some .long))
theorem okX5_source : OKM mX5_source 2 := ⟨by decide +kernel, gi 431 _ (by decide +kernel) rfl, ⟨by decide +kernel, by decide +kernel⟩, by decide +kernel, gi 65 _ (by decide +kernel) rfl, by decide⟩
abbrev mX0_worth : MD := (yX0_worth, cX0_worth, 2, (some .int))
theorem okX0_worth : OKM mX0_worth 1 := ⟨by decide +kernel, gi 437 _ (by decide +kernel) rfl, ⟨by decide +kernel, by decide +kernel⟩, by decide +kernel, gi 66 _ (by decide +kernel) rfl, by decide⟩
abbrev mX0_spread : MD := (yX0_spread, cX0_spread, 3, (some .int))
theorem okX0_spread : OKM mX0_spread 2 := ⟨by decide +kernel, gi 441 _ (by decide +kernel) rfl, ⟨by decide +kernel, by decide +kernel⟩, by decide +kernel, gi 66 _ (by decide +kernel) rfl, by decide⟩
abbrev mX5_joint : MD := (yX5_joint, cX5_joint, 3, (some .long))
theorem okX5_joint : OKM mX5_joint 2 := ⟨by decide +kernel, gi 445 _ (by decide +kernel) rfl, ⟨by decide +kernel, by decide +kernel⟩, by decide +kernel, gi 65 _ (by decide +kernel) rfl, by decide⟩
abbrev mX5_values : MD := (yX5_values, cX5_values, 4, (some .int))
theorem okX5_values : OKM mX5_values 2 := ⟨by decide +kernel, gi 449 _ (by decide +kernel) rfl, ⟨by decide +kernel, by decide +kernel⟩, by decide +kernel, gi 65 _ (by decide +kernel) rfl, by decide⟩
abbrev mX1_add : MD := (yX1_add, cX1_add, 4, none)
theorem okX1_add : OKM mX1_add 3 := ⟨by decide +kernel, gi 453 _ (by decide +kernel) rfl, ⟨by decide +kernel, by decide +kernel⟩, by decide +kernel, gi 69 _ (by decide +kernel) rfl, by decide⟩
abbrev mX1_loseOldest : MD := (yX1_loseOldest, cX1_loseOldest, 2, none)
theorem okX1_loseOldest : OKM mX1_loseOldest 0 := ⟨by decide +kernel, gi 457 _ (by decide +kernel) rfl, ⟨by decide +kernel, by decide +kernel⟩, by decide +kernel, gi 69 _ (by decide +kernel) rfl, by decide⟩
abbrev mX5_spreads : MD := (yX5_spreads, cX5_spreads, 4, (some .int))
theorem okX5_spreads : OKM mX5_spreads 2 := ⟨by decide +kernel, gi 462 _ (by decide +kernel) rfl, ⟨by decide +kernel, by decide +kernel⟩, by decide +kernel, gi 65 _ (by decide +kernel) rfl, by decide⟩
abbrev mX5_joints : MD := (yX5_joints, cX5_joints, 5, (some .int))
theorem okX5_joints : OKM mX5_joints 3 := ⟨by decide +kernel, gi 467 _ (by decide +kernel) rfl, ⟨by decide +kernel, by decide +kernel⟩, by decide +kernel, gi 65 _ (by decide +kernel) rfl, by decide⟩
abbrev mX5_undo : MD := (yX5_undo, cX5_undo, 1, (some .int))
theorem okX5_undo : OKM mX5_undo 0 := ⟨by decide +kernel, gi 471 _ (by decide +kernel) rfl, ⟨by decide +kernel, by decide +kernel⟩, by decide +kernel, gi 65 _ (by decide +kernel) rfl, by decide⟩
abbrev mX1_takeBack : MD := (yX1_takeBack, cX1_takeBack, 3, (some .boolean))
theorem okX1_takeBack : OKM mX1_takeBack 1 := ⟨by decide +kernel, gi 475 _ (by decide +kernel) rfl, ⟨by decide +kernel, by decide +kernel⟩, by decide +kernel, gi 69 _ (by decide +kernel) rfl, by decide⟩
abbrev mX1_known : MD := (yX1_known, cX1_known, 1, (some .int))
theorem okX1_known : OKM mX1_known 0 := ⟨by decide +kernel, gi 481 _ (by decide +kernel) rfl, ⟨by decide +kernel, by decide +kernel⟩, by decide +kernel, gi 69 _ (by decide +kernel) rfl, by decide⟩
abbrev mX5_value : MD := (yX5_value, cX5_value, 2, (some .long))
theorem okX5_value : OKM mX5_value 1 := ⟨by decide +kernel, gi 485 _ (by decide +kernel) rfl, ⟨by decide +kernel, by decide +kernel⟩, by decide +kernel, gi 65 _ (by decide +kernel) rfl, by decide⟩
abbrev mX5_isTold : MD := (yX5_isTold, cX5_isTold, 2, (some .boolean))
theorem okX5_isTold : OKM mX5_isTold 1 := ⟨by decide +kernel, gi 489 _ (by decide +kernel) rfl, ⟨by decide +kernel, by decide +kernel⟩, by decide +kernel, gi 65 _ (by decide +kernel) rfl, by decide⟩
abbrev mX3_worth : MD := (yX3_worth, cX3_worth, 4, (some .long))
theorem okX3_worth : OKM mX3_worth 3 := ⟨by decide +kernel, gi 494 _ (by decide +kernel) rfl, ⟨by decide +kernel, by decide +kernel⟩, by decide +kernel, gi 70 _ (by decide +kernel) rfl, by decide⟩
abbrev mX3_walkWorth : MD := (yX3_walkWorth, cX3_walkWorth, 5, none)
theorem okX3_walkWorth : OKM mX3_walkWorth 3 := ⟨by decide +kernel, gi 499 _ (by decide +kernel) rfl, ⟨by decide +kernel, by decide +kernel⟩, by decide +kernel, gi 70 _ (by decide +kernel) rfl, by decide⟩
abbrev mX3_worthOf : MD := (yX3_worthOf, cX3_worthOf, 6, (some .long))
theorem okX3_worthOf : OKM mX3_worthOf 3 := ⟨by decide +kernel, gi 503 _ (by decide +kernel) rfl, ⟨by decide +kernel, by decide +kernel⟩, by decide +kernel, gi 70 _ (by decide +kernel) rfl, by decide⟩
abbrev mX3_at : MD := (yX3_at, cX3_at, 2, (some .long))
theorem okX3_at : OKM mX3_at 2 := ⟨by decide +kernel, gi 507 _ (by decide +kernel) rfl, ⟨by decide +kernel, by decide +kernel⟩, by decide +kernel, gi 70 _ (by decide +kernel) rfl, by decide⟩
abbrev mX3_power : MD := (yX3_power, cX3_power, 6, (some .long))
theorem okX3_power : OKM mX3_power 2 := ⟨by decide +kernel, gi 510 _ (by decide +kernel) rfl, ⟨by decide +kernel, by decide +kernel⟩, by decide +kernel, gi 70 _ (by decide +kernel) rfl, by decide⟩
abbrev mX5_slope : MD := (yX5_slope, cX5_slope, 3, (some .long))
theorem okX5_slope : OKM mX5_slope 2 := ⟨by decide +kernel, gi 515 _ (by decide +kernel) rfl, ⟨by decide +kernel, by decide +kernel⟩, by decide +kernel, gi 65 _ (by decide +kernel) rfl, by decide⟩
abbrev mX3_slopeBy : MD := (yX3_slopeBy, cX3_slopeBy, 3, (some .long))
theorem okX3_slopeBy : OKM mX3_slopeBy 2 := ⟨by decide +kernel, gi 519 _ (by decide +kernel) rfl, ⟨by decide +kernel, by decide +kernel⟩, by decide +kernel, gi 70 _ (by decide +kernel) rfl, by decide⟩
abbrev mX3_walkSlope : MD := (yX3_walkSlope, cX3_walkSlope, 5, none)
theorem okX3_walkSlope : OKM mX3_walkSlope 3 := ⟨by decide +kernel, gi 523 _ (by decide +kernel) rfl, ⟨by decide +kernel, by decide +kernel⟩, by decide +kernel, gi 70 _ (by decide +kernel) rfl, by decide⟩
abbrev mX3_slopeOf : MD := (yX3_slopeOf, cX3_slopeOf, 6, (some .long))
theorem okX3_slopeOf : OKM mX3_slopeOf 3 := ⟨by decide +kernel, gi 527 _ (by decide +kernel) rfl, ⟨by decide +kernel, by decide +kernel⟩, by decide +kernel, gi 70 _ (by decide +kernel) rfl, by decide⟩
abbrev mX5_bend : MD := (yX5_bend, cX5_bend, 4, (some .long))
theorem okX5_bend : OKM mX5_bend 3 := ⟨by decide +kernel, gi 531 _ (by decide +kernel) rfl, ⟨by decide +kernel, by decide +kernel⟩, by decide +kernel, gi 65 _ (by decide +kernel) rfl, by decide⟩
abbrev mX3_bendBy : MD := (yX3_bendBy, cX3_bendBy, 5, (some .long))
theorem okX3_bendBy : OKM mX3_bendBy 3 := ⟨by decide +kernel, gi 535 _ (by decide +kernel) rfl, ⟨by decide +kernel, by decide +kernel⟩, by decide +kernel, gi 70 _ (by decide +kernel) rfl, by decide⟩
abbrev mX3_walkBend : MD := (yX3_walkBend, cX3_walkBend, 3, none)
theorem okX3_walkBend : OKM mX3_walkBend 1 := ⟨by decide +kernel, gi 539 _ (by decide +kernel) rfl, ⟨by decide +kernel, by decide +kernel⟩, by decide +kernel, gi 70 _ (by decide +kernel) rfl, by decide⟩
abbrev mX3_bendOf : MD := (yX3_bendOf, cX3_bendOf, 4, (some .long))
theorem okX3_bendOf : OKM mX3_bendOf 1 := ⟨by decide +kernel, gi 543 _ (by decide +kernel) rfl, ⟨by decide +kernel, by decide +kernel⟩, by decide +kernel, gi 70 _ (by decide +kernel) rfl, by decide⟩
abbrev mX5_whole : MD := (yX5_whole, cX5_whole, 2, (some .long))
theorem okX5_whole : OKM mX5_whole 1 := ⟨by decide +kernel, gi 547 _ (by decide +kernel) rfl, ⟨by decide +kernel, by decide +kernel⟩, by decide +kernel, gi 65 _ (by decide +kernel) rfl, by decide⟩
abbrev mX5_remains : MD := (yX5_remains, cX5_remains, 3, (some .long))
theorem okX5_remains : OKM mX5_remains 2 := ⟨by decide +kernel, gi 551 _ (by decide +kernel) rfl, ⟨by decide +kernel, by decide +kernel⟩, by decide +kernel, gi 65 _ (by decide +kernel) rfl, by decide⟩
abbrev mX3_slopesInto : MD := (yX3_slopesInto, cX3_slopesInto, 5, none)
theorem okX3_slopesInto : OKM mX3_slopesInto 2 := ⟨by decide +kernel, gi 555 _ (by decide +kernel) rfl, ⟨by decide +kernel, by decide +kernel⟩, by decide +kernel, gi 70 _ (by decide +kernel) rfl, by decide⟩
abbrev mX5_product : MD := (yX5_product, cX5_product, 7, (some .long))
theorem okX5_product : OKM mX5_product 3 := ⟨by decide +kernel, gi 559 _ (by decide +kernel) rfl, ⟨by decide +kernel, by decide +kernel⟩, by decide +kernel, gi 65 _ (by decide +kernel) rfl, by decide⟩
abbrev mX5_part : MD := (yX5_part, cX5_part, 8, (some .long))
theorem okX5_part : OKM mX5_part 4 := ⟨by decide +kernel, gi 563 _ (by decide +kernel) rfl, ⟨by decide +kernel, by decide +kernel⟩, by decide +kernel, gi 65 _ (by decide +kernel) rfl, by decide⟩
abbrev mX5_together : MD := (yX5_together, cX5_together, 3, (some .long))
theorem okX5_together : OKM mX5_together 2 := ⟨by decide +kernel, gi 567 _ (by decide +kernel) rfl, ⟨by decide +kernel, by decide +kernel⟩, by decide +kernel, gi 65 _ (by decide +kernel) rfl, by decide⟩
abbrev mX5_share : MD := (yX5_share, cX5_share, 3, (some .long))
theorem okX5_share : OKM mX5_share 2 := ⟨by decide +kernel, gi 571 _ (by decide +kernel) rfl, ⟨by decide +kernel, by decide +kernel⟩, by decide +kernel, gi 65 _ (by decide +kernel) rfl, by decide⟩
abbrev mX5_left : MD := (yX5_left, cX5_left, 3, (some .long))
theorem okX5_left : OKM mX5_left 2 := ⟨by decide +kernel, gi 575 _ (by decide +kernel) rfl, ⟨by decide +kernel, by decide +kernel⟩, by decide +kernel, gi 65 _ (by decide +kernel) rfl, by decide⟩
abbrev mX5_fewest : MD := (yX5_fewest, cX5_fewest, 7, (some .int))
theorem okX5_fewest : OKM mX5_fewest 2 := ⟨by decide +kernel, gi 579 _ (by decide +kernel) rfl, ⟨by decide +kernel, by decide +kernel⟩, by decide +kernel, gi 65 _ (by decide +kernel) rfl, by decide⟩
abbrev mJ6_bitCount_0f7a4 : MD := (yJ6_bitCount_0f7a4, cJ6_bitCount_0f7a4, 1, (some .int))
theorem okJ6_bitCount_0f7a4 : OKM mJ6_bitCount_0f7a4 1 := ⟨by decide +kernel, gi 582 _ (by decide +kernel) rfl, ⟨by decide +kernel, by decide +kernel⟩, by decide +kernel, gi 72 _ (by decide +kernel) rfl, by decide⟩
abbrev mX5_takes : MD := (yX5_takes, cX5_takes, 3, (some .long))
theorem okX5_takes : OKM mX5_takes 2 := ⟨by decide +kernel, gi 589 _ (by decide +kernel) rfl, ⟨by decide +kernel, by decide +kernel⟩, by decide +kernel, gi 65 _ (by decide +kernel) rfl, by decide⟩
abbrev mX5_taken : MD := (yX5_taken, cX5_taken, 2, (some .long))
theorem okX5_taken : OKM mX5_taken 1 := ⟨by decide +kernel, gi 593 _ (by decide +kernel) rfl, ⟨by decide +kernel, by decide +kernel⟩, by decide +kernel, gi 65 _ (by decide +kernel) rfl, by decide⟩
abbrev mX5_first : MD := (yX5_first, cX5_first, 9, (some .int))
theorem okX5_first : OKM mX5_first 2 := ⟨by decide +kernel, gi 597 _ (by decide +kernel) rfl, ⟨by decide +kernel, by decide +kernel⟩, by decide +kernel, gi 65 _ (by decide +kernel) rfl, by decide⟩
abbrev mX5_off : MD := (yX5_off, cX5_off, 8, (some .long))
theorem okX5_off : OKM mX5_off 3 := ⟨by decide +kernel, gi 601 _ (by decide +kernel) rfl, ⟨by decide +kernel, by decide +kernel⟩, by decide +kernel, gi 65 _ (by decide +kernel) rfl, by decide⟩
abbrev mX5_isMove : MD := (yX5_isMove, cX5_isMove, 1, (some .boolean))
theorem okX5_isMove : OKM mX5_isMove 1 := ⟨by decide +kernel, gi 604 _ (by decide +kernel) rfl, ⟨by decide +kernel, by decide +kernel⟩, by decide +kernel, gi 65 _ (by decide +kernel) rfl, by decide⟩
abbrev mX5_sees : MD := (yX5_sees, cX5_sees, 4, (some .int))
theorem okX5_sees : OKM mX5_sees 2 := ⟨by decide +kernel, gi 608 _ (by decide +kernel) rfl, ⟨by decide +kernel, by decide +kernel⟩, by decide +kernel, gi 65 _ (by decide +kernel) rfl, by decide⟩
abbrev mX5_forget : MD := (yX5_forget, cX5_forget, 2, (some .int))
theorem okX5_forget : OKM mX5_forget 0 := ⟨by decide +kernel, gi 612 _ (by decide +kernel) rfl, ⟨by decide +kernel, by decide +kernel⟩, by decide +kernel, gi 65 _ (by decide +kernel) rfl, by decide⟩
abbrev mX5_unseen : MD := (yX5_unseen, cX5_unseen, 4, (some .int))
theorem okX5_unseen : OKM mX5_unseen 1 := ⟨by decide +kernel, gi 616 _ (by decide +kernel) rfl, ⟨by decide +kernel, by decide +kernel⟩, by decide +kernel, gi 65 _ (by decide +kernel) rfl, by decide⟩
abbrev mX5_explains : MD := (yX5_explains, cX5_explains, 4, (some .boolean))
theorem okX5_explains : OKM mX5_explains 2 := ⟨by decide +kernel, gi 620 _ (by decide +kernel) rfl, ⟨by decide +kernel, by decide +kernel⟩, by decide +kernel, gi 65 _ (by decide +kernel) rfl, by decide⟩
abbrev mX5_keep : MD := (yX5_keep, cX5_keep, 2, (some .int))
theorem okX5_keep : OKM mX5_keep 1 := ⟨by decide +kernel, gi 624 _ (by decide +kernel) rfl, ⟨by decide +kernel, by decide +kernel⟩, by decide +kernel, gi 65 _ (by decide +kernel) rfl, by decide⟩
abbrev mX5_back : MD := (yX5_back, cX5_back, 2, (some .int))
theorem okX5_back : OKM mX5_back 1 := ⟨by decide +kernel, gi 628 _ (by decide +kernel) rfl, ⟨by decide +kernel, by decide +kernel⟩, by decide +kernel, gi 65 _ (by decide +kernel) rfl, by decide⟩
abbrev mX5_formula : MD := (yX5_formula, cX5_formula, 3, (some .int))
theorem okX5_formula : OKM mX5_formula 2 := ⟨by decide +kernel, gi 632 _ (by decide +kernel) rfl, ⟨by decide +kernel, by decide +kernel⟩, by decide +kernel, gi 65 _ (by decide +kernel) rfl, by decide⟩
abbrev mX4_start : MD := (yX4_start, cX4_start, 2, (some .int))
theorem okX4_start : OKM mX4_start 1 := ⟨by decide +kernel, gi 637 _ (by decide +kernel) rfl, ⟨by decide +kernel, by decide +kernel⟩, by decide +kernel, gi 67 _ (by decide +kernel) rfl, by decide⟩
abbrev mX5_count : MD := (yX5_count, cX5_count, 2, (some .int))
theorem okX5_count : OKM mX5_count 1 := ⟨by decide +kernel, gi 644 _ (by decide +kernel) rfl, ⟨by decide +kernel, by decide +kernel⟩, by decide +kernel, gi 65 _ (by decide +kernel) rfl, by decide⟩
abbrev mX6_init : MD := (yX6_init, cX6_init, 1, none)
theorem okX6_init : OKM mX6_init 0 := ⟨by decide +kernel, gi 649 _ (by decide +kernel) rfl, ⟨by decide +kernel, by decide +kernel⟩, by decide +kernel, gi 71 _ (by decide +kernel) rfl, by decide⟩
abbrev mX6_begins : MD := (yX6_begins, cX6_begins, 2, none)
theorem okX6_begins : OKM mX6_begins 0 := ⟨by decide +kernel, gi 654 _ (by decide +kernel) rfl, ⟨by decide +kernel, by decide +kernel⟩, by decide +kernel, gi 71 _ (by decide +kernel) rfl, by decide⟩
abbrev mX6_settles : MD := (yX6_settles, cX6_settles, 2, none)
theorem okX6_settles : OKM mX6_settles 0 := ⟨by decide +kernel, gi 658 _ (by decide +kernel) rfl, ⟨by decide +kernel, by decide +kernel⟩, by decide +kernel, gi 71 _ (by decide +kernel) rfl, by decide⟩
abbrev mX6_type : MD := (yX6_type, cX6_type, 2, (some .int))
theorem okX6_type : OKM mX6_type 1 := ⟨by decide +kernel, gi 784 _ (by decide +kernel) rfl, ⟨by decide +kernel, by decide +kernel⟩, by decide +kernel, gi 71 _ (by decide +kernel) rfl, by decide⟩
abbrev mX6_in : MD := (yX6_in, cX6_in, 3, (some .boolean))
theorem okX6_in : OKM mX6_in 3 := ⟨by decide +kernel, gi 787 _ (by decide +kernel) rfl, ⟨by decide +kernel, by decide +kernel⟩, by decide +kernel, gi 71 _ (by decide +kernel) rfl, by decide⟩
abbrev mX6_clear : MD := (yX6_clear, cX6_clear, 2, (some .int))
theorem okX6_clear : OKM mX6_clear 0 := ⟨by decide +kernel, gi 791 _ (by decide +kernel) rfl, ⟨by decide +kernel, by decide +kernel⟩, by decide +kernel, gi 71 _ (by decide +kernel) rfl, by decide⟩
abbrev mX6_desk : MD := (yX6_desk, cX6_desk, 3, (some .int))
theorem okX6_desk : OKM mX6_desk 0 := ⟨by decide +kernel, gi 795 _ (by decide +kernel) rfl, ⟨by decide +kernel, by decide +kernel⟩, by decide +kernel, gi 71 _ (by decide +kernel) rfl, by decide⟩
abbrev mX6_advances : MD := (yX6_advances, cX6_advances, 2, none)
theorem okX6_advances : OKM mX6_advances 0 := ⟨by decide +kernel, gi 799 _ (by decide +kernel) rfl, ⟨by decide +kernel, by decide +kernel⟩, by decide +kernel, gi 71 _ (by decide +kernel) rfl, by decide⟩
abbrev mX6_letterAt : MD := (yX6_letterAt, cX6_letterAt, 2, (some .int))
theorem okX6_letterAt : OKM mX6_letterAt 1 := ⟨by decide +kernel, gi 803 _ (by decide +kernel) rfl, ⟨by decide +kernel, by decide +kernel⟩, by decide +kernel, gi 71 _ (by decide +kernel) rfl, by decide⟩
abbrev mX6_isSign : MD := (yX6_isSign, cX6_isSign, 1, (some .boolean))
theorem okX6_isSign : OKM mX6_isSign 1 := ⟨by decide +kernel, gi 806 _ (by decide +kernel) rfl, ⟨by decide +kernel, by decide +kernel⟩, by decide +kernel, gi 71 _ (by decide +kernel) rfl, by decide⟩
abbrev mX6_isWell : MD := (yX6_isWell, cX6_isWell, 1, (some .boolean))
theorem okX6_isWell : OKM mX6_isWell 0 := ⟨by decide +kernel, gi 810 _ (by decide +kernel) rfl, ⟨by decide +kernel, by decide +kernel⟩, by decide +kernel, gi 71 _ (by decide +kernel) rfl, by decide⟩
abbrev mX6_isThis : MD := (yX6_isThis, cX6_isThis, 2, (some .boolean))
theorem okX6_isThis : OKM mX6_isThis 1 := ⟨by decide +kernel, gi 814 _ (by decide +kernel) rfl, ⟨by decide +kernel, by decide +kernel⟩, by decide +kernel, gi 71 _ (by decide +kernel) rfl, by decide⟩
abbrev mX6_takes : MD := (yX6_takes, cX6_takes, 3, (some .int))
theorem okX6_takes : OKM mX6_takes 1 := ⟨by decide +kernel, gi 818 _ (by decide +kernel) rfl, ⟨by decide +kernel, by decide +kernel⟩, by decide +kernel, gi 71 _ (by decide +kernel) rfl, by decide⟩
abbrev mX6_readsItem : MD := (yX6_readsItem, cX6_readsItem, 5, none)
theorem okX6_readsItem : OKM mX6_readsItem 1 := ⟨by decide +kernel, gi 822 _ (by decide +kernel) rfl, ⟨by decide +kernel, by decide +kernel⟩, by decide +kernel, gi 71 _ (by decide +kernel) rfl, by decide⟩
abbrev mX6_readsSum : MD := (yX6_readsSum, cX6_readsSum, 4, none)
theorem okX6_readsSum : OKM mX6_readsSum 0 := ⟨by decide +kernel, gi 826 _ (by decide +kernel) rfl, ⟨by decide +kernel, by decide +kernel⟩, by decide +kernel, gi 71 _ (by decide +kernel) rfl, by decide⟩
abbrev mX6_readsPart : MD := (yX6_readsPart, cX6_readsPart, 2, (some .boolean))
theorem okX6_readsPart : OKM mX6_readsPart 0 := ⟨by decide +kernel, gi 830 _ (by decide +kernel) rfl, ⟨by decide +kernel, by decide +kernel⟩, by decide +kernel, gi 71 _ (by decide +kernel) rfl, by decide⟩
abbrev mX6_waits : MD := (yX6_waits, cX6_waits, 2, none)
theorem okX6_waits : OKM mX6_waits 1 := ⟨by decide +kernel, gi 834 _ (by decide +kernel) rfl, ⟨by decide +kernel, by decide +kernel⟩, by decide +kernel, gi 71 _ (by decide +kernel) rfl, by decide⟩
abbrev mX6_counts : MD := (yX6_counts, cX6_counts, 1, (some .boolean))
theorem okX6_counts : OKM mX6_counts 0 := ⟨by decide +kernel, gi 838 _ (by decide +kernel) rfl, ⟨by decide +kernel, by decide +kernel⟩, by decide +kernel, gi 71 _ (by decide +kernel) rfl, by decide⟩
abbrev mX6_isNumber : MD := (yX6_isNumber, cX6_isNumber, 3, (some .boolean))
theorem okX6_isNumber : OKM mX6_isNumber 2 := ⟨by decide +kernel, gi 842 _ (by decide +kernel) rfl, ⟨by decide +kernel, by decide +kernel⟩, by decide +kernel, gi 71 _ (by decide +kernel) rfl, by decide⟩
abbrev mX6_makes : MD := (yX6_makes, cX6_makes, 7, none)
theorem okX6_makes : OKM mX6_makes 4 := ⟨by decide +kernel, gi 846 _ (by decide +kernel) rfl, ⟨by decide +kernel, by decide +kernel⟩, by decide +kernel, gi 71 _ (by decide +kernel) rfl, by decide⟩
abbrev mX6_isSourceSign : MD := (yX6_isSourceSign, cX6_isSourceSign, 1, (some .boolean))
theorem okX6_isSourceSign : OKM mX6_isSourceSign 0 := ⟨by decide +kernel, gi 850 _ (by decide +kernel) rfl, ⟨by decide +kernel, by decide +kernel⟩, by decide +kernel, gi 71 _ (by decide +kernel) rfl, by decide⟩
abbrev mX6_partDone : MD := (yX6_partDone, cX6_partDone, 2, none)
theorem okX6_partDone : OKM mX6_partDone 0 := ⟨by decide +kernel, gi 854 _ (by decide +kernel) rfl, ⟨by decide +kernel, by decide +kernel⟩, by decide +kernel, gi 71 _ (by decide +kernel) rfl, by decide⟩
abbrev mX6_lastWaiting : MD := (yX6_lastWaiting, cX6_lastWaiting, 1, (some .int))
theorem okX6_lastWaiting : OKM mX6_lastWaiting 0 := ⟨by decide +kernel, gi 858 _ (by decide +kernel) rfl, ⟨by decide +kernel, by decide +kernel⟩, by decide +kernel, gi 71 _ (by decide +kernel) rfl, by decide⟩
abbrev mX6_doesLast : MD := (yX6_doesLast, cX6_doesLast, 2, none)
theorem okX6_doesLast : OKM mX6_doesLast 0 := ⟨by decide +kernel, gi 862 _ (by decide +kernel) rfl, ⟨by decide +kernel, by decide +kernel⟩, by decide +kernel, gi 71 _ (by decide +kernel) rfl, by decide⟩
abbrev mX6_readsBehind : MD := (yX6_readsBehind, cX6_readsBehind, 1, (some .boolean))
theorem okX6_readsBehind : OKM mX6_readsBehind 0 := ⟨by decide +kernel, gi 866 _ (by decide +kernel) rfl, ⟨by decide +kernel, by decide +kernel⟩, by decide +kernel, gi 71 _ (by decide +kernel) rfl, by decide⟩
abbrev mX6_signed : MD := (yX6_signed, cX6_signed, 3, (some .int))
theorem okX6_signed : OKM mX6_signed 0 := ⟨by decide +kernel, gi 870 _ (by decide +kernel) rfl, ⟨by decide +kernel, by decide +kernel⟩, by decide +kernel, gi 71 _ (by decide +kernel) rfl, by decide⟩
abbrev mX6_source : MD := (yX6_source, cX6_source, 3, (some .long))
theorem okX6_source : OKM mX6_source 2 := ⟨by decide +kernel, gi 874 _ (by decide +kernel) rfl, ⟨by decide +kernel, by decide +kernel⟩, by decide +kernel, gi 71 _ (by decide +kernel) rfl, by decide⟩
abbrev mX6_isSource : MD := (yX6_isSource, cX6_isSource, 1, (some .boolean))
theorem okX6_isSource : OKM mX6_isSource 1 := ⟨by decide +kernel, gi 877 _ (by decide +kernel) rfl, ⟨by decide +kernel, by decide +kernel⟩, by decide +kernel, gi 71 _ (by decide +kernel) rfl, by decide⟩
abbrev mX6_joint : MD := (yX6_joint, cX6_joint, 3, (some .long))
theorem okX6_joint : OKM mX6_joint 2 := ⟨by decide +kernel, gi 882 _ (by decide +kernel) rfl, ⟨by decide +kernel, by decide +kernel⟩, by decide +kernel, gi 71 _ (by decide +kernel) rfl, by decide⟩
abbrev mX6_jointOf : MD := (yX6_jointOf, cX6_jointOf, 3, (some .int))
theorem okX6_jointOf : OKM mX6_jointOf 2 := ⟨by decide +kernel, gi 886 _ (by decide +kernel) rfl, ⟨by decide +kernel, by decide +kernel⟩, by decide +kernel, gi 71 _ (by decide +kernel) rfl, by decide⟩
abbrev mX6_values : MD := (yX6_values, cX6_values, 3, (some .int))
theorem okX6_values : OKM mX6_values 2 := ⟨by decide +kernel, gi 890 _ (by decide +kernel) rfl, ⟨by decide +kernel, by decide +kernel⟩, by decide +kernel, gi 71 _ (by decide +kernel) rfl, by decide⟩
abbrev mX6_notes : MD := (yX6_notes, cX6_notes, 2, none)
theorem okX6_notes : OKM mX6_notes 0 := ⟨by decide +kernel, gi 894 _ (by decide +kernel) rfl, ⟨by decide +kernel, by decide +kernel⟩, by decide +kernel, gi 71 _ (by decide +kernel) rfl, by decide⟩
abbrev mX6_spreads : MD := (yX6_spreads, cX6_spreads, 4, (some .int))
theorem okX6_spreads : OKM mX6_spreads 2 := ⟨by decide +kernel, gi 898 _ (by decide +kernel) rfl, ⟨by decide +kernel, by decide +kernel⟩, by decide +kernel, gi 71 _ (by decide +kernel) rfl, by decide⟩
abbrev mX6_joints : MD := (yX6_joints, cX6_joints, 4, (some .int))
theorem okX6_joints : OKM mX6_joints 3 := ⟨by decide +kernel, gi 902 _ (by decide +kernel) rfl, ⟨by decide +kernel, by decide +kernel⟩, by decide +kernel, gi 71 _ (by decide +kernel) rfl, by decide⟩
abbrev mX6_undo : MD := (yX6_undo, cX6_undo, 2, (some .int))
theorem okX6_undo : OKM mX6_undo 0 := ⟨by decide +kernel, gi 906 _ (by decide +kernel) rfl, ⟨by decide +kernel, by decide +kernel⟩, by decide +kernel, gi 71 _ (by decide +kernel) rfl, by decide⟩
abbrev mX6_value : MD := (yX6_value, cX6_value, 2, (some .long))
theorem okX6_value : OKM mX6_value 1 := ⟨by decide +kernel, gi 910 _ (by decide +kernel) rfl, ⟨by decide +kernel, by decide +kernel⟩, by decide +kernel, gi 71 _ (by decide +kernel) rfl, by decide⟩
abbrev mX6_isFormula : MD := (yX6_isFormula, cX6_isFormula, 2, (some .boolean))
theorem okX6_isFormula : OKM mX6_isFormula 1 := ⟨by decide +kernel, gi 914 _ (by decide +kernel) rfl, ⟨by decide +kernel, by decide +kernel⟩, by decide +kernel, gi 71 _ (by decide +kernel) rfl, by decide⟩
abbrev mX6_goes : MD := (yX6_goes, cX6_goes, 4, none)
theorem okX6_goes : OKM mX6_goes 0 := ⟨by decide +kernel, gi 918 _ (by decide +kernel) rfl, ⟨by decide +kernel, by decide +kernel⟩, by decide +kernel, gi 71 _ (by decide +kernel) rfl, by decide⟩
abbrev mX6_goesLeaf : MD := (yX6_goesLeaf, cX6_goesLeaf, 3, none)
theorem okX6_goesLeaf : OKM mX6_goesLeaf 1 := ⟨by decide +kernel, gi 922 _ (by decide +kernel) rfl, ⟨by decide +kernel, by decide +kernel⟩, by decide +kernel, gi 71 _ (by decide +kernel) rfl, by decide⟩
abbrev mX6_rootOf : MD := (yX6_rootOf, cX6_rootOf, 2, (some .int))
theorem okX6_rootOf : OKM mX6_rootOf 1 := ⟨by decide +kernel, gi 926 _ (by decide +kernel) rfl, ⟨by decide +kernel, by decide +kernel⟩, by decide +kernel, gi 71 _ (by decide +kernel) rfl, by decide⟩
abbrev mX6_copiesNode : MD := (yX6_copiesNode, cX6_copiesNode, 4, none)
theorem okX6_copiesNode : OKM mX6_copiesNode 2 := ⟨by decide +kernel, gi 930 _ (by decide +kernel) rfl, ⟨by decide +kernel, by decide +kernel⟩, by decide +kernel, gi 71 _ (by decide +kernel) rfl, by decide⟩
abbrev mX6_goesOne : MD := (yX6_goesOne, cX6_goesOne, 12, none)
theorem okX6_goesOne : OKM mX6_goesOne 2 := ⟨by decide +kernel, gi 934 _ (by decide +kernel) rfl, ⟨by decide +kernel, by decide +kernel⟩, by decide +kernel, gi 71 _ (by decide +kernel) rfl, by decide⟩
abbrev mX6_power : MD := (yX6_power, cX6_power, 6, (some .long))
theorem okX6_power : OKM mX6_power 2 := ⟨by decide +kernel, gi 938 _ (by decide +kernel) rfl, ⟨by decide +kernel, by decide +kernel⟩, by decide +kernel, gi 71 _ (by decide +kernel) rfl, by decide⟩
abbrev mX6_goesTwo : MD := (yX6_goesTwo, cX6_goesTwo, 12, none)
theorem okX6_goesTwo : OKM mX6_goesTwo 3 := ⟨by decide +kernel, gi 942 _ (by decide +kernel) rfl, ⟨by decide +kernel, by decide +kernel⟩, by decide +kernel, gi 71 _ (by decide +kernel) rfl, by decide⟩
abbrev mX6_slope : MD := (yX6_slope, cX6_slope, 3, (some .long))
theorem okX6_slope : OKM mX6_slope 2 := ⟨by decide +kernel, gi 946 _ (by decide +kernel) rfl, ⟨by decide +kernel, by decide +kernel⟩, by decide +kernel, gi 71 _ (by decide +kernel) rfl, by decide⟩
abbrev mX6_slopeOf : MD := (yX6_slopeOf, cX6_slopeOf, 3, (some .long))
theorem okX6_slopeOf : OKM mX6_slopeOf 2 := ⟨by decide +kernel, gi 950 _ (by decide +kernel) rfl, ⟨by decide +kernel, by decide +kernel⟩, by decide +kernel, gi 71 _ (by decide +kernel) rfl, by decide⟩
abbrev mX6_bend : MD := (yX6_bend, cX6_bend, 4, (some .long))
theorem okX6_bend : OKM mX6_bend 3 := ⟨by decide +kernel, gi 954 _ (by decide +kernel) rfl, ⟨by decide +kernel, by decide +kernel⟩, by decide +kernel, gi 71 _ (by decide +kernel) rfl, by decide⟩
abbrev mX6_whole : MD := (yX6_whole, cX6_whole, 2, (some .long))
theorem okX6_whole : OKM mX6_whole 1 := ⟨by decide +kernel, gi 958 _ (by decide +kernel) rfl, ⟨by decide +kernel, by decide +kernel⟩, by decide +kernel, gi 71 _ (by decide +kernel) rfl, by decide⟩
abbrev mX6_togetherOf : MD := (yX6_togetherOf, cX6_togetherOf, 8, (some .long))
theorem okX6_togetherOf : OKM mX6_togetherOf 3 := ⟨by decide +kernel, gi 962 _ (by decide +kernel) rfl, ⟨by decide +kernel, by decide +kernel⟩, by decide +kernel, gi 71 _ (by decide +kernel) rfl, by decide⟩
abbrev mX6_has : MD := (yX6_has, cX6_has, 2, (some .boolean))
theorem okX6_has : OKM mX6_has 2 := ⟨by decide +kernel, gi 965 _ (by decide +kernel) rfl, ⟨by decide +kernel, by decide +kernel⟩, by decide +kernel, gi 71 _ (by decide +kernel) rfl, by decide⟩
abbrev mX6_together : MD := (yX6_together, cX6_together, 3, (some .long))
theorem okX6_together : OKM mX6_together 2 := ⟨by decide +kernel, gi 969 _ (by decide +kernel) rfl, ⟨by decide +kernel, by decide +kernel⟩, by decide +kernel, gi 71 _ (by decide +kernel) rfl, by decide⟩
abbrev mX6_share : MD := (yX6_share, cX6_share, 3, (some .long))
theorem okX6_share : OKM mX6_share 2 := ⟨by decide +kernel, gi 973 _ (by decide +kernel) rfl, ⟨by decide +kernel, by decide +kernel⟩, by decide +kernel, gi 71 _ (by decide +kernel) rfl, by decide⟩
abbrev mX6_shareOf : MD := (yX6_shareOf, cX6_shareOf, 6, (some .long))
theorem okX6_shareOf : OKM mX6_shareOf 2 := ⟨by decide +kernel, gi 977 _ (by decide +kernel) rfl, ⟨by decide +kernel, by decide +kernel⟩, by decide +kernel, gi 71 _ (by decide +kernel) rfl, by decide⟩
abbrev mX6_left : MD := (yX6_left, cX6_left, 3, (some .long))
theorem okX6_left : OKM mX6_left 2 := ⟨by decide +kernel, gi 981 _ (by decide +kernel) rfl, ⟨by decide +kernel, by decide +kernel⟩, by decide +kernel, gi 71 _ (by decide +kernel) rfl, by decide⟩
abbrev mX6_fewest : MD := (yX6_fewest, cX6_fewest, 7, (some .int))
theorem okX6_fewest : OKM mX6_fewest 2 := ⟨by decide +kernel, gi 985 _ (by decide +kernel) rfl, ⟨by decide +kernel, by decide +kernel⟩, by decide +kernel, gi 71 _ (by decide +kernel) rfl, by decide⟩
abbrev mX6_ones : MD := (yX6_ones, cX6_ones, 3, (some .int))
theorem okX6_ones : OKM mX6_ones 1 := ⟨by decide +kernel, gi 988 _ (by decide +kernel) rfl, ⟨by decide +kernel, by decide +kernel⟩, by decide +kernel, gi 71 _ (by decide +kernel) rfl, by decide⟩
abbrev mX6_takes_ : MD := (yX6_takes_, cX6_takes_, 3, (some .long))
theorem okX6_takes_ : OKM mX6_takes_ 2 := ⟨by decide +kernel, gi 992 _ (by decide +kernel) rfl, ⟨by decide +kernel, by decide +kernel⟩, by decide +kernel, gi 71 _ (by decide +kernel) rfl, by decide⟩
abbrev mX6_takesOf : MD := (yX6_takesOf, cX6_takesOf, 3, (some .long))
theorem okX6_takesOf : OKM mX6_takesOf 2 := ⟨by decide +kernel, gi 996 _ (by decide +kernel) rfl, ⟨by decide +kernel, by decide +kernel⟩, by decide +kernel, gi 71 _ (by decide +kernel) rfl, by decide⟩
abbrev mX6_first : MD := (yX6_first, cX6_first, 9, (some .int))
theorem okX6_first : OKM mX6_first 2 := ⟨by decide +kernel, gi 1000 _ (by decide +kernel) rfl, ⟨by decide +kernel, by decide +kernel⟩, by decide +kernel, gi 71 _ (by decide +kernel) rfl, by decide⟩
abbrev mX6_off : MD := (yX6_off, cX6_off, 6, (some .long))
theorem okX6_off : OKM mX6_off 3 := ⟨by decide +kernel, gi 1004 _ (by decide +kernel) rfl, ⟨by decide +kernel, by decide +kernel⟩, by decide +kernel, gi 71 _ (by decide +kernel) rfl, by decide⟩
abbrev mX6_valueIf : MD := (yX6_valueIf, cX6_valueIf, 4, (some .long))
theorem okX6_valueIf : OKM mX6_valueIf 3 := ⟨by decide +kernel, gi 1008 _ (by decide +kernel) rfl, ⟨by decide +kernel, by decide +kernel⟩, by decide +kernel, gi 71 _ (by decide +kernel) rfl, by decide⟩
abbrev mX6_sees : MD := (yX6_sees, cX6_sees, 4, (some .int))
theorem okX6_sees : OKM mX6_sees 2 := ⟨by decide +kernel, gi 1012 _ (by decide +kernel) rfl, ⟨by decide +kernel, by decide +kernel⟩, by decide +kernel, gi 71 _ (by decide +kernel) rfl, by decide⟩
abbrev mX6_forget : MD := (yX6_forget, cX6_forget, 2, (some .int))
theorem okX6_forget : OKM mX6_forget 0 := ⟨by decide +kernel, gi 1016 _ (by decide +kernel) rfl, ⟨by decide +kernel, by decide +kernel⟩, by decide +kernel, gi 71 _ (by decide +kernel) rfl, by decide⟩
abbrev mX6_unseen : MD := (yX6_unseen, cX6_unseen, 6, (some .int))
theorem okX6_unseen : OKM mX6_unseen 1 := ⟨by decide +kernel, gi 1020 _ (by decide +kernel) rfl, ⟨by decide +kernel, by decide +kernel⟩, by decide +kernel, gi 71 _ (by decide +kernel) rfl, by decide⟩
abbrev mX6_keep : MD := (yX6_keep, cX6_keep, 3, (some .int))
theorem okX6_keep : OKM mX6_keep 1 := ⟨by decide +kernel, gi 1024 _ (by decide +kernel) rfl, ⟨by decide +kernel, by decide +kernel⟩, by decide +kernel, gi 71 _ (by decide +kernel) rfl, by decide⟩
abbrev mX6_back : MD := (yX6_back, cX6_back, 3, (some .int))
theorem okX6_back : OKM mX6_back 1 := ⟨by decide +kernel, gi 1028 _ (by decide +kernel) rfl, ⟨by decide +kernel, by decide +kernel⟩, by decide +kernel, gi 71 _ (by decide +kernel) rfl, by decide⟩
abbrev mX6_formula : MD := (yX6_formula, cX6_formula, 5, (some .int))
theorem okX6_formula : OKM mX6_formula 2 := ⟨by decide +kernel, gi 1032 _ (by decide +kernel) rfl, ⟨by decide +kernel, by decide +kernel⟩, by decide +kernel, gi 71 _ (by decide +kernel) rfl, by decide⟩
abbrev mX6_count : MD := (yX6_count, cX6_count, 2, (some .int))
theorem okX6_count : OKM mX6_count 1 := ⟨by decide +kernel, gi 1036 _ (by decide +kernel) rfl, ⟨by decide +kernel, by decide +kernel⟩, by decide +kernel, gi 71 _ (by decide +kernel) rfl, by decide⟩
theorem fX0_9 : FLK RX0 9 0 0 := ⟨clk0, by decide, fun q hq => by obtain rfl : q = (RX0, TX0, 2) := (Option.some.inj hq).symm; exact ⟨by decide, Or.inl (gi 87 _ (by decide +kernel) rfl)⟩⟩
theorem gX0_9 : ∀ q : vw_C, cls8[0]? = some q → Cond.fieldLink RX0 9 (q.2.1 0).1 (q.2.1 0).2.1 (q.2.1 0).2.2.1 ∈ gw := fun q hq => by obtain rfl : q = (RX0, TX0, 2) := (Option.some.inj hq).symm; exact gi 87 _ (by decide +kernel) rfl
theorem fX0_15 : FLK RX0 15 0 1 := ⟨clk0, by decide, fun q hq => by obtain rfl : q = (RX0, TX0, 2) := (Option.some.inj hq).symm; exact ⟨by decide, Or.inl (gi 88 _ (by decide +kernel) rfl)⟩⟩
theorem gX0_15 : ∀ q : vw_C, cls8[0]? = some q → Cond.fieldLink RX0 15 (q.2.1 1).1 (q.2.1 1).2.1 (q.2.1 1).2.2.1 ∈ gw := fun q hq => by obtain rfl : q = (RX0, TX0, 2) := (Option.some.inj hq).symm; exact gi 88 _ (by decide +kernel) rfl
theorem fX4_9 : FLK RX4 9 4 0 := ⟨clk4, by decide, fun q hq => by obtain rfl : q = (RX4, TX4, 8) := (Option.some.inj hq).symm; exact ⟨by decide, Or.inl (gi 101 _ (by decide +kernel) rfl)⟩⟩
theorem gX4_9 : ∀ q : vw_C, cls8[4]? = some q → Cond.fieldLink RX4 9 (q.2.1 0).1 (q.2.1 0).2.1 (q.2.1 0).2.2.1 ∈ gw := fun q hq => by obtain rfl : q = (RX4, TX4, 8) := (Option.some.inj hq).symm; exact gi 101 _ (by decide +kernel) rfl
theorem fX3_68 : FLK RX3 68 4 0 := ⟨clk4, by decide, fun q hq => by obtain rfl : q = (RX4, TX4, 8) := (Option.some.inj hq).symm; exact ⟨by decide, Or.inr ⟨"SpreadDesk", by decide +kernel⟩⟩⟩
theorem fX4_15 : FLK RX4 15 4 1 := ⟨clk4, by decide, fun q hq => by obtain rfl : q = (RX4, TX4, 8) := (Option.some.inj hq).symm; exact ⟨by decide, Or.inl (gi 103 _ (by decide +kernel) rfl)⟩⟩
theorem gX4_15 : ∀ q : vw_C, cls8[4]? = some q → Cond.fieldLink RX4 15 (q.2.1 1).1 (q.2.1 1).2.1 (q.2.1 1).2.2.1 ∈ gw := fun q hq => by obtain rfl : q = (RX4, TX4, 8) := (Option.some.inj hq).symm; exact gi 103 _ (by decide +kernel) rfl
theorem fX3_61 : FLK RX3 61 4 1 := ⟨clk4, by decide, fun q hq => by obtain rfl : q = (RX4, TX4, 8) := (Option.some.inj hq).symm; exact ⟨by decide, Or.inr ⟨"SpreadDesk", by decide +kernel⟩⟩⟩
theorem fX4_18 : FLK RX4 18 4 2 := ⟨clk4, by decide, fun q hq => by obtain rfl : q = (RX4, TX4, 8) := (Option.some.inj hq).symm; exact ⟨by decide, Or.inl (gi 105 _ (by decide +kernel) rfl)⟩⟩
theorem gX4_18 : ∀ q : vw_C, cls8[4]? = some q → Cond.fieldLink RX4 18 (q.2.1 2).1 (q.2.1 2).2.1 (q.2.1 2).2.2.1 ∈ gw := fun q hq => by obtain rfl : q = (RX4, TX4, 8) := (Option.some.inj hq).symm; exact gi 105 _ (by decide +kernel) rfl
theorem fX3_65 : FLK RX3 65 4 2 := ⟨clk4, by decide, fun q hq => by obtain rfl : q = (RX4, TX4, 8) := (Option.some.inj hq).symm; exact ⟨by decide, Or.inr ⟨"SpreadDesk", by decide +kernel⟩⟩⟩
theorem fX4_21 : FLK RX4 21 4 3 := ⟨clk4, by decide, fun q hq => by obtain rfl : q = (RX4, TX4, 8) := (Option.some.inj hq).symm; exact ⟨by decide, Or.inl (gi 107 _ (by decide +kernel) rfl)⟩⟩
theorem gX4_21 : ∀ q : vw_C, cls8[4]? = some q → Cond.fieldLink RX4 21 (q.2.1 3).1 (q.2.1 3).2.1 (q.2.1 3).2.2.1 ∈ gw := fun q hq => by obtain rfl : q = (RX4, TX4, 8) := (Option.some.inj hq).symm; exact gi 107 _ (by decide +kernel) rfl
theorem fX4_24 : FLK RX4 24 4 4 := ⟨clk4, by decide, fun q hq => by obtain rfl : q = (RX4, TX4, 8) := (Option.some.inj hq).symm; exact ⟨by decide, Or.inl (gi 108 _ (by decide +kernel) rfl)⟩⟩
theorem gX4_24 : ∀ q : vw_C, cls8[4]? = some q → Cond.fieldLink RX4 24 (q.2.1 4).1 (q.2.1 4).2.1 (q.2.1 4).2.2.1 ∈ gw := fun q hq => by obtain rfl : q = (RX4, TX4, 8) := (Option.some.inj hq).symm; exact gi 108 _ (by decide +kernel) rfl
theorem fX4_27 : FLK RX4 27 4 5 := ⟨clk4, by decide, fun q hq => by obtain rfl : q = (RX4, TX4, 8) := (Option.some.inj hq).symm; exact ⟨by decide, Or.inl (gi 109 _ (by decide +kernel) rfl)⟩⟩
theorem gX4_27 : ∀ q : vw_C, cls8[4]? = some q → Cond.fieldLink RX4 27 (q.2.1 5).1 (q.2.1 5).2.1 (q.2.1 5).2.2.1 ∈ gw := fun q hq => by obtain rfl : q = (RX4, TX4, 8) := (Option.some.inj hq).symm; exact gi 109 _ (by decide +kernel) rfl
theorem fX4_30 : FLK RX4 30 4 6 := ⟨clk4, by decide, fun q hq => by obtain rfl : q = (RX4, TX4, 8) := (Option.some.inj hq).symm; exact ⟨by decide, Or.inl (gi 110 _ (by decide +kernel) rfl)⟩⟩
theorem fX4_37 : FLK RX4 37 4 7 := ⟨clk4, by decide, fun q hq => by obtain rfl : q = (RX4, TX4, 8) := (Option.some.inj hq).symm; exact ⟨by decide, Or.inl (gi 111 _ (by decide +kernel) rfl)⟩⟩
theorem fX2_12 : FLK RX2 12 2 0 := ⟨clk2, by decide, fun q hq => by obtain rfl : q = (RX2, TX2, 9) := (Option.some.inj hq).symm; exact ⟨by decide, Or.inl (gi 139 _ (by decide +kernel) rfl)⟩⟩
theorem gX2_12 : ∀ q : vw_C, cls8[2]? = some q → Cond.fieldLink RX2 12 (q.2.1 0).1 (q.2.1 0).2.1 (q.2.1 0).2.2.1 ∈ gw := fun q hq => by obtain rfl : q = (RX2, TX2, 9) := (Option.some.inj hq).symm; exact gi 139 _ (by decide +kernel) rfl
theorem fX5_80 : FLK RX5 80 2 0 := ⟨clk2, by decide, fun q hq => by obtain rfl : q = (RX2, TX2, 9) := (Option.some.inj hq).symm; exact ⟨by decide, Or.inr ⟨"SpreadDesk", by decide +kernel⟩⟩⟩
theorem fX2_21 : FLK RX2 21 2 1 := ⟨clk2, by decide, fun q hq => by obtain rfl : q = (RX2, TX2, 9) := (Option.some.inj hq).symm; exact ⟨by decide, Or.inl (gi 141 _ (by decide +kernel) rfl)⟩⟩
theorem gX2_21 : ∀ q : vw_C, cls8[2]? = some q → Cond.fieldLink RX2 21 (q.2.1 1).1 (q.2.1 1).2.1 (q.2.1 1).2.2.1 ∈ gw := fun q hq => by obtain rfl : q = (RX2, TX2, 9) := (Option.some.inj hq).symm; exact gi 141 _ (by decide +kernel) rfl
theorem fX5_85 : FLK RX5 85 2 1 := ⟨clk2, by decide, fun q hq => by obtain rfl : q = (RX2, TX2, 9) := (Option.some.inj hq).symm; exact ⟨by decide, Or.inr ⟨"SpreadDesk", by decide +kernel⟩⟩⟩
theorem fX2_25 : FLK RX2 25 2 2 := ⟨clk2, by decide, fun q hq => by obtain rfl : q = (RX2, TX2, 9) := (Option.some.inj hq).symm; exact ⟨by decide, Or.inl (gi 143 _ (by decide +kernel) rfl)⟩⟩
theorem gX2_25 : ∀ q : vw_C, cls8[2]? = some q → Cond.fieldLink RX2 25 (q.2.1 2).1 (q.2.1 2).2.1 (q.2.1 2).2.2.1 ∈ gw := fun q hq => by obtain rfl : q = (RX2, TX2, 9) := (Option.some.inj hq).symm; exact gi 143 _ (by decide +kernel) rfl
theorem fX2_29 : FLK RX2 29 2 3 := ⟨clk2, by decide, fun q hq => by obtain rfl : q = (RX2, TX2, 9) := (Option.some.inj hq).symm; exact ⟨by decide, Or.inl (gi 144 _ (by decide +kernel) rfl)⟩⟩
theorem fX2_43 : FLK RX2 43 2 4 := ⟨clk2, by decide, fun q hq => by obtain rfl : q = (RX2, TX2, 9) := (Option.some.inj hq).symm; exact ⟨by decide, Or.inl (gi 145 _ (by decide +kernel) rfl)⟩⟩
theorem fX2_50 : FLK RX2 50 2 5 := ⟨clk2, by decide, fun q hq => by obtain rfl : q = (RX2, TX2, 9) := (Option.some.inj hq).symm; exact ⟨by decide, Or.inl (gi 146 _ (by decide +kernel) rfl)⟩⟩
theorem fX2_37 : FLK RX2 37 2 6 := ⟨clk2, by decide, fun q hq => by obtain rfl : q = (RX2, TX2, 9) := (Option.some.inj hq).symm; exact ⟨by decide, Or.inl (gi 147 _ (by decide +kernel) rfl)⟩⟩
theorem fX2_73 : FLK RX2 73 2 7 := ⟨clk2, by decide, fun q hq => by obtain rfl : q = (RX2, TX2, 9) := (Option.some.inj hq).symm; exact ⟨by decide, Or.inl (gi 148 _ (by decide +kernel) rfl)⟩⟩
theorem fX2_87 : FLK RX2 87 2 8 := ⟨clk2, by decide, fun q hq => by obtain rfl : q = (RX2, TX2, 9) := (Option.some.inj hq).symm; exact ⟨by decide, Or.inl (gi 149 _ (by decide +kernel) rfl)⟩⟩
theorem fX1_9 : FLK RX1 9 1 0 := ⟨clk1, by decide, fun q hq => by obtain rfl : q = (RX1, TX1, 4) := (Option.some.inj hq).symm; exact ⟨by decide, Or.inl (gi 175 _ (by decide +kernel) rfl)⟩⟩
theorem gX1_9 : ∀ q : vw_C, cls8[1]? = some q → Cond.fieldLink RX1 9 (q.2.1 0).1 (q.2.1 0).2.1 (q.2.1 0).2.2.1 ∈ gw := fun q hq => by obtain rfl : q = (RX1, TX1, 4) := (Option.some.inj hq).symm; exact gi 175 _ (by decide +kernel) rfl
theorem fX1_15 : FLK RX1 15 1 1 := ⟨clk1, by decide, fun q hq => by obtain rfl : q = (RX1, TX1, 4) := (Option.some.inj hq).symm; exact ⟨by decide, Or.inl (gi 176 _ (by decide +kernel) rfl)⟩⟩
theorem gX1_15 : ∀ q : vw_C, cls8[1]? = some q → Cond.fieldLink RX1 15 (q.2.1 1).1 (q.2.1 1).2.1 (q.2.1 1).2.2.1 ∈ gw := fun q hq => by obtain rfl : q = (RX1, TX1, 4) := (Option.some.inj hq).symm; exact gi 176 _ (by decide +kernel) rfl
theorem fX1_18 : FLK RX1 18 1 2 := ⟨clk1, by decide, fun q hq => by obtain rfl : q = (RX1, TX1, 4) := (Option.some.inj hq).symm; exact ⟨by decide, Or.inl (gi 177 _ (by decide +kernel) rfl)⟩⟩
theorem gX1_18 : ∀ q : vw_C, cls8[1]? = some q → Cond.fieldLink RX1 18 (q.2.1 2).1 (q.2.1 2).2.1 (q.2.1 2).2.2.1 ∈ gw := fun q hq => by obtain rfl : q = (RX1, TX1, 4) := (Option.some.inj hq).symm; exact gi 177 _ (by decide +kernel) rfl
theorem fX1_21 : FLK RX1 21 1 3 := ⟨clk1, by decide, fun q hq => by obtain rfl : q = (RX1, TX1, 4) := (Option.some.inj hq).symm; exact ⟨by decide, Or.inl (gi 178 _ (by decide +kernel) rfl)⟩⟩
theorem fX3_9 : FLK RX3 9 3 0 := ⟨clk3, by decide, fun q hq => by obtain rfl : q = (RX3, TX3, 6) := (Option.some.inj hq).symm; exact ⟨by decide, Or.inl (gi 194 _ (by decide +kernel) rfl)⟩⟩
theorem gX3_9 : ∀ q : vw_C, cls8[3]? = some q → Cond.fieldLink RX3 9 (q.2.1 0).1 (q.2.1 0).2.1 (q.2.1 0).2.2.1 ∈ gw := fun q hq => by obtain rfl : q = (RX3, TX3, 6) := (Option.some.inj hq).symm; exact gi 194 _ (by decide +kernel) rfl
theorem fX3_15 : FLK RX3 15 3 1 := ⟨clk3, by decide, fun q hq => by obtain rfl : q = (RX3, TX3, 6) := (Option.some.inj hq).symm; exact ⟨by decide, Or.inl (gi 195 _ (by decide +kernel) rfl)⟩⟩
theorem gX3_15 : ∀ q : vw_C, cls8[3]? = some q → Cond.fieldLink RX3 15 (q.2.1 1).1 (q.2.1 1).2.1 (q.2.1 1).2.2.1 ∈ gw := fun q hq => by obtain rfl : q = (RX3, TX3, 6) := (Option.some.inj hq).symm; exact gi 195 _ (by decide +kernel) rfl
theorem fX3_19 : FLK RX3 19 3 2 := ⟨clk3, by decide, fun q hq => by obtain rfl : q = (RX3, TX3, 6) := (Option.some.inj hq).symm; exact ⟨by decide, Or.inl (gi 196 _ (by decide +kernel) rfl)⟩⟩
theorem gX3_19 : ∀ q : vw_C, cls8[3]? = some q → Cond.fieldLink RX3 19 (q.2.1 2).1 (q.2.1 2).2.1 (q.2.1 2).2.2.1 ∈ gw := fun q hq => by obtain rfl : q = (RX3, TX3, 6) := (Option.some.inj hq).symm; exact gi 196 _ (by decide +kernel) rfl
theorem fX3_23 : FLK RX3 23 3 3 := ⟨clk3, by decide, fun q hq => by obtain rfl : q = (RX3, TX3, 6) := (Option.some.inj hq).symm; exact ⟨by decide, Or.inl (gi 197 _ (by decide +kernel) rfl)⟩⟩
theorem gX3_23 : ∀ q : vw_C, cls8[3]? = some q → Cond.fieldLink RX3 23 (q.2.1 3).1 (q.2.1 3).2.1 (q.2.1 3).2.2.1 ∈ gw := fun q hq => by obtain rfl : q = (RX3, TX3, 6) := (Option.some.inj hq).symm; exact gi 197 _ (by decide +kernel) rfl
theorem fX3_26 : FLK RX3 26 3 4 := ⟨clk3, by decide, fun q hq => by obtain rfl : q = (RX3, TX3, 6) := (Option.some.inj hq).symm; exact ⟨by decide, Or.inl (gi 198 _ (by decide +kernel) rfl)⟩⟩
theorem gX3_26 : ∀ q : vw_C, cls8[3]? = some q → Cond.fieldLink RX3 26 (q.2.1 4).1 (q.2.1 4).2.1 (q.2.1 4).2.2.1 ∈ gw := fun q hq => by obtain rfl : q = (RX3, TX3, 6) := (Option.some.inj hq).symm; exact gi 198 _ (by decide +kernel) rfl
theorem fX3_29 : FLK RX3 29 3 5 := ⟨clk3, by decide, fun q hq => by obtain rfl : q = (RX3, TX3, 6) := (Option.some.inj hq).symm; exact ⟨by decide, Or.inl (gi 199 _ (by decide +kernel) rfl)⟩⟩
theorem gX3_29 : ∀ q : vw_C, cls8[3]? = some q → Cond.fieldLink RX3 29 (q.2.1 5).1 (q.2.1 5).2.1 (q.2.1 5).2.2.1 ∈ gw := fun q hq => by obtain rfl : q = (RX3, TX3, 6) := (Option.some.inj hq).symm; exact gi 199 _ (by decide +kernel) rfl
theorem fX5_12 : FLK RX5 12 5 0 := ⟨clk5, by decide, fun q hq => by obtain rfl : q = (RX5, TX5, 14) := (Option.some.inj hq).symm; exact ⟨by decide, Or.inl (gi 214 _ (by decide +kernel) rfl)⟩⟩
theorem gX5_12 : ∀ q : vw_C, cls8[5]? = some q → Cond.fieldLink RX5 12 (q.2.1 0).1 (q.2.1 0).2.1 (q.2.1 0).2.2.1 ∈ gw := fun q hq => by obtain rfl : q = (RX5, TX5, 14) := (Option.some.inj hq).symm; exact gi 214 _ (by decide +kernel) rfl
theorem fX5_19 : FLK RX5 19 5 1 := ⟨clk5, by decide, fun q hq => by obtain rfl : q = (RX5, TX5, 14) := (Option.some.inj hq).symm; exact ⟨by decide, Or.inl (gi 215 _ (by decide +kernel) rfl)⟩⟩
theorem gX5_19 : ∀ q : vw_C, cls8[5]? = some q → Cond.fieldLink RX5 19 (q.2.1 1).1 (q.2.1 1).2.1 (q.2.1 1).2.2.1 ∈ gw := fun q hq => by obtain rfl : q = (RX5, TX5, 14) := (Option.some.inj hq).symm; exact gi 215 _ (by decide +kernel) rfl
theorem fX5_26 : FLK RX5 26 5 2 := ⟨clk5, by decide, fun q hq => by obtain rfl : q = (RX5, TX5, 14) := (Option.some.inj hq).symm; exact ⟨by decide, Or.inl (gi 216 _ (by decide +kernel) rfl)⟩⟩
theorem gX5_26 : ∀ q : vw_C, cls8[5]? = some q → Cond.fieldLink RX5 26 (q.2.1 2).1 (q.2.1 2).2.1 (q.2.1 2).2.2.1 ∈ gw := fun q hq => by obtain rfl : q = (RX5, TX5, 14) := (Option.some.inj hq).symm; exact gi 216 _ (by decide +kernel) rfl
theorem fX5_33 : FLK RX5 33 5 3 := ⟨clk5, by decide, fun q hq => by obtain rfl : q = (RX5, TX5, 14) := (Option.some.inj hq).symm; exact ⟨by decide, Or.inl (gi 217 _ (by decide +kernel) rfl)⟩⟩
theorem gX5_33 : ∀ q : vw_C, cls8[5]? = some q → Cond.fieldLink RX5 33 (q.2.1 3).1 (q.2.1 3).2.1 (q.2.1 3).2.2.1 ∈ gw := fun q hq => by obtain rfl : q = (RX5, TX5, 14) := (Option.some.inj hq).symm; exact gi 217 _ (by decide +kernel) rfl
theorem fX5_42 : FLK RX5 42 5 4 := ⟨clk5, by decide, fun q hq => by obtain rfl : q = (RX5, TX5, 14) := (Option.some.inj hq).symm; exact ⟨by decide, Or.inl (gi 218 _ (by decide +kernel) rfl)⟩⟩
theorem gX5_42 : ∀ q : vw_C, cls8[5]? = some q → Cond.fieldLink RX5 42 (q.2.1 4).1 (q.2.1 4).2.1 (q.2.1 4).2.2.1 ∈ gw := fun q hq => by obtain rfl : q = (RX5, TX5, 14) := (Option.some.inj hq).symm; exact gi 218 _ (by decide +kernel) rfl
theorem fX5_46 : FLK RX5 46 5 5 := ⟨clk5, by decide, fun q hq => by obtain rfl : q = (RX5, TX5, 14) := (Option.some.inj hq).symm; exact ⟨by decide, Or.inl (gi 219 _ (by decide +kernel) rfl)⟩⟩
theorem gX5_46 : ∀ q : vw_C, cls8[5]? = some q → Cond.fieldLink RX5 46 (q.2.1 5).1 (q.2.1 5).2.1 (q.2.1 5).2.2.1 ∈ gw := fun q hq => by obtain rfl : q = (RX5, TX5, 14) := (Option.some.inj hq).symm; exact gi 219 _ (by decide +kernel) rfl
theorem fX5_49 : FLK RX5 49 5 6 := ⟨clk5, by decide, fun q hq => by obtain rfl : q = (RX5, TX5, 14) := (Option.some.inj hq).symm; exact ⟨by decide, Or.inl (gi 220 _ (by decide +kernel) rfl)⟩⟩
theorem gX5_49 : ∀ q : vw_C, cls8[5]? = some q → Cond.fieldLink RX5 49 (q.2.1 6).1 (q.2.1 6).2.1 (q.2.1 6).2.2.1 ∈ gw := fun q hq => by obtain rfl : q = (RX5, TX5, 14) := (Option.some.inj hq).symm; exact gi 220 _ (by decide +kernel) rfl
theorem fX5_96 : FLK RX5 96 5 7 := ⟨clk5, by decide, fun q hq => by obtain rfl : q = (RX5, TX5, 14) := (Option.some.inj hq).symm; exact ⟨by decide, Or.inl (gi 221 _ (by decide +kernel) rfl)⟩⟩
theorem fX5_100 : FLK RX5 100 5 8 := ⟨clk5, by decide, fun q hq => by obtain rfl : q = (RX5, TX5, 14) := (Option.some.inj hq).symm; exact ⟨by decide, Or.inl (gi 222 _ (by decide +kernel) rfl)⟩⟩
theorem fX5_52 : FLK RX5 52 5 9 := ⟨clk5, by decide, fun q hq => by obtain rfl : q = (RX5, TX5, 14) := (Option.some.inj hq).symm; exact ⟨by decide, Or.inl (gi 223 _ (by decide +kernel) rfl)⟩⟩
theorem gX5_52 : ∀ q : vw_C, cls8[5]? = some q → Cond.fieldLink RX5 52 (q.2.1 9).1 (q.2.1 9).2.1 (q.2.1 9).2.2.1 ∈ gw := fun q hq => by obtain rfl : q = (RX5, TX5, 14) := (Option.some.inj hq).symm; exact gi 223 _ (by decide +kernel) rfl
theorem fX5_56 : FLK RX5 56 5 10 := ⟨clk5, by decide, fun q hq => by obtain rfl : q = (RX5, TX5, 14) := (Option.some.inj hq).symm; exact ⟨by decide, Or.inl (gi 224 _ (by decide +kernel) rfl)⟩⟩
theorem gX5_56 : ∀ q : vw_C, cls8[5]? = some q → Cond.fieldLink RX5 56 (q.2.1 10).1 (q.2.1 10).2.1 (q.2.1 10).2.2.1 ∈ gw := fun q hq => by obtain rfl : q = (RX5, TX5, 14) := (Option.some.inj hq).symm; exact gi 224 _ (by decide +kernel) rfl
theorem fX5_92 : FLK RX5 92 5 11 := ⟨clk5, by decide, fun q hq => by obtain rfl : q = (RX5, TX5, 14) := (Option.some.inj hq).symm; exact ⟨by decide, Or.inl (gi 225 _ (by decide +kernel) rfl)⟩⟩
theorem fX5_60 : FLK RX5 60 5 12 := ⟨clk5, by decide, fun q hq => by obtain rfl : q = (RX5, TX5, 14) := (Option.some.inj hq).symm; exact ⟨by decide, Or.inl (gi 226 _ (by decide +kernel) rfl)⟩⟩
theorem gX5_60 : ∀ q : vw_C, cls8[5]? = some q → Cond.fieldLink RX5 60 (q.2.1 12).1 (q.2.1 12).2.1 (q.2.1 12).2.2.1 ∈ gw := fun q hq => by obtain rfl : q = (RX5, TX5, 14) := (Option.some.inj hq).symm; exact gi 226 _ (by decide +kernel) rfl
theorem fX5_63 : FLK RX5 63 5 13 := ⟨clk5, by decide, fun q hq => by obtain rfl : q = (RX5, TX5, 14) := (Option.some.inj hq).symm; exact ⟨by decide, Or.inl (gi 227 _ (by decide +kernel) rfl)⟩⟩
theorem gX5_63 : ∀ q : vw_C, cls8[5]? = some q → Cond.fieldLink RX5 63 (q.2.1 13).1 (q.2.1 13).2.1 (q.2.1 13).2.2.1 ∈ gw := fun q hq => by obtain rfl : q = (RX5, TX5, 14) := (Option.some.inj hq).symm; exact gi 227 _ (by decide +kernel) rfl
theorem fX6_93 : FLK RX6 93 6 0 := ⟨clk6, by decide, fun q hq => by obtain rfl : q = (RX6, TX6, 40) := (Option.some.inj hq).symm; exact ⟨by decide, Or.inl (gi 659 _ (by decide +kernel) rfl)⟩⟩
theorem fX6_7 : FLK RX6 7 6 1 := ⟨clk6, by decide, fun q hq => by obtain rfl : q = (RX6, TX6, 40) := (Option.some.inj hq).symm; exact ⟨by decide, Or.inl (gi 660 _ (by decide +kernel) rfl)⟩⟩
theorem gX6_7 : ∀ q : vw_C, cls8[6]? = some q → Cond.fieldLink RX6 7 (q.2.1 1).1 (q.2.1 1).2.1 (q.2.1 1).2.2.1 ∈ gw := fun q hq => by obtain rfl : q = (RX6, TX6, 40) := (Option.some.inj hq).symm; exact gi 660 _ (by decide +kernel) rfl
theorem fX6_101 : FLK RX6 101 6 2 := ⟨clk6, by decide, fun q hq => by obtain rfl : q = (RX6, TX6, 40) := (Option.some.inj hq).symm; exact ⟨by decide, Or.inl (gi 661 _ (by decide +kernel) rfl)⟩⟩
theorem fX6_104 : FLK RX6 104 6 3 := ⟨clk6, by decide, fun q hq => by obtain rfl : q = (RX6, TX6, 40) := (Option.some.inj hq).symm; exact ⟨by decide, Or.inl (gi 662 _ (by decide +kernel) rfl)⟩⟩
theorem fX6_114 : FLK RX6 114 6 4 := ⟨clk6, by decide, fun q hq => by obtain rfl : q = (RX6, TX6, 40) := (Option.some.inj hq).symm; exact ⟨by decide, Or.inl (gi 663 _ (by decide +kernel) rfl)⟩⟩
theorem fX6_111 : FLK RX6 111 6 5 := ⟨clk6, by decide, fun q hq => by obtain rfl : q = (RX6, TX6, 40) := (Option.some.inj hq).symm; exact ⟨by decide, Or.inl (gi 664 _ (by decide +kernel) rfl)⟩⟩
theorem fX6_117 : FLK RX6 117 6 6 := ⟨clk6, by decide, fun q hq => by obtain rfl : q = (RX6, TX6, 40) := (Option.some.inj hq).symm; exact ⟨by decide, Or.inl (gi 665 _ (by decide +kernel) rfl)⟩⟩
theorem fX6_124 : FLK RX6 124 6 7 := ⟨clk6, by decide, fun q hq => by obtain rfl : q = (RX6, TX6, 40) := (Option.some.inj hq).symm; exact ⟨by decide, Or.inl (gi 666 _ (by decide +kernel) rfl)⟩⟩
theorem fX6_199 : FLK RX6 199 6 8 := ⟨clk6, by decide, fun q hq => by obtain rfl : q = (RX6, TX6, 40) := (Option.some.inj hq).symm; exact ⟨by decide, Or.inl (gi 667 _ (by decide +kernel) rfl)⟩⟩
theorem fX6_13 : FLK RX6 13 6 9 := ⟨clk6, by decide, fun q hq => by obtain rfl : q = (RX6, TX6, 40) := (Option.some.inj hq).symm; exact ⟨by decide, Or.inl (gi 668 _ (by decide +kernel) rfl)⟩⟩
theorem gX6_13 : ∀ q : vw_C, cls8[6]? = some q → Cond.fieldLink RX6 13 (q.2.1 9).1 (q.2.1 9).2.1 (q.2.1 9).2.2.1 ∈ gw := fun q hq => by obtain rfl : q = (RX6, TX6, 40) := (Option.some.inj hq).symm; exact gi 668 _ (by decide +kernel) rfl
theorem fX6_16 : FLK RX6 16 6 10 := ⟨clk6, by decide, fun q hq => by obtain rfl : q = (RX6, TX6, 40) := (Option.some.inj hq).symm; exact ⟨by decide, Or.inl (gi 669 _ (by decide +kernel) rfl)⟩⟩
theorem gX6_16 : ∀ q : vw_C, cls8[6]? = some q → Cond.fieldLink RX6 16 (q.2.1 10).1 (q.2.1 10).2.1 (q.2.1 10).2.2.1 ∈ gw := fun q hq => by obtain rfl : q = (RX6, TX6, 40) := (Option.some.inj hq).symm; exact gi 669 _ (by decide +kernel) rfl
theorem fX6_19 : FLK RX6 19 6 11 := ⟨clk6, by decide, fun q hq => by obtain rfl : q = (RX6, TX6, 40) := (Option.some.inj hq).symm; exact ⟨by decide, Or.inl (gi 670 _ (by decide +kernel) rfl)⟩⟩
theorem gX6_19 : ∀ q : vw_C, cls8[6]? = some q → Cond.fieldLink RX6 19 (q.2.1 11).1 (q.2.1 11).2.1 (q.2.1 11).2.2.1 ∈ gw := fun q hq => by obtain rfl : q = (RX6, TX6, 40) := (Option.some.inj hq).symm; exact gi 670 _ (by decide +kernel) rfl
theorem fX6_22 : FLK RX6 22 6 12 := ⟨clk6, by decide, fun q hq => by obtain rfl : q = (RX6, TX6, 40) := (Option.some.inj hq).symm; exact ⟨by decide, Or.inl (gi 671 _ (by decide +kernel) rfl)⟩⟩
theorem gX6_22 : ∀ q : vw_C, cls8[6]? = some q → Cond.fieldLink RX6 22 (q.2.1 12).1 (q.2.1 12).2.1 (q.2.1 12).2.2.1 ∈ gw := fun q hq => by obtain rfl : q = (RX6, TX6, 40) := (Option.some.inj hq).symm; exact gi 671 _ (by decide +kernel) rfl
theorem fX6_25 : FLK RX6 25 6 13 := ⟨clk6, by decide, fun q hq => by obtain rfl : q = (RX6, TX6, 40) := (Option.some.inj hq).symm; exact ⟨by decide, Or.inl (gi 672 _ (by decide +kernel) rfl)⟩⟩
theorem gX6_25 : ∀ q : vw_C, cls8[6]? = some q → Cond.fieldLink RX6 25 (q.2.1 13).1 (q.2.1 13).2.1 (q.2.1 13).2.2.1 ∈ gw := fun q hq => by obtain rfl : q = (RX6, TX6, 40) := (Option.some.inj hq).symm; exact gi 672 _ (by decide +kernel) rfl
theorem fX6_145 : FLK RX6 145 6 14 := ⟨clk6, by decide, fun q hq => by obtain rfl : q = (RX6, TX6, 40) := (Option.some.inj hq).symm; exact ⟨by decide, Or.inl (gi 673 _ (by decide +kernel) rfl)⟩⟩
theorem fX6_28 : FLK RX6 28 6 15 := ⟨clk6, by decide, fun q hq => by obtain rfl : q = (RX6, TX6, 40) := (Option.some.inj hq).symm; exact ⟨by decide, Or.inl (gi 674 _ (by decide +kernel) rfl)⟩⟩
theorem gX6_28 : ∀ q : vw_C, cls8[6]? = some q → Cond.fieldLink RX6 28 (q.2.1 15).1 (q.2.1 15).2.1 (q.2.1 15).2.2.1 ∈ gw := fun q hq => by obtain rfl : q = (RX6, TX6, 40) := (Option.some.inj hq).symm; exact gi 674 _ (by decide +kernel) rfl
theorem fX6_31 : FLK RX6 31 6 16 := ⟨clk6, by decide, fun q hq => by obtain rfl : q = (RX6, TX6, 40) := (Option.some.inj hq).symm; exact ⟨by decide, Or.inl (gi 675 _ (by decide +kernel) rfl)⟩⟩
theorem gX6_31 : ∀ q : vw_C, cls8[6]? = some q → Cond.fieldLink RX6 31 (q.2.1 16).1 (q.2.1 16).2.1 (q.2.1 16).2.2.1 ∈ gw := fun q hq => by obtain rfl : q = (RX6, TX6, 40) := (Option.some.inj hq).symm; exact gi 675 _ (by decide +kernel) rfl
theorem fX6_34 : FLK RX6 34 6 17 := ⟨clk6, by decide, fun q hq => by obtain rfl : q = (RX6, TX6, 40) := (Option.some.inj hq).symm; exact ⟨by decide, Or.inl (gi 676 _ (by decide +kernel) rfl)⟩⟩
theorem gX6_34 : ∀ q : vw_C, cls8[6]? = some q → Cond.fieldLink RX6 34 (q.2.1 17).1 (q.2.1 17).2.1 (q.2.1 17).2.2.1 ∈ gw := fun q hq => by obtain rfl : q = (RX6, TX6, 40) := (Option.some.inj hq).symm; exact gi 676 _ (by decide +kernel) rfl
theorem fX6_37 : FLK RX6 37 6 18 := ⟨clk6, by decide, fun q hq => by obtain rfl : q = (RX6, TX6, 40) := (Option.some.inj hq).symm; exact ⟨by decide, Or.inl (gi 677 _ (by decide +kernel) rfl)⟩⟩
theorem gX6_37 : ∀ q : vw_C, cls8[6]? = some q → Cond.fieldLink RX6 37 (q.2.1 18).1 (q.2.1 18).2.1 (q.2.1 18).2.2.1 ∈ gw := fun q hq => by obtain rfl : q = (RX6, TX6, 40) := (Option.some.inj hq).symm; exact gi 677 _ (by decide +kernel) rfl
theorem fX6_40 : FLK RX6 40 6 19 := ⟨clk6, by decide, fun q hq => by obtain rfl : q = (RX6, TX6, 40) := (Option.some.inj hq).symm; exact ⟨by decide, Or.inl (gi 678 _ (by decide +kernel) rfl)⟩⟩
theorem gX6_40 : ∀ q : vw_C, cls8[6]? = some q → Cond.fieldLink RX6 40 (q.2.1 19).1 (q.2.1 19).2.1 (q.2.1 19).2.2.1 ∈ gw := fun q hq => by obtain rfl : q = (RX6, TX6, 40) := (Option.some.inj hq).symm; exact gi 678 _ (by decide +kernel) rfl
theorem fX6_43 : FLK RX6 43 6 20 := ⟨clk6, by decide, fun q hq => by obtain rfl : q = (RX6, TX6, 40) := (Option.some.inj hq).symm; exact ⟨by decide, Or.inl (gi 679 _ (by decide +kernel) rfl)⟩⟩
theorem gX6_43 : ∀ q : vw_C, cls8[6]? = some q → Cond.fieldLink RX6 43 (q.2.1 20).1 (q.2.1 20).2.1 (q.2.1 20).2.2.1 ∈ gw := fun q hq => by obtain rfl : q = (RX6, TX6, 40) := (Option.some.inj hq).symm; exact gi 679 _ (by decide +kernel) rfl
theorem fX6_46 : FLK RX6 46 6 21 := ⟨clk6, by decide, fun q hq => by obtain rfl : q = (RX6, TX6, 40) := (Option.some.inj hq).symm; exact ⟨by decide, Or.inl (gi 680 _ (by decide +kernel) rfl)⟩⟩
theorem gX6_46 : ∀ q : vw_C, cls8[6]? = some q → Cond.fieldLink RX6 46 (q.2.1 21).1 (q.2.1 21).2.1 (q.2.1 21).2.2.1 ∈ gw := fun q hq => by obtain rfl : q = (RX6, TX6, 40) := (Option.some.inj hq).symm; exact gi 680 _ (by decide +kernel) rfl
theorem fX6_49 : FLK RX6 49 6 22 := ⟨clk6, by decide, fun q hq => by obtain rfl : q = (RX6, TX6, 40) := (Option.some.inj hq).symm; exact ⟨by decide, Or.inl (gi 681 _ (by decide +kernel) rfl)⟩⟩
theorem gX6_49 : ∀ q : vw_C, cls8[6]? = some q → Cond.fieldLink RX6 49 (q.2.1 22).1 (q.2.1 22).2.1 (q.2.1 22).2.2.1 ∈ gw := fun q hq => by obtain rfl : q = (RX6, TX6, 40) := (Option.some.inj hq).symm; exact gi 681 _ (by decide +kernel) rfl
theorem fX6_205 : FLK RX6 205 6 23 := ⟨clk6, by decide, fun q hq => by obtain rfl : q = (RX6, TX6, 40) := (Option.some.inj hq).symm; exact ⟨by decide, Or.inl (gi 682 _ (by decide +kernel) rfl)⟩⟩
theorem fX6_52 : FLK RX6 52 6 24 := ⟨clk6, by decide, fun q hq => by obtain rfl : q = (RX6, TX6, 40) := (Option.some.inj hq).symm; exact ⟨by decide, Or.inl (gi 683 _ (by decide +kernel) rfl)⟩⟩
theorem gX6_52 : ∀ q : vw_C, cls8[6]? = some q → Cond.fieldLink RX6 52 (q.2.1 24).1 (q.2.1 24).2.1 (q.2.1 24).2.2.1 ∈ gw := fun q hq => by obtain rfl : q = (RX6, TX6, 40) := (Option.some.inj hq).symm; exact gi 683 _ (by decide +kernel) rfl
theorem fX6_55 : FLK RX6 55 6 25 := ⟨clk6, by decide, fun q hq => by obtain rfl : q = (RX6, TX6, 40) := (Option.some.inj hq).symm; exact ⟨by decide, Or.inl (gi 684 _ (by decide +kernel) rfl)⟩⟩
theorem gX6_55 : ∀ q : vw_C, cls8[6]? = some q → Cond.fieldLink RX6 55 (q.2.1 25).1 (q.2.1 25).2.1 (q.2.1 25).2.2.1 ∈ gw := fun q hq => by obtain rfl : q = (RX6, TX6, 40) := (Option.some.inj hq).symm; exact gi 684 _ (by decide +kernel) rfl
theorem fX6_59 : FLK RX6 59 6 26 := ⟨clk6, by decide, fun q hq => by obtain rfl : q = (RX6, TX6, 40) := (Option.some.inj hq).symm; exact ⟨by decide, Or.inl (gi 685 _ (by decide +kernel) rfl)⟩⟩
theorem gX6_59 : ∀ q : vw_C, cls8[6]? = some q → Cond.fieldLink RX6 59 (q.2.1 26).1 (q.2.1 26).2.1 (q.2.1 26).2.2.1 ∈ gw := fun q hq => by obtain rfl : q = (RX6, TX6, 40) := (Option.some.inj hq).symm; exact gi 685 _ (by decide +kernel) rfl
theorem fX6_62 : FLK RX6 62 6 27 := ⟨clk6, by decide, fun q hq => by obtain rfl : q = (RX6, TX6, 40) := (Option.some.inj hq).symm; exact ⟨by decide, Or.inl (gi 686 _ (by decide +kernel) rfl)⟩⟩
theorem gX6_62 : ∀ q : vw_C, cls8[6]? = some q → Cond.fieldLink RX6 62 (q.2.1 27).1 (q.2.1 27).2.1 (q.2.1 27).2.2.1 ∈ gw := fun q hq => by obtain rfl : q = (RX6, TX6, 40) := (Option.some.inj hq).symm; exact gi 686 _ (by decide +kernel) rfl
theorem fX6_202 : FLK RX6 202 6 28 := ⟨clk6, by decide, fun q hq => by obtain rfl : q = (RX6, TX6, 40) := (Option.some.inj hq).symm; exact ⟨by decide, Or.inl (gi 687 _ (by decide +kernel) rfl)⟩⟩
theorem fX6_66 : FLK RX6 66 6 29 := ⟨clk6, by decide, fun q hq => by obtain rfl : q = (RX6, TX6, 40) := (Option.some.inj hq).symm; exact ⟨by decide, Or.inl (gi 688 _ (by decide +kernel) rfl)⟩⟩
theorem gX6_66 : ∀ q : vw_C, cls8[6]? = some q → Cond.fieldLink RX6 66 (q.2.1 29).1 (q.2.1 29).2.1 (q.2.1 29).2.2.1 ∈ gw := fun q hq => by obtain rfl : q = (RX6, TX6, 40) := (Option.some.inj hq).symm; exact gi 688 _ (by decide +kernel) rfl
theorem fX6_151 : FLK RX6 151 6 30 := ⟨clk6, by decide, fun q hq => by obtain rfl : q = (RX6, TX6, 40) := (Option.some.inj hq).symm; exact ⟨by decide, Or.inl (gi 689 _ (by decide +kernel) rfl)⟩⟩
theorem fX6_69 : FLK RX6 69 6 31 := ⟨clk6, by decide, fun q hq => by obtain rfl : q = (RX6, TX6, 40) := (Option.some.inj hq).symm; exact ⟨by decide, Or.inl (gi 690 _ (by decide +kernel) rfl)⟩⟩
theorem gX6_69 : ∀ q : vw_C, cls8[6]? = some q → Cond.fieldLink RX6 69 (q.2.1 31).1 (q.2.1 31).2.1 (q.2.1 31).2.2.1 ∈ gw := fun q hq => by obtain rfl : q = (RX6, TX6, 40) := (Option.some.inj hq).symm; exact gi 690 _ (by decide +kernel) rfl
theorem fX6_154 : FLK RX6 154 6 32 := ⟨clk6, by decide, fun q hq => by obtain rfl : q = (RX6, TX6, 40) := (Option.some.inj hq).symm; exact ⟨by decide, Or.inl (gi 691 _ (by decide +kernel) rfl)⟩⟩
theorem fX6_171 : FLK RX6 171 6 33 := ⟨clk6, by decide, fun q hq => by obtain rfl : q = (RX6, TX6, 40) := (Option.some.inj hq).symm; exact ⟨by decide, Or.inl (gi 692 _ (by decide +kernel) rfl)⟩⟩
theorem fX6_148 : FLK RX6 148 6 34 := ⟨clk6, by decide, fun q hq => by obtain rfl : q = (RX6, TX6, 40) := (Option.some.inj hq).symm; exact ⟨by decide, Or.inl (gi 693 _ (by decide +kernel) rfl)⟩⟩
theorem fX6_72 : FLK RX6 72 6 35 := ⟨clk6, by decide, fun q hq => by obtain rfl : q = (RX6, TX6, 40) := (Option.some.inj hq).symm; exact ⟨by decide, Or.inl (gi 694 _ (by decide +kernel) rfl)⟩⟩
theorem gX6_72 : ∀ q : vw_C, cls8[6]? = some q → Cond.fieldLink RX6 72 (q.2.1 35).1 (q.2.1 35).2.1 (q.2.1 35).2.2.1 ∈ gw := fun q hq => by obtain rfl : q = (RX6, TX6, 40) := (Option.some.inj hq).symm; exact gi 694 _ (by decide +kernel) rfl
theorem fX6_75 : FLK RX6 75 6 36 := ⟨clk6, by decide, fun q hq => by obtain rfl : q = (RX6, TX6, 40) := (Option.some.inj hq).symm; exact ⟨by decide, Or.inl (gi 695 _ (by decide +kernel) rfl)⟩⟩
theorem gX6_75 : ∀ q : vw_C, cls8[6]? = some q → Cond.fieldLink RX6 75 (q.2.1 36).1 (q.2.1 36).2.1 (q.2.1 36).2.2.1 ∈ gw := fun q hq => by obtain rfl : q = (RX6, TX6, 40) := (Option.some.inj hq).symm; exact gi 695 _ (by decide +kernel) rfl
theorem fX6_78 : FLK RX6 78 6 37 := ⟨clk6, by decide, fun q hq => by obtain rfl : q = (RX6, TX6, 40) := (Option.some.inj hq).symm; exact ⟨by decide, Or.inl (gi 696 _ (by decide +kernel) rfl)⟩⟩
theorem gX6_78 : ∀ q : vw_C, cls8[6]? = some q → Cond.fieldLink RX6 78 (q.2.1 37).1 (q.2.1 37).2.1 (q.2.1 37).2.2.1 ∈ gw := fun q hq => by obtain rfl : q = (RX6, TX6, 40) := (Option.some.inj hq).symm; exact gi 696 _ (by decide +kernel) rfl
theorem fX6_81 : FLK RX6 81 6 38 := ⟨clk6, by decide, fun q hq => by obtain rfl : q = (RX6, TX6, 40) := (Option.some.inj hq).symm; exact ⟨by decide, Or.inl (gi 697 _ (by decide +kernel) rfl)⟩⟩
theorem gX6_81 : ∀ q : vw_C, cls8[6]? = some q → Cond.fieldLink RX6 81 (q.2.1 38).1 (q.2.1 38).2.1 (q.2.1 38).2.2.1 ∈ gw := fun q hq => by obtain rfl : q = (RX6, TX6, 40) := (Option.some.inj hq).symm; exact gi 697 _ (by decide +kernel) rfl
theorem fX6_84 : FLK RX6 84 6 39 := ⟨clk6, by decide, fun q hq => by obtain rfl : q = (RX6, TX6, 40) := (Option.some.inj hq).symm; exact ⟨by decide, Or.inl (gi 698 _ (by decide +kernel) rfl)⟩⟩
theorem gX6_84 : ∀ q : vw_C, cls8[6]? = some q → Cond.fieldLink RX6 84 (q.2.1 39).1 (q.2.1 39).2.1 (q.2.1 39).2.2.1 ∈ gw := fun q hq => by obtain rfl : q = (RX6, TX6, 40) := (Option.some.inj hq).symm; exact gi 698 _ (by decide +kernel) rfl
theorem ff0_0 : ∀ q : vw_C, cls8[0]? = some q → (q.2.1 0).2.2.2 = true ∧ (q.2.1 0).1 = RX0 ∧ parseFieldDescriptor (q.2.1 0).2.2.1 = some (.array .int) := fun q hq => by obtain rfl : q = (RX0, TX0, 2) := (Option.some.inj hq).symm; exact ⟨rfl, rfl, by decide +kernel⟩
theorem ff0_1 : ∀ q : vw_C, cls8[0]? = some q → (q.2.1 1).2.2.2 = true ∧ (q.2.1 1).1 = RX0 ∧ parseFieldDescriptor (q.2.1 1).2.2.1 = some (.array .int) := fun q hq => by obtain rfl : q = (RX0, TX0, 2) := (Option.some.inj hq).symm; exact ⟨rfl, rfl, by decide +kernel⟩
theorem ff1_0 : ∀ q : vw_C, cls8[1]? = some q → (q.2.1 0).2.2.2 = true ∧ (q.2.1 0).1 = RX1 ∧ parseFieldDescriptor (q.2.1 0).2.2.1 = some (.array .int) := fun q hq => by obtain rfl : q = (RX1, TX1, 4) := (Option.some.inj hq).symm; exact ⟨rfl, rfl, by decide +kernel⟩
theorem ff1_1 : ∀ q : vw_C, cls8[1]? = some q → (q.2.1 1).2.2.2 = true ∧ (q.2.1 1).1 = RX1 ∧ parseFieldDescriptor (q.2.1 1).2.2.1 = some (.array .int) := fun q hq => by obtain rfl : q = (RX1, TX1, 4) := (Option.some.inj hq).symm; exact ⟨rfl, rfl, by decide +kernel⟩
theorem ff1_2 : ∀ q : vw_C, cls8[1]? = some q → (q.2.1 2).2.2.2 = true ∧ (q.2.1 2).1 = RX1 ∧ parseFieldDescriptor (q.2.1 2).2.2.1 = some (.array .int) := fun q hq => by obtain rfl : q = (RX1, TX1, 4) := (Option.some.inj hq).symm; exact ⟨rfl, rfl, by decide +kernel⟩
theorem nf1_3 : ∀ q : vw_C, cls8[1]? = some q → (q.2.1 3).2.2.2 = false ∧ parseFieldDescriptor (q.2.1 3).2.2.1 = some .int := fun q hq => by obtain rfl : q = (RX1, TX1, 4) := (Option.some.inj hq).symm; exact ⟨rfl, by decide +kernel⟩
theorem ff2_0 : ∀ q : vw_C, cls8[2]? = some q → (q.2.1 0).2.2.2 = true ∧ (q.2.1 0).1 = RX2 ∧ parseFieldDescriptor (q.2.1 0).2.2.1 = some (.object "SpreadDesk$Figures") := fun q hq => by obtain rfl : q = (RX2, TX2, 9) := (Option.some.inj hq).symm; exact ⟨rfl, rfl, by decide +kernel⟩
theorem ff2_1 : ∀ q : vw_C, cls8[2]? = some q → (q.2.1 1).2.2.2 = true ∧ (q.2.1 1).1 = RX2 ∧ parseFieldDescriptor (q.2.1 1).2.2.1 = some (.object "SpreadDesk$Tape") := fun q hq => by obtain rfl : q = (RX2, TX2, 9) := (Option.some.inj hq).symm; exact ⟨rfl, rfl, by decide +kernel⟩
theorem ff2_2 : ∀ q : vw_C, cls8[2]? = some q → (q.2.1 2).2.2.2 = true ∧ (q.2.1 2).1 = RX2 ∧ parseFieldDescriptor (q.2.1 2).2.2.1 = some (.array .int) := fun q hq => by obtain rfl : q = (RX2, TX2, 9) := (Option.some.inj hq).symm; exact ⟨rfl, rfl, by decide +kernel⟩
theorem nf2_3 : ∀ q : vw_C, cls8[2]? = some q → (q.2.1 3).2.2.2 = false ∧ parseFieldDescriptor (q.2.1 3).2.2.1 = some .int := fun q hq => by obtain rfl : q = (RX2, TX2, 9) := (Option.some.inj hq).symm; exact ⟨rfl, by decide +kernel⟩
theorem nf2_4 : ∀ q : vw_C, cls8[2]? = some q → (q.2.1 4).2.2.2 = false ∧ parseFieldDescriptor (q.2.1 4).2.2.1 = some .int := fun q hq => by obtain rfl : q = (RX2, TX2, 9) := (Option.some.inj hq).symm; exact ⟨rfl, by decide +kernel⟩
theorem nf2_5 : ∀ q : vw_C, cls8[2]? = some q → (q.2.1 5).2.2.2 = false ∧ parseFieldDescriptor (q.2.1 5).2.2.1 = some .int := fun q hq => by obtain rfl : q = (RX2, TX2, 9) := (Option.some.inj hq).symm; exact ⟨rfl, by decide +kernel⟩
theorem nf2_6 : ∀ q : vw_C, cls8[2]? = some q → (q.2.1 6).2.2.2 = false ∧ parseFieldDescriptor (q.2.1 6).2.2.1 = some .int := fun q hq => by obtain rfl : q = (RX2, TX2, 9) := (Option.some.inj hq).symm; exact ⟨rfl, by decide +kernel⟩
theorem nf2_7 : ∀ q : vw_C, cls8[2]? = some q → (q.2.1 7).2.2.2 = false ∧ parseFieldDescriptor (q.2.1 7).2.2.1 = some .int := fun q hq => by obtain rfl : q = (RX2, TX2, 9) := (Option.some.inj hq).symm; exact ⟨rfl, by decide +kernel⟩
theorem nf2_8 : ∀ q : vw_C, cls8[2]? = some q → (q.2.1 8).2.2.2 = false ∧ parseFieldDescriptor (q.2.1 8).2.2.1 = some .int := fun q hq => by obtain rfl : q = (RX2, TX2, 9) := (Option.some.inj hq).symm; exact ⟨rfl, by decide +kernel⟩
theorem ff3_0 : ∀ q : vw_C, cls8[3]? = some q → (q.2.1 0).2.2.2 = true ∧ (q.2.1 0).1 = RX3 ∧ parseFieldDescriptor (q.2.1 0).2.2.1 = some (.object "SpreadDesk$Tape") := fun q hq => by obtain rfl : q = (RX3, TX3, 6) := (Option.some.inj hq).symm; exact ⟨rfl, rfl, by decide +kernel⟩
theorem ff3_1 : ∀ q : vw_C, cls8[3]? = some q → (q.2.1 1).2.2.2 = true ∧ (q.2.1 1).1 = RX3 ∧ parseFieldDescriptor (q.2.1 1).2.2.1 = some (.object "SpreadDesk$Figures") := fun q hq => by obtain rfl : q = (RX3, TX3, 6) := (Option.some.inj hq).symm; exact ⟨rfl, rfl, by decide +kernel⟩
theorem ff3_2 : ∀ q : vw_C, cls8[3]? = some q → (q.2.1 2).2.2.2 = true ∧ (q.2.1 2).1 = RX3 ∧ parseFieldDescriptor (q.2.1 2).2.2.1 = some (.array .long) := fun q hq => by obtain rfl : q = (RX3, TX3, 6) := (Option.some.inj hq).symm; exact ⟨rfl, rfl, by decide +kernel⟩
theorem ff3_3 : ∀ q : vw_C, cls8[3]? = some q → (q.2.1 3).2.2.2 = true ∧ (q.2.1 3).1 = RX3 ∧ parseFieldDescriptor (q.2.1 3).2.2.1 = some (.array .long) := fun q hq => by obtain rfl : q = (RX3, TX3, 6) := (Option.some.inj hq).symm; exact ⟨rfl, rfl, by decide +kernel⟩
theorem ff3_4 : ∀ q : vw_C, cls8[3]? = some q → (q.2.1 4).2.2.2 = true ∧ (q.2.1 4).1 = RX3 ∧ parseFieldDescriptor (q.2.1 4).2.2.1 = some (.array .long) := fun q hq => by obtain rfl : q = (RX3, TX3, 6) := (Option.some.inj hq).symm; exact ⟨rfl, rfl, by decide +kernel⟩
theorem ff3_5 : ∀ q : vw_C, cls8[3]? = some q → (q.2.1 5).2.2.2 = true ∧ (q.2.1 5).1 = RX3 ∧ parseFieldDescriptor (q.2.1 5).2.2.1 = some (.array .long) := fun q hq => by obtain rfl : q = (RX3, TX3, 6) := (Option.some.inj hq).symm; exact ⟨rfl, rfl, by decide +kernel⟩
theorem ff4_0 : ∀ q : vw_C, cls8[4]? = some q → (q.2.1 0).2.2.2 = true ∧ (q.2.1 0).1 = RX4 ∧ parseFieldDescriptor (q.2.1 0).2.2.1 = some (.array .int) := fun q hq => by obtain rfl : q = (RX4, TX4, 8) := (Option.some.inj hq).symm; exact ⟨rfl, rfl, by decide +kernel⟩
theorem ff4_1 : ∀ q : vw_C, cls8[4]? = some q → (q.2.1 1).2.2.2 = true ∧ (q.2.1 1).1 = RX4 ∧ parseFieldDescriptor (q.2.1 1).2.2.1 = some (.array .int) := fun q hq => by obtain rfl : q = (RX4, TX4, 8) := (Option.some.inj hq).symm; exact ⟨rfl, rfl, by decide +kernel⟩
theorem ff4_2 : ∀ q : vw_C, cls8[4]? = some q → (q.2.1 2).2.2.2 = true ∧ (q.2.1 2).1 = RX4 ∧ parseFieldDescriptor (q.2.1 2).2.2.1 = some (.array .int) := fun q hq => by obtain rfl : q = (RX4, TX4, 8) := (Option.some.inj hq).symm; exact ⟨rfl, rfl, by decide +kernel⟩
theorem ff4_3 : ∀ q : vw_C, cls8[4]? = some q → (q.2.1 3).2.2.2 = true ∧ (q.2.1 3).1 = RX4 ∧ parseFieldDescriptor (q.2.1 3).2.2.1 = some (.array .int) := fun q hq => by obtain rfl : q = (RX4, TX4, 8) := (Option.some.inj hq).symm; exact ⟨rfl, rfl, by decide +kernel⟩
theorem ff4_4 : ∀ q : vw_C, cls8[4]? = some q → (q.2.1 4).2.2.2 = true ∧ (q.2.1 4).1 = RX4 ∧ parseFieldDescriptor (q.2.1 4).2.2.1 = some (.array .int) := fun q hq => by obtain rfl : q = (RX4, TX4, 8) := (Option.some.inj hq).symm; exact ⟨rfl, rfl, by decide +kernel⟩
theorem ff4_5 : ∀ q : vw_C, cls8[4]? = some q → (q.2.1 5).2.2.2 = true ∧ (q.2.1 5).1 = RX4 ∧ parseFieldDescriptor (q.2.1 5).2.2.1 = some (.array .int) := fun q hq => by obtain rfl : q = (RX4, TX4, 8) := (Option.some.inj hq).symm; exact ⟨rfl, rfl, by decide +kernel⟩
theorem nf4_6 : ∀ q : vw_C, cls8[4]? = some q → (q.2.1 6).2.2.2 = false ∧ parseFieldDescriptor (q.2.1 6).2.2.1 = some .int := fun q hq => by obtain rfl : q = (RX4, TX4, 8) := (Option.some.inj hq).symm; exact ⟨rfl, by decide +kernel⟩
theorem nf4_7 : ∀ q : vw_C, cls8[4]? = some q → (q.2.1 7).2.2.2 = false ∧ parseFieldDescriptor (q.2.1 7).2.2.1 = some .int := fun q hq => by obtain rfl : q = (RX4, TX4, 8) := (Option.some.inj hq).symm; exact ⟨rfl, by decide +kernel⟩
theorem ff5_0 : ∀ q : vw_C, cls8[5]? = some q → (q.2.1 0).2.2.2 = true ∧ (q.2.1 0).1 = RX5 ∧ parseFieldDescriptor (q.2.1 0).2.2.1 = some (.object "SpreadDesk$Figures") := fun q hq => by obtain rfl : q = (RX5, TX5, 14) := (Option.some.inj hq).symm; exact ⟨rfl, rfl, by decide +kernel⟩
theorem ff5_1 : ∀ q : vw_C, cls8[5]? = some q → (q.2.1 1).2.2.2 = true ∧ (q.2.1 1).1 = RX5 ∧ parseFieldDescriptor (q.2.1 1).2.2.1 = some (.object "SpreadDesk$Tape") := fun q hq => by obtain rfl : q = (RX5, TX5, 14) := (Option.some.inj hq).symm; exact ⟨rfl, rfl, by decide +kernel⟩
theorem ff5_2 : ∀ q : vw_C, cls8[5]? = some q → (q.2.1 2).2.2.2 = true ∧ (q.2.1 2).1 = RX5 ∧ parseFieldDescriptor (q.2.1 2).2.2.1 = some (.object "SpreadDesk$Reader") := fun q hq => by obtain rfl : q = (RX5, TX5, 14) := (Option.some.inj hq).symm; exact ⟨rfl, rfl, by decide +kernel⟩
theorem ff5_3 : ∀ q : vw_C, cls8[5]? = some q → (q.2.1 3).2.2.2 = true ∧ (q.2.1 3).1 = RX5 ∧ parseFieldDescriptor (q.2.1 3).2.2.1 = some (.object "SpreadDesk$Past") := fun q hq => by obtain rfl : q = (RX5, TX5, 14) := (Option.some.inj hq).symm; exact ⟨rfl, rfl, by decide +kernel⟩
theorem ff5_4 : ∀ q : vw_C, cls8[5]? = some q → (q.2.1 4).2.2.2 = true ∧ (q.2.1 4).1 = RX5 ∧ parseFieldDescriptor (q.2.1 4).2.2.1 = some (.object "SpreadDesk$Sweep") := fun q hq => by obtain rfl : q = (RX5, TX5, 14) := (Option.some.inj hq).symm; exact ⟨rfl, rfl, by decide +kernel⟩
theorem ff5_5 : ∀ q : vw_C, cls8[5]? = some q → (q.2.1 5).2.2.2 = true ∧ (q.2.1 5).1 = RX5 ∧ parseFieldDescriptor (q.2.1 5).2.2.1 = some (.object "SpreadDesk$Figures") := fun q hq => by obtain rfl : q = (RX5, TX5, 14) := (Option.some.inj hq).symm; exact ⟨rfl, rfl, by decide +kernel⟩
theorem ff5_6 : ∀ q : vw_C, cls8[5]? = some q → (q.2.1 6).2.2.2 = true ∧ (q.2.1 6).1 = RX5 ∧ parseFieldDescriptor (q.2.1 6).2.2.1 = some (.object "SpreadDesk$Figures") := fun q hq => by obtain rfl : q = (RX5, TX5, 14) := (Option.some.inj hq).symm; exact ⟨rfl, rfl, by decide +kernel⟩
theorem nf5_7 : ∀ q : vw_C, cls8[5]? = some q → (q.2.1 7).2.2.2 = false ∧ parseFieldDescriptor (q.2.1 7).2.2.1 = some .boolean := fun q hq => by obtain rfl : q = (RX5, TX5, 14) := (Option.some.inj hq).symm; exact ⟨rfl, by decide +kernel⟩
theorem nf5_8 : ∀ q : vw_C, cls8[5]? = some q → (q.2.1 8).2.2.2 = false ∧ parseFieldDescriptor (q.2.1 8).2.2.1 = some .boolean := fun q hq => by obtain rfl : q = (RX5, TX5, 14) := (Option.some.inj hq).symm; exact ⟨rfl, by decide +kernel⟩
theorem ff5_9 : ∀ q : vw_C, cls8[5]? = some q → (q.2.1 9).2.2.2 = true ∧ (q.2.1 9).1 = RX5 ∧ parseFieldDescriptor (q.2.1 9).2.2.1 = some (.array .int) := fun q hq => by obtain rfl : q = (RX5, TX5, 14) := (Option.some.inj hq).symm; exact ⟨rfl, rfl, by decide +kernel⟩
theorem ff5_10 : ∀ q : vw_C, cls8[5]? = some q → (q.2.1 10).2.2.2 = true ∧ (q.2.1 10).1 = RX5 ∧ parseFieldDescriptor (q.2.1 10).2.2.1 = some (.array .long) := fun q hq => by obtain rfl : q = (RX5, TX5, 14) := (Option.some.inj hq).symm; exact ⟨rfl, rfl, by decide +kernel⟩
theorem nf5_11 : ∀ q : vw_C, cls8[5]? = some q → (q.2.1 11).2.2.2 = false ∧ parseFieldDescriptor (q.2.1 11).2.2.1 = some .int := fun q hq => by obtain rfl : q = (RX5, TX5, 14) := (Option.some.inj hq).symm; exact ⟨rfl, by decide +kernel⟩
theorem ff5_12 : ∀ q : vw_C, cls8[5]? = some q → (q.2.1 12).2.2.2 = true ∧ (q.2.1 12).1 = RX5 ∧ parseFieldDescriptor (q.2.1 12).2.2.1 = some (.array .long) := fun q hq => by obtain rfl : q = (RX5, TX5, 14) := (Option.some.inj hq).symm; exact ⟨rfl, rfl, by decide +kernel⟩
theorem ff5_13 : ∀ q : vw_C, cls8[5]? = some q → (q.2.1 13).2.2.2 = true ∧ (q.2.1 13).1 = RX5 ∧ parseFieldDescriptor (q.2.1 13).2.2.1 = some (.array .long) := fun q hq => by obtain rfl : q = (RX5, TX5, 14) := (Option.some.inj hq).symm; exact ⟨rfl, rfl, by decide +kernel⟩
theorem nf6_0 : ∀ q : vw_C, cls8[6]? = some q → (q.2.1 0).2.2.2 = false ∧ parseFieldDescriptor (q.2.1 0).2.2.1 = some .int := fun q hq => by obtain rfl : q = (RX6, TX6, 40) := (Option.some.inj hq).symm; exact ⟨rfl, by decide +kernel⟩
theorem ff6_1 : ∀ q : vw_C, cls8[6]? = some q → (q.2.1 1).2.2.2 = true ∧ (q.2.1 1).1 = RX6 ∧ parseFieldDescriptor (q.2.1 1).2.2.1 = some (.array .int) := fun q hq => by obtain rfl : q = (RX6, TX6, 40) := (Option.some.inj hq).symm; exact ⟨rfl, rfl, by decide +kernel⟩
theorem nf6_2 : ∀ q : vw_C, cls8[6]? = some q → (q.2.1 2).2.2.2 = false ∧ parseFieldDescriptor (q.2.1 2).2.2.1 = some .int := fun q hq => by obtain rfl : q = (RX6, TX6, 40) := (Option.some.inj hq).symm; exact ⟨rfl, by decide +kernel⟩
theorem nf6_3 : ∀ q : vw_C, cls8[6]? = some q → (q.2.1 3).2.2.2 = false ∧ parseFieldDescriptor (q.2.1 3).2.2.1 = some .int := fun q hq => by obtain rfl : q = (RX6, TX6, 40) := (Option.some.inj hq).symm; exact ⟨rfl, by decide +kernel⟩
theorem nf6_4 : ∀ q : vw_C, cls8[6]? = some q → (q.2.1 4).2.2.2 = false ∧ parseFieldDescriptor (q.2.1 4).2.2.1 = some .int := fun q hq => by obtain rfl : q = (RX6, TX6, 40) := (Option.some.inj hq).symm; exact ⟨rfl, by decide +kernel⟩
theorem nf6_5 : ∀ q : vw_C, cls8[6]? = some q → (q.2.1 5).2.2.2 = false ∧ parseFieldDescriptor (q.2.1 5).2.2.1 = some .int := fun q hq => by obtain rfl : q = (RX6, TX6, 40) := (Option.some.inj hq).symm; exact ⟨rfl, by decide +kernel⟩
theorem nf6_6 : ∀ q : vw_C, cls8[6]? = some q → (q.2.1 6).2.2.2 = false ∧ parseFieldDescriptor (q.2.1 6).2.2.1 = some .int := fun q hq => by obtain rfl : q = (RX6, TX6, 40) := (Option.some.inj hq).symm; exact ⟨rfl, by decide +kernel⟩
theorem nf6_7 : ∀ q : vw_C, cls8[6]? = some q → (q.2.1 7).2.2.2 = false ∧ parseFieldDescriptor (q.2.1 7).2.2.1 = some .int := fun q hq => by obtain rfl : q = (RX6, TX6, 40) := (Option.some.inj hq).symm; exact ⟨rfl, by decide +kernel⟩
theorem nf6_8 : ∀ q : vw_C, cls8[6]? = some q → (q.2.1 8).2.2.2 = false ∧ parseFieldDescriptor (q.2.1 8).2.2.1 = some .int := fun q hq => by obtain rfl : q = (RX6, TX6, 40) := (Option.some.inj hq).symm; exact ⟨rfl, by decide +kernel⟩
theorem ff6_9 : ∀ q : vw_C, cls8[6]? = some q → (q.2.1 9).2.2.2 = true ∧ (q.2.1 9).1 = RX6 ∧ parseFieldDescriptor (q.2.1 9).2.2.1 = some (.array .int) := fun q hq => by obtain rfl : q = (RX6, TX6, 40) := (Option.some.inj hq).symm; exact ⟨rfl, rfl, by decide +kernel⟩
theorem ff6_10 : ∀ q : vw_C, cls8[6]? = some q → (q.2.1 10).2.2.2 = true ∧ (q.2.1 10).1 = RX6 ∧ parseFieldDescriptor (q.2.1 10).2.2.1 = some (.array .int) := fun q hq => by obtain rfl : q = (RX6, TX6, 40) := (Option.some.inj hq).symm; exact ⟨rfl, rfl, by decide +kernel⟩
theorem ff6_11 : ∀ q : vw_C, cls8[6]? = some q → (q.2.1 11).2.2.2 = true ∧ (q.2.1 11).1 = RX6 ∧ parseFieldDescriptor (q.2.1 11).2.2.1 = some (.array .int) := fun q hq => by obtain rfl : q = (RX6, TX6, 40) := (Option.some.inj hq).symm; exact ⟨rfl, rfl, by decide +kernel⟩
theorem ff6_12 : ∀ q : vw_C, cls8[6]? = some q → (q.2.1 12).2.2.2 = true ∧ (q.2.1 12).1 = RX6 ∧ parseFieldDescriptor (q.2.1 12).2.2.1 = some (.array .int) := fun q hq => by obtain rfl : q = (RX6, TX6, 40) := (Option.some.inj hq).symm; exact ⟨rfl, rfl, by decide +kernel⟩
theorem ff6_13 : ∀ q : vw_C, cls8[6]? = some q → (q.2.1 13).2.2.2 = true ∧ (q.2.1 13).1 = RX6 ∧ parseFieldDescriptor (q.2.1 13).2.2.1 = some (.array .int) := fun q hq => by obtain rfl : q = (RX6, TX6, 40) := (Option.some.inj hq).symm; exact ⟨rfl, rfl, by decide +kernel⟩
theorem nf6_14 : ∀ q : vw_C, cls8[6]? = some q → (q.2.1 14).2.2.2 = false ∧ parseFieldDescriptor (q.2.1 14).2.2.1 = some .int := fun q hq => by obtain rfl : q = (RX6, TX6, 40) := (Option.some.inj hq).symm; exact ⟨rfl, by decide +kernel⟩
theorem ff6_15 : ∀ q : vw_C, cls8[6]? = some q → (q.2.1 15).2.2.2 = true ∧ (q.2.1 15).1 = RX6 ∧ parseFieldDescriptor (q.2.1 15).2.2.1 = some (.array .int) := fun q hq => by obtain rfl : q = (RX6, TX6, 40) := (Option.some.inj hq).symm; exact ⟨rfl, rfl, by decide +kernel⟩
theorem ff6_16 : ∀ q : vw_C, cls8[6]? = some q → (q.2.1 16).2.2.2 = true ∧ (q.2.1 16).1 = RX6 ∧ parseFieldDescriptor (q.2.1 16).2.2.1 = some (.array .int) := fun q hq => by obtain rfl : q = (RX6, TX6, 40) := (Option.some.inj hq).symm; exact ⟨rfl, rfl, by decide +kernel⟩
theorem ff6_17 : ∀ q : vw_C, cls8[6]? = some q → (q.2.1 17).2.2.2 = true ∧ (q.2.1 17).1 = RX6 ∧ parseFieldDescriptor (q.2.1 17).2.2.1 = some (.array .int) := fun q hq => by obtain rfl : q = (RX6, TX6, 40) := (Option.some.inj hq).symm; exact ⟨rfl, rfl, by decide +kernel⟩
theorem ff6_18 : ∀ q : vw_C, cls8[6]? = some q → (q.2.1 18).2.2.2 = true ∧ (q.2.1 18).1 = RX6 ∧ parseFieldDescriptor (q.2.1 18).2.2.1 = some (.array .int) := fun q hq => by obtain rfl : q = (RX6, TX6, 40) := (Option.some.inj hq).symm; exact ⟨rfl, rfl, by decide +kernel⟩
theorem ff6_19 : ∀ q : vw_C, cls8[6]? = some q → (q.2.1 19).2.2.2 = true ∧ (q.2.1 19).1 = RX6 ∧ parseFieldDescriptor (q.2.1 19).2.2.1 = some (.array .int) := fun q hq => by obtain rfl : q = (RX6, TX6, 40) := (Option.some.inj hq).symm; exact ⟨rfl, rfl, by decide +kernel⟩
theorem ff6_20 : ∀ q : vw_C, cls8[6]? = some q → (q.2.1 20).2.2.2 = true ∧ (q.2.1 20).1 = RX6 ∧ parseFieldDescriptor (q.2.1 20).2.2.1 = some (.array .int) := fun q hq => by obtain rfl : q = (RX6, TX6, 40) := (Option.some.inj hq).symm; exact ⟨rfl, rfl, by decide +kernel⟩
theorem ff6_21 : ∀ q : vw_C, cls8[6]? = some q → (q.2.1 21).2.2.2 = true ∧ (q.2.1 21).1 = RX6 ∧ parseFieldDescriptor (q.2.1 21).2.2.1 = some (.array .int) := fun q hq => by obtain rfl : q = (RX6, TX6, 40) := (Option.some.inj hq).symm; exact ⟨rfl, rfl, by decide +kernel⟩
theorem ff6_22 : ∀ q : vw_C, cls8[6]? = some q → (q.2.1 22).2.2.2 = true ∧ (q.2.1 22).1 = RX6 ∧ parseFieldDescriptor (q.2.1 22).2.2.1 = some (.array .int) := fun q hq => by obtain rfl : q = (RX6, TX6, 40) := (Option.some.inj hq).symm; exact ⟨rfl, rfl, by decide +kernel⟩
theorem nf6_23 : ∀ q : vw_C, cls8[6]? = some q → (q.2.1 23).2.2.2 = false ∧ parseFieldDescriptor (q.2.1 23).2.2.1 = some .int := fun q hq => by obtain rfl : q = (RX6, TX6, 40) := (Option.some.inj hq).symm; exact ⟨rfl, by decide +kernel⟩
theorem ff6_24 : ∀ q : vw_C, cls8[6]? = some q → (q.2.1 24).2.2.2 = true ∧ (q.2.1 24).1 = RX6 ∧ parseFieldDescriptor (q.2.1 24).2.2.1 = some (.array .int) := fun q hq => by obtain rfl : q = (RX6, TX6, 40) := (Option.some.inj hq).symm; exact ⟨rfl, rfl, by decide +kernel⟩
theorem ff6_25 : ∀ q : vw_C, cls8[6]? = some q → (q.2.1 25).2.2.2 = true ∧ (q.2.1 25).1 = RX6 ∧ parseFieldDescriptor (q.2.1 25).2.2.1 = some (.array .boolean) := fun q hq => by obtain rfl : q = (RX6, TX6, 40) := (Option.some.inj hq).symm; exact ⟨rfl, rfl, by decide +kernel⟩
theorem ff6_26 : ∀ q : vw_C, cls8[6]? = some q → (q.2.1 26).2.2.2 = true ∧ (q.2.1 26).1 = RX6 ∧ parseFieldDescriptor (q.2.1 26).2.2.1 = some (.array .int) := fun q hq => by obtain rfl : q = (RX6, TX6, 40) := (Option.some.inj hq).symm; exact ⟨rfl, rfl, by decide +kernel⟩
theorem ff6_27 : ∀ q : vw_C, cls8[6]? = some q → (q.2.1 27).2.2.2 = true ∧ (q.2.1 27).1 = RX6 ∧ parseFieldDescriptor (q.2.1 27).2.2.1 = some (.array .long) := fun q hq => by obtain rfl : q = (RX6, TX6, 40) := (Option.some.inj hq).symm; exact ⟨rfl, rfl, by decide +kernel⟩
theorem nf6_28 : ∀ q : vw_C, cls8[6]? = some q → (q.2.1 28).2.2.2 = false ∧ parseFieldDescriptor (q.2.1 28).2.2.1 = some .int := fun q hq => by obtain rfl : q = (RX6, TX6, 40) := (Option.some.inj hq).symm; exact ⟨rfl, by decide +kernel⟩
theorem ff6_29 : ∀ q : vw_C, cls8[6]? = some q → (q.2.1 29).2.2.2 = true ∧ (q.2.1 29).1 = RX6 ∧ parseFieldDescriptor (q.2.1 29).2.2.1 = some (.array .int) := fun q hq => by obtain rfl : q = (RX6, TX6, 40) := (Option.some.inj hq).symm; exact ⟨rfl, rfl, by decide +kernel⟩
theorem nf6_30 : ∀ q : vw_C, cls8[6]? = some q → (q.2.1 30).2.2.2 = false ∧ parseFieldDescriptor (q.2.1 30).2.2.1 = some .int := fun q hq => by obtain rfl : q = (RX6, TX6, 40) := (Option.some.inj hq).symm; exact ⟨rfl, by decide +kernel⟩
theorem ff6_31 : ∀ q : vw_C, cls8[6]? = some q → (q.2.1 31).2.2.2 = true ∧ (q.2.1 31).1 = RX6 ∧ parseFieldDescriptor (q.2.1 31).2.2.1 = some (.array .int) := fun q hq => by obtain rfl : q = (RX6, TX6, 40) := (Option.some.inj hq).symm; exact ⟨rfl, rfl, by decide +kernel⟩
theorem nf6_32 : ∀ q : vw_C, cls8[6]? = some q → (q.2.1 32).2.2.2 = false ∧ parseFieldDescriptor (q.2.1 32).2.2.1 = some .int := fun q hq => by obtain rfl : q = (RX6, TX6, 40) := (Option.some.inj hq).symm; exact ⟨rfl, by decide +kernel⟩
theorem nf6_33 : ∀ q : vw_C, cls8[6]? = some q → (q.2.1 33).2.2.2 = false ∧ parseFieldDescriptor (q.2.1 33).2.2.1 = some .int := fun q hq => by obtain rfl : q = (RX6, TX6, 40) := (Option.some.inj hq).symm; exact ⟨rfl, by decide +kernel⟩
theorem nf6_34 : ∀ q : vw_C, cls8[6]? = some q → (q.2.1 34).2.2.2 = false ∧ parseFieldDescriptor (q.2.1 34).2.2.1 = some .int := fun q hq => by obtain rfl : q = (RX6, TX6, 40) := (Option.some.inj hq).symm; exact ⟨rfl, by decide +kernel⟩
theorem ff6_35 : ∀ q : vw_C, cls8[6]? = some q → (q.2.1 35).2.2.2 = true ∧ (q.2.1 35).1 = RX6 ∧ parseFieldDescriptor (q.2.1 35).2.2.1 = some (.array .long) := fun q hq => by obtain rfl : q = (RX6, TX6, 40) := (Option.some.inj hq).symm; exact ⟨rfl, rfl, by decide +kernel⟩
theorem ff6_36 : ∀ q : vw_C, cls8[6]? = some q → (q.2.1 36).2.2.2 = true ∧ (q.2.1 36).1 = RX6 ∧ parseFieldDescriptor (q.2.1 36).2.2.1 = some (.array .long) := fun q hq => by obtain rfl : q = (RX6, TX6, 40) := (Option.some.inj hq).symm; exact ⟨rfl, rfl, by decide +kernel⟩
theorem ff6_37 : ∀ q : vw_C, cls8[6]? = some q → (q.2.1 37).2.2.2 = true ∧ (q.2.1 37).1 = RX6 ∧ parseFieldDescriptor (q.2.1 37).2.2.1 = some (.array .long) := fun q hq => by obtain rfl : q = (RX6, TX6, 40) := (Option.some.inj hq).symm; exact ⟨rfl, rfl, by decide +kernel⟩
theorem ff6_38 : ∀ q : vw_C, cls8[6]? = some q → (q.2.1 38).2.2.2 = true ∧ (q.2.1 38).1 = RX6 ∧ parseFieldDescriptor (q.2.1 38).2.2.1 = some (.array .int) := fun q hq => by obtain rfl : q = (RX6, TX6, 40) := (Option.some.inj hq).symm; exact ⟨rfl, rfl, by decide +kernel⟩
theorem ff6_39 : ∀ q : vw_C, cls8[6]? = some q → (q.2.1 39).2.2.2 = true ∧ (q.2.1 39).1 = RX6 ∧ parseFieldDescriptor (q.2.1 39).2.2.1 = some (.array .int) := fun q hq => by obtain rfl : q = (RX6, TX6, 40) := (Option.some.inj hq).symm; exact ⟨rfl, rfl, by decide +kernel⟩
theorem clL_7 : Cond.classLink RL 7 RX5 ∈ gw := gi 73 _ (by decide +kernel) rfl
theorem lkL_9 : ILK RL 9 yX5_init := ⟨gi 75 _ (by decide +kernel) rfl, gi 76 _ (by decide +kernel) rfl, rfl⟩
theorem lkX5_3 : Cond.methodLink RX5 3 objectInit ∈ gw := gi 78 _ (by decide +kernel) rfl
theorem clX5_9 : Cond.classLink RX5 9 RX0 ∈ gw := gi 81 _ (by decide +kernel) rfl
theorem lkX5_11 : ILK RX5 11 yX0_init := ⟨gi 83 _ (by decide +kernel) rfl, gi 84 _ (by decide +kernel) rfl, rfl⟩
theorem lkX0_3 : Cond.methodLink RX0 3 objectInit ∈ gw := gi 86 _ (by decide +kernel) rfl
theorem clX5_16 : Cond.classLink RX5 16 RX4 ∈ gw := gi 95 _ (by decide +kernel) rfl
theorem lkX5_18 : ILK RX5 18 yX4_init := ⟨gi 97 _ (by decide +kernel) rfl, gi 98 _ (by decide +kernel) rfl, rfl⟩
theorem lkX4_3 : Cond.methodLink RX4 3 objectInit ∈ gw := gi 100 _ (by decide +kernel) rfl
theorem clX5_23 : Cond.classLink RX5 23 RX2 ∈ gw := gi 129 _ (by decide +kernel) rfl
theorem lkX5_25 : ILK RX5 25 yX2_init := ⟨gi 131 _ (by decide +kernel) rfl, gi 132 _ (by decide +kernel) rfl, rfl⟩
theorem lkX2_3 : Cond.methodLink RX2 3 objectInit ∈ gw := gi 134 _ (by decide +kernel) rfl
theorem clX2_9 : Cond.classLink RX2 9 RX0 ∈ gw := gi 135 _ (by decide +kernel) rfl
theorem lkX2_11 : ILK RX2 11 yX0_init := ⟨gi 136 _ (by decide +kernel) rfl, gi 84 _ (by decide +kernel) rfl, rfl⟩
theorem clX2_18 : Cond.classLink RX2 18 RX4 ∈ gw := gi 137 _ (by decide +kernel) rfl
theorem lkX2_20 : ILK RX2 20 yX4_init := ⟨gi 138 _ (by decide +kernel) rfl, gi 98 _ (by decide +kernel) rfl, rfl⟩
theorem clX5_30 : Cond.classLink RX5 30 RX1 ∈ gw := gi 169 _ (by decide +kernel) rfl
theorem lkX5_32 : ILK RX5 32 yX1_init := ⟨gi 171 _ (by decide +kernel) rfl, gi 172 _ (by decide +kernel) rfl, rfl⟩
theorem lkX1_3 : Cond.methodLink RX1 3 objectInit ∈ gw := gi 174 _ (by decide +kernel) rfl
theorem clX5_37 : Cond.classLink RX5 37 RX3 ∈ gw := gi 188 _ (by decide +kernel) rfl
theorem lkX5_39 : ILK RX5 39 yX3_init := ⟨gi 190 _ (by decide +kernel) rfl, gi 191 _ (by decide +kernel) rfl, rfl⟩
theorem lkX3_3 : Cond.methodLink RX3 3 objectInit ∈ gw := gi 193 _ (by decide +kernel) rfl
theorem lkL_13 : VLK RL 13 yX5_type := ⟨gi 257 _ (by decide +kernel) rfl, gi 258 _ (by decide +kernel) rfl, gi 259 _ (by decide +kernel) rfl⟩
theorem lkX5_66 : VLK RX5 66 yX2_add := ⟨gi 261 _ (by decide +kernel) rfl, gi 262 _ (by decide +kernel) rfl, gi 263 _ (by decide +kernel) rfl⟩
theorem lkX5_70 : VLK RX5 70 yX2_letters := ⟨gi 265 _ (by decide +kernel) rfl, gi 266 _ (by decide +kernel) rfl, gi 267 _ (by decide +kernel) rfl⟩
theorem lkL_18 : VLK RL 18 yX5_clear := ⟨gi 269 _ (by decide +kernel) rfl, gi 270 _ (by decide +kernel) rfl, gi 271 _ (by decide +kernel) rfl⟩
theorem lkX5_74 : VLK RX5 74 yX2_drop := ⟨gi 273 _ (by decide +kernel) rfl, gi 274 _ (by decide +kernel) rfl, gi 275 _ (by decide +kernel) rfl⟩
theorem lkL_23 : VLK RL 23 yX5_desk := ⟨gi 277 _ (by decide +kernel) rfl, gi 278 _ (by decide +kernel) rfl, gi 279 _ (by decide +kernel) rfl⟩
theorem lkX5_77 : VLK RX5 77 yX2_read := ⟨gi 281 _ (by decide +kernel) rfl, gi 282 _ (by decide +kernel) rfl, gi 283 _ (by decide +kernel) rfl⟩
theorem lkX2_33 : VLK RX2 33 yX0_reset := ⟨gi 285 _ (by decide +kernel) rfl, gi 286 _ (by decide +kernel) rfl, gi 287 _ (by decide +kernel) rfl⟩
theorem lkX2_36 : VLK RX2 36 yX4_reset := ⟨gi 289 _ (by decide +kernel) rfl, gi 290 _ (by decide +kernel) rfl, gi 291 _ (by decide +kernel) rfl⟩
theorem lkX2_40 : VLK RX2 40 yX2_pass := ⟨gi 293 _ (by decide +kernel) rfl, gi 295 _ (by decide +kernel) rfl, gi 0 _ (by decide +kernel) rfl⟩
theorem lkX2_134 : SLK RX2 134 yX2_isDigit := ⟨gi 297 _ (by decide +kernel) rfl, gi 298 _ (by decide +kernel) rfl⟩
theorem lkX2_137 : VLK RX2 137 yX2_passDigits := ⟨gi 300 _ (by decide +kernel) rfl, gi 302 _ (by decide +kernel) rfl, gi 1 _ (by decide +kernel) rfl⟩
theorem lkX2_46 : VLK RX2 46 yX2_readItem := ⟨gi 304 _ (by decide +kernel) rfl, gi 306 _ (by decide +kernel) rfl, gi 2 _ (by decide +kernel) rfl⟩
theorem lkX2_53 : VLK RX2 53 yX2_readSource := ⟨gi 308 _ (by decide +kernel) rfl, gi 310 _ (by decide +kernel) rfl, gi 3 _ (by decide +kernel) rfl⟩
theorem lkX2_62 : VLK RX2 62 yX2_sourceAtHand := ⟨gi 312 _ (by decide +kernel) rfl, gi 314 _ (by decide +kernel) rfl, gi 4 _ (by decide +kernel) rfl⟩
theorem lkX2_66 : SNK RX2 66 yX5_isSource := ⟨⟨"SpreadDesk", by decide +kernel⟩, gi 317 _ (by decide +kernel) rfl⟩
theorem lkX2_70 : VLK RX2 70 yX2_passSign := ⟨gi 319 _ (by decide +kernel) rfl, gi 321 _ (by decide +kernel) rfl, gi 5 _ (by decide +kernel) rfl⟩
theorem lkX2_76 : VLK RX2 76 yX0_setWorth := ⟨gi 323 _ (by decide +kernel) rfl, gi 324 _ (by decide +kernel) rfl, gi 325 _ (by decide +kernel) rfl⟩
theorem lkX0_18 : SNK RX0 18 yX5_isSource := ⟨⟨"SpreadDesk", by decide +kernel⟩, gi 317 _ (by decide +kernel) rfl⟩
theorem lkX2_80 : VLK RX2 80 yX0_setSpread := ⟨gi 328 _ (by decide +kernel) rfl, gi 329 _ (by decide +kernel) rfl, gi 330 _ (by decide +kernel) rfl⟩
theorem lkX2_56 : VLK RX2 56 yX2_readJoint := ⟨gi 332 _ (by decide +kernel) rfl, gi 334 _ (by decide +kernel) rfl, gi 6 _ (by decide +kernel) rfl⟩
theorem lkX2_59 : VLK RX2 59 yX2_readFormula := ⟨gi 336 _ (by decide +kernel) rfl, gi 338 _ (by decide +kernel) rfl, gi 7 _ (by decide +kernel) rfl⟩
theorem lkX2_84 : VLK RX2 84 yX4_formulas := ⟨gi 340 _ (by decide +kernel) rfl, gi 341 _ (by decide +kernel) rfl, gi 342 _ (by decide +kernel) rfl⟩
theorem lkX2_90 : VLK RX2 90 yX2_readSum := ⟨gi 344 _ (by decide +kernel) rfl, gi 346 _ (by decide +kernel) rfl, gi 8 _ (by decide +kernel) rfl⟩
theorem lkX2_97 : VLK RX2 97 yX2_readProduct := ⟨gi 348 _ (by decide +kernel) rfl, gi 350 _ (by decide +kernel) rfl, gi 9 _ (by decide +kernel) rfl⟩
theorem lkX2_107 : VLK RX2 107 yX2_readPower := ⟨gi 352 _ (by decide +kernel) rfl, gi 354 _ (by decide +kernel) rfl, gi 10 _ (by decide +kernel) rfl⟩
theorem lkX2_110 : VLK RX2 110 yX2_readPart := ⟨gi 356 _ (by decide +kernel) rfl, gi 358 _ (by decide +kernel) rfl, gi 11 _ (by decide +kernel) rfl⟩
theorem lkX2_100 : VLK RX2 100 yX2_countNode := ⟨gi 360 _ (by decide +kernel) rfl, gi 362 _ (by decide +kernel) rfl, gi 12 _ (by decide +kernel) rfl⟩
theorem lkX2_116 : VLK RX2 116 yX2_readBarePart := ⟨gi 364 _ (by decide +kernel) rfl, gi 366 _ (by decide +kernel) rfl, gi 13 _ (by decide +kernel) rfl⟩
theorem lkX2_119 : VLK RX2 119 yX2_readInner := ⟨gi 368 _ (by decide +kernel) rfl, gi 370 _ (by decide +kernel) rfl, gi 14 _ (by decide +kernel) rfl⟩
theorem lkX2_122 : VLK RX2 122 yX2_readEarlier := ⟨gi 372 _ (by decide +kernel) rfl, gi 374 _ (by decide +kernel) rfl, gi 15 _ (by decide +kernel) rfl⟩
theorem lkX2_131 : VLK RX2 131 yX4_root := ⟨gi 376 _ (by decide +kernel) rfl, gi 377 _ (by decide +kernel) rfl, gi 378 _ (by decide +kernel) rfl⟩
theorem lkX4_34 : VLK RX4 34 yX4_stop := ⟨gi 380 _ (by decide +kernel) rfl, gi 381 _ (by decide +kernel) rfl, gi 382 _ (by decide +kernel) rfl⟩
theorem lkX2_113 : VLK RX2 113 yX4_addOver := ⟨gi 384 _ (by decide +kernel) rfl, gi 385 _ (by decide +kernel) rfl, gi 386 _ (by decide +kernel) rfl⟩
theorem lkX4_44 : VLK RX4 44 yX4_steps := ⟨gi 388 _ (by decide +kernel) rfl, gi 389 _ (by decide +kernel) rfl, gi 390 _ (by decide +kernel) rfl⟩
theorem lkX4_46 : VLK RX4 46 yX4_names := ⟨gi 392 _ (by decide +kernel) rfl, gi 393 _ (by decide +kernel) rfl, gi 394 _ (by decide +kernel) rfl⟩
theorem lkX4_40 : VLK RX4 40 yX4_add := ⟨gi 396 _ (by decide +kernel) rfl, gi 398 _ (by decide +kernel) rfl, gi 16 _ (by decide +kernel) rfl⟩
theorem lkX2_125 : VLK RX2 125 yX4_addNumber := ⟨gi 400 _ (by decide +kernel) rfl, gi 401 _ (by decide +kernel) rfl, gi 402 _ (by decide +kernel) rfl⟩
theorem lkX2_128 : VLK RX2 128 yX4_addSource := ⟨gi 404 _ (by decide +kernel) rfl, gi 405 _ (by decide +kernel) rfl, gi 406 _ (by decide +kernel) rfl⟩
theorem lkX2_103 : VLK RX2 103 yX4_addBoth := ⟨gi 408 _ (by decide +kernel) rfl, gi 409 _ (by decide +kernel) rfl, gi 410 _ (by decide +kernel) rfl⟩
theorem lkX2_94 : VLK RX2 94 yX4_endFormula := ⟨gi 412 _ (by decide +kernel) rfl, gi 413 _ (by decide +kernel) rfl, gi 414 _ (by decide +kernel) rfl⟩
theorem lkX5_81 : VLK RX5 81 yX0_take := ⟨gi 416 _ (by decide +kernel) rfl, gi 417 _ (by decide +kernel) rfl, gi 418 _ (by decide +kernel) rfl⟩
theorem lkX5_86 : VLK RX5 86 yX4_take := ⟨gi 420 _ (by decide +kernel) rfl, gi 421 _ (by decide +kernel) rfl, gi 422 _ (by decide +kernel) rfl⟩
theorem lkX5_89 : VLK RX5 89 yX1_lose := ⟨gi 424 _ (by decide +kernel) rfl, gi 425 _ (by decide +kernel) rfl, gi 426 _ (by decide +kernel) rfl⟩
theorem lkL_27 : VLK RL 27 yX5_source := ⟨gi 428 _ (by decide +kernel) rfl, gi 429 _ (by decide +kernel) rfl, gi 430 _ (by decide +kernel) rfl⟩
theorem lkX5_103 : SLK RX5 103 yX5_isSource := ⟨gi 432 _ (by decide +kernel) rfl, gi 317 _ (by decide +kernel) rfl⟩
theorem kX5_106 : Cond.constantLong RX5 106 (-9000000000000000000 : Int64) ∈ gw := gi 433 _ (by decide +kernel) rfl
theorem lkX5_108 : VLK RX5 108 yX0_worth := ⟨gi 434 _ (by decide +kernel) rfl, gi 435 _ (by decide +kernel) rfl, gi 436 _ (by decide +kernel) rfl⟩
theorem lkX5_112 : VLK RX5 112 yX0_spread := ⟨gi 438 _ (by decide +kernel) rfl, gi 439 _ (by decide +kernel) rfl, gi 440 _ (by decide +kernel) rfl⟩
theorem lkL_32 : VLK RL 32 yX5_joint := ⟨gi 442 _ (by decide +kernel) rfl, gi 443 _ (by decide +kernel) rfl, gi 444 _ (by decide +kernel) rfl⟩
theorem lkL_36 : VLK RL 36 yX5_values := ⟨gi 446 _ (by decide +kernel) rfl, gi 447 _ (by decide +kernel) rfl, gi 448 _ (by decide +kernel) rfl⟩
theorem lkX5_116 : VLK RX5 116 yX1_add := ⟨gi 450 _ (by decide +kernel) rfl, gi 451 _ (by decide +kernel) rfl, gi 452 _ (by decide +kernel) rfl⟩
theorem lkX1_25 : VLK RX1 25 yX1_loseOldest := ⟨gi 454 _ (by decide +kernel) rfl, gi 456 _ (by decide +kernel) rfl, gi 17 _ (by decide +kernel) rfl⟩
theorem lkX5_119 : VLK RX5 119 yX0_setWorth := ⟨gi 458 _ (by decide +kernel) rfl, gi 324 _ (by decide +kernel) rfl, gi 325 _ (by decide +kernel) rfl⟩
theorem lkL_41 : VLK RL 41 yX5_spreads := ⟨gi 459 _ (by decide +kernel) rfl, gi 460 _ (by decide +kernel) rfl, gi 461 _ (by decide +kernel) rfl⟩
theorem lkX5_123 : VLK RX5 123 yX0_setSpread := ⟨gi 463 _ (by decide +kernel) rfl, gi 329 _ (by decide +kernel) rfl, gi 330 _ (by decide +kernel) rfl⟩
theorem lkL_45 : VLK RL 45 yX5_joints := ⟨gi 464 _ (by decide +kernel) rfl, gi 465 _ (by decide +kernel) rfl, gi 466 _ (by decide +kernel) rfl⟩
theorem lkL_50 : VLK RL 50 yX5_undo := ⟨gi 468 _ (by decide +kernel) rfl, gi 469 _ (by decide +kernel) rfl, gi 470 _ (by decide +kernel) rfl⟩
theorem lkX5_126 : VLK RX5 126 yX1_takeBack := ⟨gi 472 _ (by decide +kernel) rfl, gi 473 _ (by decide +kernel) rfl, gi 474 _ (by decide +kernel) rfl⟩
theorem lkX1_28 : VLK RX1 28 yX0_setWorth := ⟨gi 476 _ (by decide +kernel) rfl, gi 324 _ (by decide +kernel) rfl, gi 325 _ (by decide +kernel) rfl⟩
theorem lkX1_34 : VLK RX1 34 yX0_setSpread := ⟨gi 477 _ (by decide +kernel) rfl, gi 329 _ (by decide +kernel) rfl, gi 330 _ (by decide +kernel) rfl⟩
theorem lkX5_130 : VLK RX5 130 yX1_known := ⟨gi 478 _ (by decide +kernel) rfl, gi 479 _ (by decide +kernel) rfl, gi 480 _ (by decide +kernel) rfl⟩
theorem lkL_54 : VLK RL 54 yX5_value := ⟨gi 482 _ (by decide +kernel) rfl, gi 483 _ (by decide +kernel) rfl, gi 484 _ (by decide +kernel) rfl⟩
theorem lkX5_133 : VLK RX5 133 yX5_isTold := ⟨gi 486 _ (by decide +kernel) rfl, gi 488 _ (by decide +kernel) rfl, gi 18 _ (by decide +kernel) rfl⟩
theorem lkX5_177 : VLK RX5 177 yX4_formulas := ⟨gi 490 _ (by decide +kernel) rfl, gi 341 _ (by decide +kernel) rfl, gi 342 _ (by decide +kernel) rfl⟩
theorem lkX5_136 : VLK RX5 136 yX3_worth := ⟨gi 491 _ (by decide +kernel) rfl, gi 492 _ (by decide +kernel) rfl, gi 493 _ (by decide +kernel) rfl⟩
theorem lkX3_32 : VLK RX3 32 yX4_stop := ⟨gi 495 _ (by decide +kernel) rfl, gi 381 _ (by decide +kernel) rfl, gi 382 _ (by decide +kernel) rfl⟩
theorem lkX3_38 : VLK RX3 38 yX3_walkWorth := ⟨gi 496 _ (by decide +kernel) rfl, gi 498 _ (by decide +kernel) rfl, gi 19 _ (by decide +kernel) rfl⟩
theorem lkX3_57 : VLK RX3 57 yX3_worthOf := ⟨gi 500 _ (by decide +kernel) rfl, gi 502 _ (by decide +kernel) rfl, gi 20 _ (by decide +kernel) rfl⟩
theorem lkX3_71 : VLK RX3 71 yX0_worth := ⟨gi 504 _ (by decide +kernel) rfl, gi 435 _ (by decide +kernel) rfl, gi 436 _ (by decide +kernel) rfl⟩
theorem lkX3_45 : SLK RX3 45 yX3_at := ⟨gi 505 _ (by decide +kernel) rfl, gi 506 _ (by decide +kernel) rfl⟩
theorem lkX3_75 : SLK RX3 75 yX3_power := ⟨gi 508 _ (by decide +kernel) rfl, gi 509 _ (by decide +kernel) rfl⟩
theorem lkX3_42 : VLK RX3 42 yX4_root := ⟨gi 511 _ (by decide +kernel) rfl, gi 377 _ (by decide +kernel) rfl, gi 378 _ (by decide +kernel) rfl⟩
theorem lkL_59 : VLK RL 59 yX5_slope := ⟨gi 512 _ (by decide +kernel) rfl, gi 513 _ (by decide +kernel) rfl, gi 514 _ (by decide +kernel) rfl⟩
theorem lkX5_139 : VLK RX5 139 yX3_slopeBy := ⟨gi 516 _ (by decide +kernel) rfl, gi 517 _ (by decide +kernel) rfl, gi 518 _ (by decide +kernel) rfl⟩
theorem lkX3_49 : VLK RX3 49 yX3_walkSlope := ⟨gi 520 _ (by decide +kernel) rfl, gi 522 _ (by decide +kernel) rfl, gi 21 _ (by decide +kernel) rfl⟩
theorem lkX3_79 : VLK RX3 79 yX3_slopeOf := ⟨gi 524 _ (by decide +kernel) rfl, gi 526 _ (by decide +kernel) rfl, gi 22 _ (by decide +kernel) rfl⟩
theorem lkL_63 : VLK RL 63 yX5_bend := ⟨gi 528 _ (by decide +kernel) rfl, gi 529 _ (by decide +kernel) rfl, gi 530 _ (by decide +kernel) rfl⟩
theorem lkX5_143 : VLK RX5 143 yX3_bendBy := ⟨gi 532 _ (by decide +kernel) rfl, gi 533 _ (by decide +kernel) rfl, gi 534 _ (by decide +kernel) rfl⟩
theorem lkX3_53 : VLK RX3 53 yX3_walkBend := ⟨gi 536 _ (by decide +kernel) rfl, gi 538 _ (by decide +kernel) rfl, gi 23 _ (by decide +kernel) rfl⟩
theorem lkX3_83 : VLK RX3 83 yX3_bendOf := ⟨gi 540 _ (by decide +kernel) rfl, gi 542 _ (by decide +kernel) rfl, gi 24 _ (by decide +kernel) rfl⟩
theorem lkL_68 : VLK RL 68 yX5_whole := ⟨gi 544 _ (by decide +kernel) rfl, gi 545 _ (by decide +kernel) rfl, gi 546 _ (by decide +kernel) rfl⟩
theorem lkX5_146 : VLK RX5 146 yX5_remains := ⟨gi 548 _ (by decide +kernel) rfl, gi 550 _ (by decide +kernel) rfl, gi 25 _ (by decide +kernel) rfl⟩
theorem lkX5_149 : VLK RX5 149 yX3_slopesInto := ⟨gi 552 _ (by decide +kernel) rfl, gi 553 _ (by decide +kernel) rfl, gi 554 _ (by decide +kernel) rfl⟩
theorem lkX5_153 : VLK RX5 153 yX5_product := ⟨gi 556 _ (by decide +kernel) rfl, gi 558 _ (by decide +kernel) rfl, gi 26 _ (by decide +kernel) rfl⟩
theorem lkX5_157 : VLK RX5 157 yX5_part := ⟨gi 560 _ (by decide +kernel) rfl, gi 562 _ (by decide +kernel) rfl, gi 27 _ (by decide +kernel) rfl⟩
theorem lkL_72 : VLK RL 72 yX5_together := ⟨gi 564 _ (by decide +kernel) rfl, gi 565 _ (by decide +kernel) rfl, gi 566 _ (by decide +kernel) rfl⟩
theorem lkL_76 : VLK RL 76 yX5_share := ⟨gi 568 _ (by decide +kernel) rfl, gi 569 _ (by decide +kernel) rfl, gi 570 _ (by decide +kernel) rfl⟩
theorem lkL_80 : VLK RL 80 yX5_left := ⟨gi 572 _ (by decide +kernel) rfl, gi 573 _ (by decide +kernel) rfl, gi 574 _ (by decide +kernel) rfl⟩
theorem lkL_86 : VLK RL 86 yX5_fewest := ⟨gi 576 _ (by decide +kernel) rfl, gi 577 _ (by decide +kernel) rfl, gi 578 _ (by decide +kernel) rfl⟩
theorem lkX5_161 : SLK RX5 161 yJ6_bitCount_0f7a4 := ⟨gi 580 _ (by decide +kernel) rfl, gi 581 _ (by decide +kernel) rfl⟩
theorem kJ6_265 : Cond.constant RJ6 265 (1431655765 : Int32) ∈ gw := gi 583 _ (by decide +kernel) rfl
theorem kJ6_266 : Cond.constant RJ6 266 (858993459 : Int32) ∈ gw := gi 584 _ (by decide +kernel) rfl
theorem kJ6_267 : Cond.constant RJ6 267 (252645135 : Int32) ∈ gw := gi 585 _ (by decide +kernel) rfl
theorem lkL_91 : VLK RL 91 yX5_takes := ⟨gi 586 _ (by decide +kernel) rfl, gi 587 _ (by decide +kernel) rfl, gi 588 _ (by decide +kernel) rfl⟩
theorem lkX5_166 : VLK RX5 166 yX5_taken := ⟨gi 590 _ (by decide +kernel) rfl, gi 592 _ (by decide +kernel) rfl, gi 28 _ (by decide +kernel) rfl⟩
theorem lkL_95 : VLK RL 95 yX5_first := ⟨gi 594 _ (by decide +kernel) rfl, gi 595 _ (by decide +kernel) rfl, gi 596 _ (by decide +kernel) rfl⟩
theorem lkL_99 : VLK RL 99 yX5_off := ⟨gi 598 _ (by decide +kernel) rfl, gi 599 _ (by decide +kernel) rfl, gi 600 _ (by decide +kernel) rfl⟩
theorem lkX5_170 : SLK RX5 170 yX5_isMove := ⟨gi 602 _ (by decide +kernel) rfl, gi 603 _ (by decide +kernel) rfl⟩
theorem lkL_103 : VLK RL 103 yX5_sees := ⟨gi 605 _ (by decide +kernel) rfl, gi 606 _ (by decide +kernel) rfl, gi 607 _ (by decide +kernel) rfl⟩
theorem lkL_107 : VLK RL 107 yX5_forget := ⟨gi 609 _ (by decide +kernel) rfl, gi 610 _ (by decide +kernel) rfl, gi 611 _ (by decide +kernel) rfl⟩
theorem lkL_111 : VLK RL 111 yX5_unseen := ⟨gi 613 _ (by decide +kernel) rfl, gi 614 _ (by decide +kernel) rfl, gi 615 _ (by decide +kernel) rfl⟩
theorem lkX5_173 : VLK RX5 173 yX5_explains := ⟨gi 617 _ (by decide +kernel) rfl, gi 619 _ (by decide +kernel) rfl, gi 29 _ (by decide +kernel) rfl⟩
theorem lkL_115 : VLK RL 115 yX5_keep := ⟨gi 621 _ (by decide +kernel) rfl, gi 622 _ (by decide +kernel) rfl, gi 623 _ (by decide +kernel) rfl⟩
theorem lkL_119 : VLK RL 119 yX5_back := ⟨gi 625 _ (by decide +kernel) rfl, gi 626 _ (by decide +kernel) rfl, gi 627 _ (by decide +kernel) rfl⟩
theorem lkL_123 : VLK RL 123 yX5_formula := ⟨gi 629 _ (by decide +kernel) rfl, gi 630 _ (by decide +kernel) rfl, gi 631 _ (by decide +kernel) rfl⟩
theorem lkX5_180 : VLK RX5 180 yX4_stop := ⟨gi 633 _ (by decide +kernel) rfl, gi 381 _ (by decide +kernel) rfl, gi 382 _ (by decide +kernel) rfl⟩
theorem lkX5_183 : VLK RX5 183 yX4_start := ⟨gi 634 _ (by decide +kernel) rfl, gi 635 _ (by decide +kernel) rfl, gi 636 _ (by decide +kernel) rfl⟩
theorem lkX5_186 : VLK RX5 186 yX4_root := ⟨gi 638 _ (by decide +kernel) rfl, gi 377 _ (by decide +kernel) rfl, gi 378 _ (by decide +kernel) rfl⟩
theorem lkX5_189 : VLK RX5 189 yX4_steps := ⟨gi 639 _ (by decide +kernel) rfl, gi 389 _ (by decide +kernel) rfl, gi 390 _ (by decide +kernel) rfl⟩
theorem lkX5_192 : VLK RX5 192 yX4_names := ⟨gi 640 _ (by decide +kernel) rfl, gi 393 _ (by decide +kernel) rfl, gi 394 _ (by decide +kernel) rfl⟩
theorem lkL_127 : VLK RL 127 yX5_count := ⟨gi 641 _ (by decide +kernel) rfl, gi 642 _ (by decide +kernel) rfl, gi 643 _ (by decide +kernel) rfl⟩
theorem clL_10 : Cond.classLink RL 10 RX6 ∈ gw := gi 645 _ (by decide +kernel) rfl
theorem lkL_12 : ILK RL 12 yX6_init := ⟨gi 647 _ (by decide +kernel) rfl, gi 648 _ (by decide +kernel) rfl, rfl⟩
theorem lkX6_1 : Cond.methodLink RX6 1 objectInit ∈ gw := gi 650 _ (by decide +kernel) rfl
theorem lkX6_87 : VLK RX6 87 yX6_begins := ⟨gi 651 _ (by decide +kernel) rfl, gi 653 _ (by decide +kernel) rfl, gi 30 _ (by decide +kernel) rfl⟩
theorem lkX6_90 : VLK RX6 90 yX6_settles := ⟨gi 655 _ (by decide +kernel) rfl, gi 657 _ (by decide +kernel) rfl, gi 31 _ (by decide +kernel) rfl⟩
theorem lkL_17 : VLK RL 17 yX6_type := ⟨gi 781 _ (by decide +kernel) rfl, gi 782 _ (by decide +kernel) rfl, gi 783 _ (by decide +kernel) rfl⟩
theorem lkX6_97 : SLK RX6 97 yX6_in := ⟨gi 785 _ (by decide +kernel) rfl, gi 786 _ (by decide +kernel) rfl⟩
theorem lkL_22 : VLK RL 22 yX6_clear := ⟨gi 788 _ (by decide +kernel) rfl, gi 789 _ (by decide +kernel) rfl, gi 790 _ (by decide +kernel) rfl⟩
theorem lkL_26 : VLK RL 26 yX6_desk := ⟨gi 792 _ (by decide +kernel) rfl, gi 793 _ (by decide +kernel) rfl, gi 794 _ (by decide +kernel) rfl⟩
theorem lkX6_131 : VLK RX6 131 yX6_advances := ⟨gi 796 _ (by decide +kernel) rfl, gi 798 _ (by decide +kernel) rfl, gi 32 _ (by decide +kernel) rfl⟩
theorem lkX6_107 : VLK RX6 107 yX6_letterAt := ⟨gi 800 _ (by decide +kernel) rfl, gi 802 _ (by decide +kernel) rfl, gi 33 _ (by decide +kernel) rfl⟩
theorem lkX6_120 : SLK RX6 120 yX6_isSign := ⟨gi 804 _ (by decide +kernel) rfl, gi 805 _ (by decide +kernel) rfl⟩
theorem lkX6_127 : VLK RX6 127 yX6_isWell := ⟨gi 807 _ (by decide +kernel) rfl, gi 809 _ (by decide +kernel) rfl, gi 34 _ (by decide +kernel) rfl⟩
theorem lkX6_134 : VLK RX6 134 yX6_isThis := ⟨gi 811 _ (by decide +kernel) rfl, gi 813 _ (by decide +kernel) rfl, gi 35 _ (by decide +kernel) rfl⟩
theorem lkX6_137 : VLK RX6 137 yX6_takes := ⟨gi 815 _ (by decide +kernel) rfl, gi 817 _ (by decide +kernel) rfl, gi 36 _ (by decide +kernel) rfl⟩
theorem lkX6_196 : VLK RX6 196 yX6_readsItem := ⟨gi 819 _ (by decide +kernel) rfl, gi 821 _ (by decide +kernel) rfl, gi 37 _ (by decide +kernel) rfl⟩
theorem lkX6_190 : VLK RX6 190 yX6_readsSum := ⟨gi 823 _ (by decide +kernel) rfl, gi 825 _ (by decide +kernel) rfl, gi 38 _ (by decide +kernel) rfl⟩
theorem lkX6_184 : VLK RX6 184 yX6_readsPart := ⟨gi 827 _ (by decide +kernel) rfl, gi 829 _ (by decide +kernel) rfl, gi 39 _ (by decide +kernel) rfl⟩
theorem lkX6_174 : VLK RX6 174 yX6_waits := ⟨gi 831 _ (by decide +kernel) rfl, gi 833 _ (by decide +kernel) rfl, gi 40 _ (by decide +kernel) rfl⟩
theorem lkX6_168 : VLK RX6 168 yX6_counts := ⟨gi 835 _ (by decide +kernel) rfl, gi 837 _ (by decide +kernel) rfl, gi 41 _ (by decide +kernel) rfl⟩
theorem lkX6_141 : VLK RX6 141 yX6_isNumber := ⟨gi 839 _ (by decide +kernel) rfl, gi 841 _ (by decide +kernel) rfl, gi 42 _ (by decide +kernel) rfl⟩
theorem lkX6_157 : VLK RX6 157 yX6_makes := ⟨gi 843 _ (by decide +kernel) rfl, gi 845 _ (by decide +kernel) rfl, gi 43 _ (by decide +kernel) rfl⟩
theorem lkX6_178 : VLK RX6 178 yX6_isSourceSign := ⟨gi 847 _ (by decide +kernel) rfl, gi 849 _ (by decide +kernel) rfl, gi 44 _ (by decide +kernel) rfl⟩
theorem lkX6_181 : VLK RX6 181 yX6_partDone := ⟨gi 851 _ (by decide +kernel) rfl, gi 853 _ (by decide +kernel) rfl, gi 45 _ (by decide +kernel) rfl⟩
theorem lkX6_161 : VLK RX6 161 yX6_lastWaiting := ⟨gi 855 _ (by decide +kernel) rfl, gi 857 _ (by decide +kernel) rfl, gi 46 _ (by decide +kernel) rfl⟩
theorem lkX6_165 : VLK RX6 165 yX6_doesLast := ⟨gi 859 _ (by decide +kernel) rfl, gi 861 _ (by decide +kernel) rfl, gi 47 _ (by decide +kernel) rfl⟩
theorem lkX6_187 : VLK RX6 187 yX6_readsBehind := ⟨gi 863 _ (by decide +kernel) rfl, gi 865 _ (by decide +kernel) rfl, gi 48 _ (by decide +kernel) rfl⟩
theorem lkX6_193 : VLK RX6 193 yX6_signed := ⟨gi 867 _ (by decide +kernel) rfl, gi 869 _ (by decide +kernel) rfl, gi 49 _ (by decide +kernel) rfl⟩
theorem lkL_31 : VLK RL 31 yX6_source := ⟨gi 871 _ (by decide +kernel) rfl, gi 872 _ (by decide +kernel) rfl, gi 873 _ (by decide +kernel) rfl⟩
theorem lkX6_208 : SLK RX6 208 yX6_isSource := ⟨gi 875 _ (by decide +kernel) rfl, gi 876 _ (by decide +kernel) rfl⟩
theorem kX6_211 : Cond.constantLong RX6 211 (-9000000000000000000 : Int64) ∈ gw := gi 878 _ (by decide +kernel) rfl
theorem lkL_35 : VLK RL 35 yX6_joint := ⟨gi 879 _ (by decide +kernel) rfl, gi 880 _ (by decide +kernel) rfl, gi 881 _ (by decide +kernel) rfl⟩
theorem lkX6_213 : VLK RX6 213 yX6_jointOf := ⟨gi 883 _ (by decide +kernel) rfl, gi 885 _ (by decide +kernel) rfl, gi 50 _ (by decide +kernel) rfl⟩
theorem lkL_40 : VLK RL 40 yX6_values := ⟨gi 887 _ (by decide +kernel) rfl, gi 888 _ (by decide +kernel) rfl, gi 889 _ (by decide +kernel) rfl⟩
theorem lkX6_217 : VLK RX6 217 yX6_notes := ⟨gi 891 _ (by decide +kernel) rfl, gi 893 _ (by decide +kernel) rfl, gi 51 _ (by decide +kernel) rfl⟩
theorem lkL_44 : VLK RL 44 yX6_spreads := ⟨gi 895 _ (by decide +kernel) rfl, gi 896 _ (by decide +kernel) rfl, gi 897 _ (by decide +kernel) rfl⟩
theorem lkL_49 : VLK RL 49 yX6_joints := ⟨gi 899 _ (by decide +kernel) rfl, gi 900 _ (by decide +kernel) rfl, gi 901 _ (by decide +kernel) rfl⟩
theorem lkL_53 : VLK RL 53 yX6_undo := ⟨gi 903 _ (by decide +kernel) rfl, gi 904 _ (by decide +kernel) rfl, gi 905 _ (by decide +kernel) rfl⟩
theorem lkL_58 : VLK RL 58 yX6_value := ⟨gi 907 _ (by decide +kernel) rfl, gi 908 _ (by decide +kernel) rfl, gi 909 _ (by decide +kernel) rfl⟩
theorem lkX6_243 : VLK RX6 243 yX6_isFormula := ⟨gi 911 _ (by decide +kernel) rfl, gi 913 _ (by decide +kernel) rfl, gi 52 _ (by decide +kernel) rfl⟩
theorem lkX6_246 : VLK RX6 246 yX6_goes := ⟨gi 915 _ (by decide +kernel) rfl, gi 917 _ (by decide +kernel) rfl, gi 53 _ (by decide +kernel) rfl⟩
theorem lkX6_226 : VLK RX6 226 yX6_goesLeaf := ⟨gi 919 _ (by decide +kernel) rfl, gi 921 _ (by decide +kernel) rfl, gi 54 _ (by decide +kernel) rfl⟩
theorem lkX6_229 : VLK RX6 229 yX6_rootOf := ⟨gi 923 _ (by decide +kernel) rfl, gi 925 _ (by decide +kernel) rfl, gi 55 _ (by decide +kernel) rfl⟩
theorem lkX6_232 : VLK RX6 232 yX6_copiesNode := ⟨gi 927 _ (by decide +kernel) rfl, gi 929 _ (by decide +kernel) rfl, gi 56 _ (by decide +kernel) rfl⟩
theorem lkX6_236 : VLK RX6 236 yX6_goesOne := ⟨gi 931 _ (by decide +kernel) rfl, gi 933 _ (by decide +kernel) rfl, gi 57 _ (by decide +kernel) rfl⟩
theorem kX6_220 : Cond.constantLong RX6 220 (-1 : Int64) ∈ gw := gi 935 _ (by decide +kernel) rfl
theorem lkX6_222 : SLK RX6 222 yX6_power := ⟨gi 936 _ (by decide +kernel) rfl, gi 937 _ (by decide +kernel) rfl⟩
theorem lkX6_239 : VLK RX6 239 yX6_goesTwo := ⟨gi 939 _ (by decide +kernel) rfl, gi 941 _ (by decide +kernel) rfl, gi 58 _ (by decide +kernel) rfl⟩
theorem lkL_62 : VLK RL 62 yX6_slope := ⟨gi 943 _ (by decide +kernel) rfl, gi 944 _ (by decide +kernel) rfl, gi 945 _ (by decide +kernel) rfl⟩
theorem lkX6_249 : VLK RX6 249 yX6_slopeOf := ⟨gi 947 _ (by decide +kernel) rfl, gi 949 _ (by decide +kernel) rfl, gi 59 _ (by decide +kernel) rfl⟩
theorem lkL_67 : VLK RL 67 yX6_bend := ⟨gi 951 _ (by decide +kernel) rfl, gi 952 _ (by decide +kernel) rfl, gi 953 _ (by decide +kernel) rfl⟩
theorem lkL_71 : VLK RL 71 yX6_whole := ⟨gi 955 _ (by decide +kernel) rfl, gi 956 _ (by decide +kernel) rfl, gi 957 _ (by decide +kernel) rfl⟩
theorem lkX6_256 : VLK RX6 256 yX6_togetherOf := ⟨gi 959 _ (by decide +kernel) rfl, gi 961 _ (by decide +kernel) rfl, gi 60 _ (by decide +kernel) rfl⟩
theorem lkX6_253 : SLK RX6 253 yX6_has := ⟨gi 963 _ (by decide +kernel) rfl, gi 964 _ (by decide +kernel) rfl⟩
theorem lkL_75 : VLK RL 75 yX6_together := ⟨gi 966 _ (by decide +kernel) rfl, gi 967 _ (by decide +kernel) rfl, gi 968 _ (by decide +kernel) rfl⟩
theorem lkL_79 : VLK RL 79 yX6_share := ⟨gi 970 _ (by decide +kernel) rfl, gi 971 _ (by decide +kernel) rfl, gi 972 _ (by decide +kernel) rfl⟩
theorem lkX6_260 : VLK RX6 260 yX6_shareOf := ⟨gi 974 _ (by decide +kernel) rfl, gi 976 _ (by decide +kernel) rfl, gi 61 _ (by decide +kernel) rfl⟩
theorem lkL_83 : VLK RL 83 yX6_left := ⟨gi 978 _ (by decide +kernel) rfl, gi 979 _ (by decide +kernel) rfl, gi 980 _ (by decide +kernel) rfl⟩
theorem lkL_90 : VLK RL 90 yX6_fewest := ⟨gi 982 _ (by decide +kernel) rfl, gi 983 _ (by decide +kernel) rfl, gi 984 _ (by decide +kernel) rfl⟩
theorem lkX6_263 : SLK RX6 263 yX6_ones := ⟨gi 986 _ (by decide +kernel) rfl, gi 987 _ (by decide +kernel) rfl⟩
theorem lkL_94 : VLK RL 94 yX6_takes_ := ⟨gi 989 _ (by decide +kernel) rfl, gi 990 _ (by decide +kernel) rfl, gi 991 _ (by decide +kernel) rfl⟩
theorem lkX6_266 : VLK RX6 266 yX6_takesOf := ⟨gi 993 _ (by decide +kernel) rfl, gi 995 _ (by decide +kernel) rfl, gi 62 _ (by decide +kernel) rfl⟩
theorem lkL_98 : VLK RL 98 yX6_first := ⟨gi 997 _ (by decide +kernel) rfl, gi 998 _ (by decide +kernel) rfl, gi 999 _ (by decide +kernel) rfl⟩
theorem lkL_102 : VLK RL 102 yX6_off := ⟨gi 1001 _ (by decide +kernel) rfl, gi 1002 _ (by decide +kernel) rfl, gi 1003 _ (by decide +kernel) rfl⟩
theorem lkX6_269 : VLK RX6 269 yX6_valueIf := ⟨gi 1005 _ (by decide +kernel) rfl, gi 1007 _ (by decide +kernel) rfl, gi 63 _ (by decide +kernel) rfl⟩
theorem lkL_106 : VLK RL 106 yX6_sees := ⟨gi 1009 _ (by decide +kernel) rfl, gi 1010 _ (by decide +kernel) rfl, gi 1011 _ (by decide +kernel) rfl⟩
theorem lkL_110 : VLK RL 110 yX6_forget := ⟨gi 1013 _ (by decide +kernel) rfl, gi 1014 _ (by decide +kernel) rfl, gi 1015 _ (by decide +kernel) rfl⟩
theorem lkL_114 : VLK RL 114 yX6_unseen := ⟨gi 1017 _ (by decide +kernel) rfl, gi 1018 _ (by decide +kernel) rfl, gi 1019 _ (by decide +kernel) rfl⟩
theorem lkL_118 : VLK RL 118 yX6_keep := ⟨gi 1021 _ (by decide +kernel) rfl, gi 1022 _ (by decide +kernel) rfl, gi 1023 _ (by decide +kernel) rfl⟩
theorem lkL_122 : VLK RL 122 yX6_back := ⟨gi 1025 _ (by decide +kernel) rfl, gi 1026 _ (by decide +kernel) rfl, gi 1027 _ (by decide +kernel) rfl⟩
theorem lkL_126 : VLK RL 126 yX6_formula := ⟨gi 1029 _ (by decide +kernel) rfl, gi 1030 _ (by decide +kernel) rfl, gi 1031 _ (by decide +kernel) rfl⟩
theorem lkL_130 : VLK RL 130 yX6_count := ⟨gi 1033 _ (by decide +kernel) rfl, gi 1034 _ (by decide +kernel) rfl, gi 1035 _ (by decide +kernel) rfl⟩
theorem kL_84 : Cond.constantLong RL 84 (4294967295 : Int64) ∈ gw := gi 1037 _ (by decide +kernel) rfl
theorem inst0 : Cond.instantiable RX0 2 ∈ gw := gi 82 _ (by decide +kernel) rfl
theorem init0 : Cond.initialized RX0 ∈ gw := gi 66 _ (by decide +kernel) rfl
def tm0 : List Nat := [1, 1]
theorem inst1 : Cond.instantiable RX1 4 ∈ gw := gi 170 _ (by decide +kernel) rfl
theorem init1 : Cond.initialized RX1 ∈ gw := gi 69 _ (by decide +kernel) rfl
def tm1 : List Nat := [1, 1, 1, 0]
theorem inst2 : Cond.instantiable RX2 9 ∈ gw := gi 130 _ (by decide +kernel) rfl
theorem init2 : Cond.initialized RX2 ∈ gw := gi 68 _ (by decide +kernel) rfl
def tm2 : List Nat := [1, 1, 1, 0, 0, 0, 0, 0, 0]
theorem inst3 : Cond.instantiable RX3 6 ∈ gw := gi 189 _ (by decide +kernel) rfl
theorem init3 : Cond.initialized RX3 ∈ gw := gi 70 _ (by decide +kernel) rfl
def tm3 : List Nat := [1, 1, 1, 1, 1, 1]
theorem inst4 : Cond.instantiable RX4 8 ∈ gw := gi 96 _ (by decide +kernel) rfl
theorem init4 : Cond.initialized RX4 ∈ gw := gi 67 _ (by decide +kernel) rfl
def tm4 : List Nat := [1, 1, 1, 1, 1, 1, 0, 0]
theorem inst5 : Cond.instantiable RX5 14 ∈ gw := gi 74 _ (by decide +kernel) rfl
theorem init5 : Cond.initialized RX5 ∈ gw := gi 65 _ (by decide +kernel) rfl
def tm5 : List Nat := [1, 1, 1, 1, 1, 1, 1, 0, 0, 1, 1, 0, 1, 1]
theorem inst6 : Cond.instantiable RX6 40 ∈ gw := gi 646 _ (by decide +kernel) rfl
theorem init6 : Cond.initialized RX6 ∈ gw := gi 71 _ (by decide +kernel) rfl
def tm6 : List Nat := [0, 1, 0, 0, 0, 0, 0, 0, 0, 1, 1, 1, 1, 1, 0, 1, 1, 1, 1, 1, 1, 1, 1, 0, 1, 1, 1, 1, 0, 1, 0, 1, 0, 0, 0, 1, 1, 1, 1, 1]
theorem arrc_int : Cond.arrayClass .int ∈ gw := gi 94 _ (by decide +kernel) rfl
theorem arrc_long : Cond.arrayClass .long ∈ gw := gi 213 _ (by decide +kernel) rfl
theorem arrc_boolean : Cond.arrayClass .boolean ∈ gw := gi 780 _ (by decide +kernel) rfl
theorem obj_im : Cond.instanceMethod objectInit ∈ gw := gi 79 _ (by decide +kernel) rfl
theorem obj_code : Cond.code objectInit ⟨#[0xb1]⟩ 1 none ∈ gw := gi 80 _ (by decide +kernel) rfl
end
section
theorem dX0_init_0 : decode cX0_init 0 = .ok (.aload_n 0, 1) := by decide +kernel
theorem dX0_init_1 : decode cX0_init 1 = .ok (.invokespecial 3, 3) := by decide +kernel
theorem dX0_init_4 : decode cX0_init 4 = .ok (.aload_n 0, 1) := by decide +kernel
theorem dX0_init_5 : decode cX0_init 5 = .ok (.bipush 6, 2) := by decide +kernel
theorem dX0_init_7 : decode cX0_init 7 = .ok (.newarray .int, 2) := by decide +kernel
theorem dX0_init_9 : decode cX0_init 9 = .ok (.putfield 9, 3) := by decide +kernel
theorem dX0_init_12 : decode cX0_init 12 = .ok (.aload_n 0, 1) := by decide +kernel
theorem dX0_init_13 : decode cX0_init 13 = .ok (.bipush 36, 2) := by decide +kernel
theorem dX0_init_15 : decode cX0_init 15 = .ok (.newarray .int, 2) := by decide +kernel
theorem dX0_init_17 : decode cX0_init 17 = .ok (.putfield 15, 3) := by decide +kernel
theorem dX0_init_20 : decode cX0_init 20 = .ok (.return_, 1) := by decide +kernel
theorem dX0_worth_0 : decode cX0_worth 0 = .ok (.iload_n 1, 1) := by decide +kernel
theorem dX0_worth_1 : decode cX0_worth 1 = .ok (.invokestatic 18, 3) := by decide +kernel
theorem dX0_worth_4 : decode cX0_worth 4 = .ok (.ifCond .eq 12, 3) := by decide +kernel
theorem dX0_worth_7 : decode cX0_worth 7 = .ok (.aload_n 0, 1) := by decide +kernel
theorem dX0_worth_8 : decode cX0_worth 8 = .ok (.getfield 9, 3) := by decide +kernel
theorem dX0_worth_11 : decode cX0_worth 11 = .ok (.iload_n 1, 1) := by decide +kernel
theorem dX0_worth_12 : decode cX0_worth 12 = .ok (.iaload, 1) := by decide +kernel
theorem dX0_worth_13 : decode cX0_worth 13 = .ok (.goto 4, 3) := by decide +kernel
theorem dX0_worth_16 : decode cX0_worth 16 = .ok (.iconst 0, 1) := by decide +kernel
theorem dX0_worth_17 : decode cX0_worth 17 = .ok (.ireturn, 1) := by decide +kernel
theorem dX0_spread_0 : decode cX0_spread 0 = .ok (.iload_n 1, 1) := by decide +kernel
theorem dX0_spread_1 : decode cX0_spread 1 = .ok (.invokestatic 18, 3) := by decide +kernel
theorem dX0_spread_4 : decode cX0_spread 4 = .ok (.ifCond .eq 24, 3) := by decide +kernel
theorem dX0_spread_7 : decode cX0_spread 7 = .ok (.iload_n 2, 1) := by decide +kernel
theorem dX0_spread_8 : decode cX0_spread 8 = .ok (.invokestatic 18, 3) := by decide +kernel
theorem dX0_spread_11 : decode cX0_spread 11 = .ok (.ifCond .eq 17, 3) := by decide +kernel
theorem dX0_spread_14 : decode cX0_spread 14 = .ok (.aload_n 0, 1) := by decide +kernel
theorem dX0_spread_15 : decode cX0_spread 15 = .ok (.getfield 15, 3) := by decide +kernel
theorem dX0_spread_18 : decode cX0_spread 18 = .ok (.iload_n 1, 1) := by decide +kernel
theorem dX0_spread_19 : decode cX0_spread 19 = .ok (.bipush 6, 2) := by decide +kernel
theorem dX0_spread_21 : decode cX0_spread 21 = .ok (.imul, 1) := by decide +kernel
theorem dX0_spread_22 : decode cX0_spread 22 = .ok (.iload_n 2, 1) := by decide +kernel
theorem dX0_spread_23 : decode cX0_spread 23 = .ok (.iadd, 1) := by decide +kernel
theorem dX0_spread_24 : decode cX0_spread 24 = .ok (.iaload, 1) := by decide +kernel
theorem dX0_spread_25 : decode cX0_spread 25 = .ok (.goto 4, 3) := by decide +kernel
theorem dX0_spread_28 : decode cX0_spread 28 = .ok (.iconst 0, 1) := by decide +kernel
theorem dX0_spread_29 : decode cX0_spread 29 = .ok (.ireturn, 1) := by decide +kernel
theorem dX0_setWorth_0 : decode cX0_setWorth 0 = .ok (.iload_n 1, 1) := by decide +kernel
theorem dX0_setWorth_1 : decode cX0_setWorth 1 = .ok (.invokestatic 18, 3) := by decide +kernel
theorem dX0_setWorth_4 : decode cX0_setWorth 4 = .ok (.ifCond .eq 10, 3) := by decide +kernel
theorem dX0_setWorth_7 : decode cX0_setWorth 7 = .ok (.aload_n 0, 1) := by decide +kernel
theorem dX0_setWorth_8 : decode cX0_setWorth 8 = .ok (.getfield 9, 3) := by decide +kernel
theorem dX0_setWorth_11 : decode cX0_setWorth 11 = .ok (.iload_n 1, 1) := by decide +kernel
theorem dX0_setWorth_12 : decode cX0_setWorth 12 = .ok (.iload_n 2, 1) := by decide +kernel
theorem dX0_setWorth_13 : decode cX0_setWorth 13 = .ok (.iastore, 1) := by decide +kernel
theorem dX0_setWorth_14 : decode cX0_setWorth 14 = .ok (.return_, 1) := by decide +kernel
theorem dX0_setSpread_0 : decode cX0_setSpread 0 = .ok (.iload_n 1, 1) := by decide +kernel
theorem dX0_setSpread_1 : decode cX0_setSpread 1 = .ok (.invokestatic 18, 3) := by decide +kernel
theorem dX0_setSpread_4 : decode cX0_setSpread 4 = .ok (.ifCond .eq 34, 3) := by decide +kernel
theorem dX0_setSpread_7 : decode cX0_setSpread 7 = .ok (.iload_n 2, 1) := by decide +kernel
theorem dX0_setSpread_8 : decode cX0_setSpread 8 = .ok (.invokestatic 18, 3) := by decide +kernel
theorem dX0_setSpread_11 : decode cX0_setSpread 11 = .ok (.ifCond .eq 27, 3) := by decide +kernel
theorem dX0_setSpread_14 : decode cX0_setSpread 14 = .ok (.aload_n 0, 1) := by decide +kernel
theorem dX0_setSpread_15 : decode cX0_setSpread 15 = .ok (.getfield 15, 3) := by decide +kernel
theorem dX0_setSpread_18 : decode cX0_setSpread 18 = .ok (.iload_n 1, 1) := by decide +kernel
theorem dX0_setSpread_19 : decode cX0_setSpread 19 = .ok (.bipush 6, 2) := by decide +kernel
theorem dX0_setSpread_21 : decode cX0_setSpread 21 = .ok (.imul, 1) := by decide +kernel
theorem dX0_setSpread_22 : decode cX0_setSpread 22 = .ok (.iload_n 2, 1) := by decide +kernel
theorem dX0_setSpread_23 : decode cX0_setSpread 23 = .ok (.iadd, 1) := by decide +kernel
theorem dX0_setSpread_24 : decode cX0_setSpread 24 = .ok (.iload_n 3, 1) := by decide +kernel
theorem dX0_setSpread_25 : decode cX0_setSpread 25 = .ok (.iastore, 1) := by decide +kernel
theorem dX0_setSpread_26 : decode cX0_setSpread 26 = .ok (.aload_n 0, 1) := by decide +kernel
theorem dX0_setSpread_27 : decode cX0_setSpread 27 = .ok (.getfield 15, 3) := by decide +kernel
theorem dX0_setSpread_30 : decode cX0_setSpread 30 = .ok (.iload_n 2, 1) := by decide +kernel
theorem dX0_setSpread_31 : decode cX0_setSpread 31 = .ok (.bipush 6, 2) := by decide +kernel
theorem dX0_setSpread_33 : decode cX0_setSpread 33 = .ok (.imul, 1) := by decide +kernel
theorem dX0_setSpread_34 : decode cX0_setSpread 34 = .ok (.iload_n 1, 1) := by decide +kernel
theorem dX0_setSpread_35 : decode cX0_setSpread 35 = .ok (.iadd, 1) := by decide +kernel
theorem dX0_setSpread_36 : decode cX0_setSpread 36 = .ok (.iload_n 3, 1) := by decide +kernel
theorem dX0_setSpread_37 : decode cX0_setSpread 37 = .ok (.iastore, 1) := by decide +kernel
theorem dX0_setSpread_38 : decode cX0_setSpread 38 = .ok (.return_, 1) := by decide +kernel
theorem dX0_reset_0 : decode cX0_reset 0 = .ok (.iconst 0, 1) := by decide +kernel
theorem dX0_reset_1 : decode cX0_reset 1 = .ok (.istore_n 1, 1) := by decide +kernel
theorem dX0_reset_2 : decode cX0_reset 2 = .ok (.iload_n 1, 1) := by decide +kernel
theorem dX0_reset_3 : decode cX0_reset 3 = .ok (.bipush 6, 2) := by decide +kernel
theorem dX0_reset_5 : decode cX0_reset 5 = .ok (.if_icmp .ge 16, 3) := by decide +kernel
theorem dX0_reset_8 : decode cX0_reset 8 = .ok (.aload_n 0, 1) := by decide +kernel
theorem dX0_reset_9 : decode cX0_reset 9 = .ok (.getfield 9, 3) := by decide +kernel
theorem dX0_reset_12 : decode cX0_reset 12 = .ok (.iload_n 1, 1) := by decide +kernel
theorem dX0_reset_13 : decode cX0_reset 13 = .ok (.iconst 0, 1) := by decide +kernel
theorem dX0_reset_14 : decode cX0_reset 14 = .ok (.iastore, 1) := by decide +kernel
theorem dX0_reset_15 : decode cX0_reset 15 = .ok (.iinc 1 1, 3) := by decide +kernel
theorem dX0_reset_18 : decode cX0_reset 18 = .ok (.goto (-16), 3) := by decide +kernel
theorem dX0_reset_21 : decode cX0_reset 21 = .ok (.iconst 0, 1) := by decide +kernel
theorem dX0_reset_22 : decode cX0_reset 22 = .ok (.istore_n 1, 1) := by decide +kernel
theorem dX0_reset_23 : decode cX0_reset 23 = .ok (.iload_n 1, 1) := by decide +kernel
theorem dX0_reset_24 : decode cX0_reset 24 = .ok (.bipush 36, 2) := by decide +kernel
theorem dX0_reset_26 : decode cX0_reset 26 = .ok (.if_icmp .ge 16, 3) := by decide +kernel
theorem dX0_reset_29 : decode cX0_reset 29 = .ok (.aload_n 0, 1) := by decide +kernel
theorem dX0_reset_30 : decode cX0_reset 30 = .ok (.getfield 15, 3) := by decide +kernel
theorem dX0_reset_33 : decode cX0_reset 33 = .ok (.iload_n 1, 1) := by decide +kernel
theorem dX0_reset_34 : decode cX0_reset 34 = .ok (.iconst 0, 1) := by decide +kernel
theorem dX0_reset_35 : decode cX0_reset 35 = .ok (.iastore, 1) := by decide +kernel
theorem dX0_reset_36 : decode cX0_reset 36 = .ok (.iinc 1 1, 3) := by decide +kernel
theorem dX0_reset_39 : decode cX0_reset 39 = .ok (.goto (-16), 3) := by decide +kernel
theorem dX0_reset_42 : decode cX0_reset 42 = .ok (.return_, 1) := by decide +kernel
theorem dX0_take_0 : decode cX0_take 0 = .ok (.iconst 0, 1) := by decide +kernel
theorem dX0_take_1 : decode cX0_take 1 = .ok (.istore_n 2, 1) := by decide +kernel
theorem dX0_take_2 : decode cX0_take 2 = .ok (.iload_n 2, 1) := by decide +kernel
theorem dX0_take_3 : decode cX0_take 3 = .ok (.bipush 6, 2) := by decide +kernel
theorem dX0_take_5 : decode cX0_take 5 = .ok (.if_icmp .ge 21, 3) := by decide +kernel
theorem dX0_take_8 : decode cX0_take 8 = .ok (.aload_n 0, 1) := by decide +kernel
theorem dX0_take_9 : decode cX0_take 9 = .ok (.getfield 9, 3) := by decide +kernel
theorem dX0_take_12 : decode cX0_take 12 = .ok (.iload_n 2, 1) := by decide +kernel
theorem dX0_take_13 : decode cX0_take 13 = .ok (.aload_n 1, 1) := by decide +kernel
theorem dX0_take_14 : decode cX0_take 14 = .ok (.getfield 9, 3) := by decide +kernel
theorem dX0_take_17 : decode cX0_take 17 = .ok (.iload_n 2, 1) := by decide +kernel
theorem dX0_take_18 : decode cX0_take 18 = .ok (.iaload, 1) := by decide +kernel
theorem dX0_take_19 : decode cX0_take 19 = .ok (.iastore, 1) := by decide +kernel
theorem dX0_take_20 : decode cX0_take 20 = .ok (.iinc 2 1, 3) := by decide +kernel
theorem dX0_take_23 : decode cX0_take 23 = .ok (.goto (-21), 3) := by decide +kernel
theorem dX0_take_26 : decode cX0_take 26 = .ok (.iconst 0, 1) := by decide +kernel
theorem dX0_take_27 : decode cX0_take 27 = .ok (.istore_n 2, 1) := by decide +kernel
theorem dX0_take_28 : decode cX0_take 28 = .ok (.iload_n 2, 1) := by decide +kernel
theorem dX0_take_29 : decode cX0_take 29 = .ok (.bipush 36, 2) := by decide +kernel
theorem dX0_take_31 : decode cX0_take 31 = .ok (.if_icmp .ge 21, 3) := by decide +kernel
theorem dX0_take_34 : decode cX0_take 34 = .ok (.aload_n 0, 1) := by decide +kernel
theorem dX0_take_35 : decode cX0_take 35 = .ok (.getfield 15, 3) := by decide +kernel
theorem dX0_take_38 : decode cX0_take 38 = .ok (.iload_n 2, 1) := by decide +kernel
theorem dX0_take_39 : decode cX0_take 39 = .ok (.aload_n 1, 1) := by decide +kernel
theorem dX0_take_40 : decode cX0_take 40 = .ok (.getfield 15, 3) := by decide +kernel
theorem dX0_take_43 : decode cX0_take 43 = .ok (.iload_n 2, 1) := by decide +kernel
theorem dX0_take_44 : decode cX0_take 44 = .ok (.iaload, 1) := by decide +kernel
theorem dX0_take_45 : decode cX0_take 45 = .ok (.iastore, 1) := by decide +kernel
theorem dX0_take_46 : decode cX0_take 46 = .ok (.iinc 2 1, 3) := by decide +kernel
theorem dX0_take_49 : decode cX0_take 49 = .ok (.goto (-21), 3) := by decide +kernel
theorem dX0_take_52 : decode cX0_take 52 = .ok (.return_, 1) := by decide +kernel
theorem dX1_init_0 : decode cX1_init 0 = .ok (.aload_n 0, 1) := by decide +kernel
theorem dX1_init_1 : decode cX1_init 1 = .ok (.invokespecial 3, 3) := by decide +kernel
theorem dX1_init_4 : decode cX1_init 4 = .ok (.aload_n 0, 1) := by decide +kernel
theorem dX1_init_5 : decode cX1_init 5 = .ok (.bipush 10, 2) := by decide +kernel
theorem dX1_init_7 : decode cX1_init 7 = .ok (.newarray .int, 2) := by decide +kernel
theorem dX1_init_9 : decode cX1_init 9 = .ok (.putfield 9, 3) := by decide +kernel
theorem dX1_init_12 : decode cX1_init 12 = .ok (.aload_n 0, 1) := by decide +kernel
theorem dX1_init_13 : decode cX1_init 13 = .ok (.bipush 10, 2) := by decide +kernel
theorem dX1_init_15 : decode cX1_init 15 = .ok (.newarray .int, 2) := by decide +kernel
theorem dX1_init_17 : decode cX1_init 17 = .ok (.putfield 15, 3) := by decide +kernel
theorem dX1_init_20 : decode cX1_init 20 = .ok (.aload_n 0, 1) := by decide +kernel
theorem dX1_init_21 : decode cX1_init 21 = .ok (.bipush 10, 2) := by decide +kernel
theorem dX1_init_23 : decode cX1_init 23 = .ok (.newarray .int, 2) := by decide +kernel
theorem dX1_init_25 : decode cX1_init 25 = .ok (.putfield 18, 3) := by decide +kernel
theorem dX1_init_28 : decode cX1_init 28 = .ok (.return_, 1) := by decide +kernel
theorem dX1_known_0 : decode cX1_known 0 = .ok (.aload_n 0, 1) := by decide +kernel
theorem dX1_known_1 : decode cX1_known 1 = .ok (.getfield 21, 3) := by decide +kernel
theorem dX1_known_4 : decode cX1_known 4 = .ok (.ireturn, 1) := by decide +kernel
theorem dX1_lose_0 : decode cX1_lose 0 = .ok (.aload_n 0, 1) := by decide +kernel
theorem dX1_lose_1 : decode cX1_lose 1 = .ok (.iconst 0, 1) := by decide +kernel
theorem dX1_lose_2 : decode cX1_lose 2 = .ok (.putfield 21, 3) := by decide +kernel
theorem dX1_lose_5 : decode cX1_lose 5 = .ok (.return_, 1) := by decide +kernel
theorem dX1_add_0 : decode cX1_add 0 = .ok (.aload_n 0, 1) := by decide +kernel
theorem dX1_add_1 : decode cX1_add 1 = .ok (.getfield 21, 3) := by decide +kernel
theorem dX1_add_4 : decode cX1_add 4 = .ok (.bipush 10, 2) := by decide +kernel
theorem dX1_add_6 : decode cX1_add 6 = .ok (.if_icmp .lt 7, 3) := by decide +kernel
theorem dX1_add_9 : decode cX1_add 9 = .ok (.aload_n 0, 1) := by decide +kernel
theorem dX1_add_10 : decode cX1_add 10 = .ok (.invokevirtual 25, 3) := by decide +kernel
theorem dX1_add_13 : decode cX1_add 13 = .ok (.aload_n 0, 1) := by decide +kernel
theorem dX1_add_14 : decode cX1_add 14 = .ok (.getfield 21, 3) := by decide +kernel
theorem dX1_add_17 : decode cX1_add 17 = .ok (.ifCond .lt 52, 3) := by decide +kernel
theorem dX1_add_20 : decode cX1_add 20 = .ok (.aload_n 0, 1) := by decide +kernel
theorem dX1_add_21 : decode cX1_add 21 = .ok (.getfield 21, 3) := by decide +kernel
theorem dX1_add_24 : decode cX1_add 24 = .ok (.bipush 10, 2) := by decide +kernel
theorem dX1_add_26 : decode cX1_add 26 = .ok (.if_icmp .ge 43, 3) := by decide +kernel
theorem dX1_add_29 : decode cX1_add 29 = .ok (.aload_n 0, 1) := by decide +kernel
theorem dX1_add_30 : decode cX1_add 30 = .ok (.getfield 9, 3) := by decide +kernel
theorem dX1_add_33 : decode cX1_add 33 = .ok (.aload_n 0, 1) := by decide +kernel
theorem dX1_add_34 : decode cX1_add 34 = .ok (.getfield 21, 3) := by decide +kernel
theorem dX1_add_37 : decode cX1_add 37 = .ok (.iload_n 1, 1) := by decide +kernel
theorem dX1_add_38 : decode cX1_add 38 = .ok (.iastore, 1) := by decide +kernel
theorem dX1_add_39 : decode cX1_add 39 = .ok (.aload_n 0, 1) := by decide +kernel
theorem dX1_add_40 : decode cX1_add 40 = .ok (.getfield 15, 3) := by decide +kernel
theorem dX1_add_43 : decode cX1_add 43 = .ok (.aload_n 0, 1) := by decide +kernel
theorem dX1_add_44 : decode cX1_add 44 = .ok (.getfield 21, 3) := by decide +kernel
theorem dX1_add_47 : decode cX1_add 47 = .ok (.iload_n 2, 1) := by decide +kernel
theorem dX1_add_48 : decode cX1_add 48 = .ok (.iastore, 1) := by decide +kernel
theorem dX1_add_49 : decode cX1_add 49 = .ok (.aload_n 0, 1) := by decide +kernel
theorem dX1_add_50 : decode cX1_add 50 = .ok (.getfield 18, 3) := by decide +kernel
theorem dX1_add_53 : decode cX1_add 53 = .ok (.aload_n 0, 1) := by decide +kernel
theorem dX1_add_54 : decode cX1_add 54 = .ok (.getfield 21, 3) := by decide +kernel
theorem dX1_add_57 : decode cX1_add 57 = .ok (.iload_n 3, 1) := by decide +kernel
theorem dX1_add_58 : decode cX1_add 58 = .ok (.iastore, 1) := by decide +kernel
theorem dX1_add_59 : decode cX1_add 59 = .ok (.aload_n 0, 1) := by decide +kernel
theorem dX1_add_60 : decode cX1_add 60 = .ok (.dup, 1) := by decide +kernel
theorem dX1_add_61 : decode cX1_add 61 = .ok (.getfield 21, 3) := by decide +kernel
theorem dX1_add_64 : decode cX1_add 64 = .ok (.iconst 1, 1) := by decide +kernel
theorem dX1_add_65 : decode cX1_add 65 = .ok (.iadd, 1) := by decide +kernel
theorem dX1_add_66 : decode cX1_add 66 = .ok (.putfield 21, 3) := by decide +kernel
theorem dX1_add_69 : decode cX1_add 69 = .ok (.return_, 1) := by decide +kernel
theorem dX1_takeBack_0 : decode cX1_takeBack 0 = .ok (.aload_n 0, 1) := by decide +kernel
theorem dX1_takeBack_1 : decode cX1_takeBack 1 = .ok (.getfield 21, 3) := by decide +kernel
theorem dX1_takeBack_4 : decode cX1_takeBack 4 = .ok (.iconst 1, 1) := by decide +kernel
theorem dX1_takeBack_5 : decode cX1_takeBack 5 = .ok (.isub, 1) := by decide +kernel
theorem dX1_takeBack_6 : decode cX1_takeBack 6 = .ok (.istore_n 2, 1) := by decide +kernel
theorem dX1_takeBack_7 : decode cX1_takeBack 7 = .ok (.iload_n 2, 1) := by decide +kernel
theorem dX1_takeBack_8 : decode cX1_takeBack 8 = .ok (.ifCond .lt 9, 3) := by decide +kernel
theorem dX1_takeBack_11 : decode cX1_takeBack 11 = .ok (.iload_n 2, 1) := by decide +kernel
theorem dX1_takeBack_12 : decode cX1_takeBack 12 = .ok (.bipush 10, 2) := by decide +kernel
theorem dX1_takeBack_14 : decode cX1_takeBack 14 = .ok (.if_icmp .lt 5, 3) := by decide +kernel
theorem dX1_takeBack_17 : decode cX1_takeBack 17 = .ok (.iconst 0, 1) := by decide +kernel
theorem dX1_takeBack_18 : decode cX1_takeBack 18 = .ok (.ireturn, 1) := by decide +kernel
theorem dX1_takeBack_19 : decode cX1_takeBack 19 = .ok (.aload_n 0, 1) := by decide +kernel
theorem dX1_takeBack_20 : decode cX1_takeBack 20 = .ok (.iload_n 2, 1) := by decide +kernel
theorem dX1_takeBack_21 : decode cX1_takeBack 21 = .ok (.putfield 21, 3) := by decide +kernel
theorem dX1_takeBack_24 : decode cX1_takeBack 24 = .ok (.aload_n 0, 1) := by decide +kernel
theorem dX1_takeBack_25 : decode cX1_takeBack 25 = .ok (.getfield 15, 3) := by decide +kernel
theorem dX1_takeBack_28 : decode cX1_takeBack 28 = .ok (.iload_n 2, 1) := by decide +kernel
theorem dX1_takeBack_29 : decode cX1_takeBack 29 = .ok (.iaload, 1) := by decide +kernel
theorem dX1_takeBack_30 : decode cX1_takeBack 30 = .ok (.iconst (-1), 1) := by decide +kernel
theorem dX1_takeBack_31 : decode cX1_takeBack 31 = .ok (.if_icmp .ne 22, 3) := by decide +kernel
theorem dX1_takeBack_34 : decode cX1_takeBack 34 = .ok (.aload_n 1, 1) := by decide +kernel
theorem dX1_takeBack_35 : decode cX1_takeBack 35 = .ok (.aload_n 0, 1) := by decide +kernel
theorem dX1_takeBack_36 : decode cX1_takeBack 36 = .ok (.getfield 9, 3) := by decide +kernel
theorem dX1_takeBack_39 : decode cX1_takeBack 39 = .ok (.iload_n 2, 1) := by decide +kernel
theorem dX1_takeBack_40 : decode cX1_takeBack 40 = .ok (.iaload, 1) := by decide +kernel
theorem dX1_takeBack_41 : decode cX1_takeBack 41 = .ok (.aload_n 0, 1) := by decide +kernel
theorem dX1_takeBack_42 : decode cX1_takeBack 42 = .ok (.getfield 18, 3) := by decide +kernel
theorem dX1_takeBack_45 : decode cX1_takeBack 45 = .ok (.iload_n 2, 1) := by decide +kernel
theorem dX1_takeBack_46 : decode cX1_takeBack 46 = .ok (.iaload, 1) := by decide +kernel
theorem dX1_takeBack_47 : decode cX1_takeBack 47 = .ok (.invokevirtual 28, 3) := by decide +kernel
theorem dX1_takeBack_50 : decode cX1_takeBack 50 = .ok (.goto 25, 3) := by decide +kernel
theorem dX1_takeBack_53 : decode cX1_takeBack 53 = .ok (.aload_n 1, 1) := by decide +kernel
theorem dX1_takeBack_54 : decode cX1_takeBack 54 = .ok (.aload_n 0, 1) := by decide +kernel
theorem dX1_takeBack_55 : decode cX1_takeBack 55 = .ok (.getfield 9, 3) := by decide +kernel
theorem dX1_takeBack_58 : decode cX1_takeBack 58 = .ok (.iload_n 2, 1) := by decide +kernel
theorem dX1_takeBack_59 : decode cX1_takeBack 59 = .ok (.iaload, 1) := by decide +kernel
theorem dX1_takeBack_60 : decode cX1_takeBack 60 = .ok (.aload_n 0, 1) := by decide +kernel
theorem dX1_takeBack_61 : decode cX1_takeBack 61 = .ok (.getfield 15, 3) := by decide +kernel
theorem dX1_takeBack_64 : decode cX1_takeBack 64 = .ok (.iload_n 2, 1) := by decide +kernel
theorem dX1_takeBack_65 : decode cX1_takeBack 65 = .ok (.iaload, 1) := by decide +kernel
theorem dX1_takeBack_66 : decode cX1_takeBack 66 = .ok (.aload_n 0, 1) := by decide +kernel
theorem dX1_takeBack_67 : decode cX1_takeBack 67 = .ok (.getfield 18, 3) := by decide +kernel
theorem dX1_takeBack_70 : decode cX1_takeBack 70 = .ok (.iload_n 2, 1) := by decide +kernel
theorem dX1_takeBack_71 : decode cX1_takeBack 71 = .ok (.iaload, 1) := by decide +kernel
theorem dX1_takeBack_72 : decode cX1_takeBack 72 = .ok (.invokevirtual 34, 3) := by decide +kernel
theorem dX1_takeBack_75 : decode cX1_takeBack 75 = .ok (.iconst 1, 1) := by decide +kernel
theorem dX1_takeBack_76 : decode cX1_takeBack 76 = .ok (.ireturn, 1) := by decide +kernel
theorem dX1_loseOldest_0 : decode cX1_loseOldest 0 = .ok (.iconst 1, 1) := by decide +kernel
theorem dX1_loseOldest_1 : decode cX1_loseOldest 1 = .ok (.istore_n 1, 1) := by decide +kernel
theorem dX1_loseOldest_2 : decode cX1_loseOldest 2 = .ok (.iload_n 1, 1) := by decide +kernel
theorem dX1_loseOldest_3 : decode cX1_loseOldest 3 = .ok (.bipush 10, 2) := by decide +kernel
theorem dX1_loseOldest_5 : decode cX1_loseOldest 5 = .ok (.if_icmp .ge 51, 3) := by decide +kernel
theorem dX1_loseOldest_8 : decode cX1_loseOldest 8 = .ok (.aload_n 0, 1) := by decide +kernel
theorem dX1_loseOldest_9 : decode cX1_loseOldest 9 = .ok (.getfield 9, 3) := by decide +kernel
theorem dX1_loseOldest_12 : decode cX1_loseOldest 12 = .ok (.iload_n 1, 1) := by decide +kernel
theorem dX1_loseOldest_13 : decode cX1_loseOldest 13 = .ok (.iconst 1, 1) := by decide +kernel
theorem dX1_loseOldest_14 : decode cX1_loseOldest 14 = .ok (.isub, 1) := by decide +kernel
theorem dX1_loseOldest_15 : decode cX1_loseOldest 15 = .ok (.aload_n 0, 1) := by decide +kernel
theorem dX1_loseOldest_16 : decode cX1_loseOldest 16 = .ok (.getfield 9, 3) := by decide +kernel
theorem dX1_loseOldest_19 : decode cX1_loseOldest 19 = .ok (.iload_n 1, 1) := by decide +kernel
theorem dX1_loseOldest_20 : decode cX1_loseOldest 20 = .ok (.iaload, 1) := by decide +kernel
theorem dX1_loseOldest_21 : decode cX1_loseOldest 21 = .ok (.iastore, 1) := by decide +kernel
theorem dX1_loseOldest_22 : decode cX1_loseOldest 22 = .ok (.aload_n 0, 1) := by decide +kernel
theorem dX1_loseOldest_23 : decode cX1_loseOldest 23 = .ok (.getfield 15, 3) := by decide +kernel
theorem dX1_loseOldest_26 : decode cX1_loseOldest 26 = .ok (.iload_n 1, 1) := by decide +kernel
theorem dX1_loseOldest_27 : decode cX1_loseOldest 27 = .ok (.iconst 1, 1) := by decide +kernel
theorem dX1_loseOldest_28 : decode cX1_loseOldest 28 = .ok (.isub, 1) := by decide +kernel
theorem dX1_loseOldest_29 : decode cX1_loseOldest 29 = .ok (.aload_n 0, 1) := by decide +kernel
theorem dX1_loseOldest_30 : decode cX1_loseOldest 30 = .ok (.getfield 15, 3) := by decide +kernel
theorem dX1_loseOldest_33 : decode cX1_loseOldest 33 = .ok (.iload_n 1, 1) := by decide +kernel
theorem dX1_loseOldest_34 : decode cX1_loseOldest 34 = .ok (.iaload, 1) := by decide +kernel
theorem dX1_loseOldest_35 : decode cX1_loseOldest 35 = .ok (.iastore, 1) := by decide +kernel
theorem dX1_loseOldest_36 : decode cX1_loseOldest 36 = .ok (.aload_n 0, 1) := by decide +kernel
theorem dX1_loseOldest_37 : decode cX1_loseOldest 37 = .ok (.getfield 18, 3) := by decide +kernel
theorem dX1_loseOldest_40 : decode cX1_loseOldest 40 = .ok (.iload_n 1, 1) := by decide +kernel
theorem dX1_loseOldest_41 : decode cX1_loseOldest 41 = .ok (.iconst 1, 1) := by decide +kernel
theorem dX1_loseOldest_42 : decode cX1_loseOldest 42 = .ok (.isub, 1) := by decide +kernel
theorem dX1_loseOldest_43 : decode cX1_loseOldest 43 = .ok (.aload_n 0, 1) := by decide +kernel
theorem dX1_loseOldest_44 : decode cX1_loseOldest 44 = .ok (.getfield 18, 3) := by decide +kernel
theorem dX1_loseOldest_47 : decode cX1_loseOldest 47 = .ok (.iload_n 1, 1) := by decide +kernel
theorem dX1_loseOldest_48 : decode cX1_loseOldest 48 = .ok (.iaload, 1) := by decide +kernel
theorem dX1_loseOldest_49 : decode cX1_loseOldest 49 = .ok (.iastore, 1) := by decide +kernel
theorem dX1_loseOldest_50 : decode cX1_loseOldest 50 = .ok (.iinc 1 1, 3) := by decide +kernel
theorem dX1_loseOldest_53 : decode cX1_loseOldest 53 = .ok (.goto (-51), 3) := by decide +kernel
theorem dX1_loseOldest_56 : decode cX1_loseOldest 56 = .ok (.aload_n 0, 1) := by decide +kernel
theorem dX1_loseOldest_57 : decode cX1_loseOldest 57 = .ok (.bipush 9, 2) := by decide +kernel
theorem dX1_loseOldest_59 : decode cX1_loseOldest 59 = .ok (.putfield 21, 3) := by decide +kernel
theorem dX1_loseOldest_62 : decode cX1_loseOldest 62 = .ok (.return_, 1) := by decide +kernel
theorem dX2_init_0 : decode cX2_init 0 = .ok (.aload_n 0, 1) := by decide +kernel
theorem dX2_init_1 : decode cX2_init 1 = .ok (.invokespecial 3, 3) := by decide +kernel
theorem dX2_init_4 : decode cX2_init 4 = .ok (.aload_n 0, 1) := by decide +kernel
theorem dX2_init_5 : decode cX2_init 5 = .ok (.new 9, 3) := by decide +kernel
theorem dX2_init_8 : decode cX2_init 8 = .ok (.dup, 1) := by decide +kernel
theorem dX2_init_9 : decode cX2_init 9 = .ok (.invokespecial 11, 3) := by decide +kernel
theorem dX2_init_12 : decode cX2_init 12 = .ok (.putfield 12, 3) := by decide +kernel
theorem dX2_init_15 : decode cX2_init 15 = .ok (.aload_n 0, 1) := by decide +kernel
theorem dX2_init_16 : decode cX2_init 16 = .ok (.new 18, 3) := by decide +kernel
theorem dX2_init_19 : decode cX2_init 19 = .ok (.dup, 1) := by decide +kernel
theorem dX2_init_20 : decode cX2_init 20 = .ok (.invokespecial 20, 3) := by decide +kernel
theorem dX2_init_23 : decode cX2_init 23 = .ok (.putfield 21, 3) := by decide +kernel
theorem dX2_init_26 : decode cX2_init 26 = .ok (.aload_n 0, 1) := by decide +kernel
theorem dX2_init_27 : decode cX2_init 27 = .ok (.bipush 100, 2) := by decide +kernel
theorem dX2_init_29 : decode cX2_init 29 = .ok (.newarray .int, 2) := by decide +kernel
theorem dX2_init_31 : decode cX2_init 31 = .ok (.putfield 25, 3) := by decide +kernel
theorem dX2_init_34 : decode cX2_init 34 = .ok (.return_, 1) := by decide +kernel
theorem dX2_letters_0 : decode cX2_letters 0 = .ok (.aload_n 0, 1) := by decide +kernel
theorem dX2_letters_1 : decode cX2_letters 1 = .ok (.getfield 29, 3) := by decide +kernel
theorem dX2_letters_4 : decode cX2_letters 4 = .ok (.ireturn, 1) := by decide +kernel
theorem dX2_drop_0 : decode cX2_drop 0 = .ok (.aload_n 0, 1) := by decide +kernel
theorem dX2_drop_1 : decode cX2_drop 1 = .ok (.iconst 0, 1) := by decide +kernel
theorem dX2_drop_2 : decode cX2_drop 2 = .ok (.putfield 29, 3) := by decide +kernel
theorem dX2_drop_5 : decode cX2_drop 5 = .ok (.return_, 1) := by decide +kernel
theorem dX2_add_0 : decode cX2_add 0 = .ok (.aload_n 0, 1) := by decide +kernel
theorem dX2_add_1 : decode cX2_add 1 = .ok (.getfield 29, 3) := by decide +kernel
theorem dX2_add_4 : decode cX2_add 4 = .ok (.ifCond .lt 12, 3) := by decide +kernel
theorem dX2_add_7 : decode cX2_add 7 = .ok (.aload_n 0, 1) := by decide +kernel
theorem dX2_add_8 : decode cX2_add 8 = .ok (.getfield 29, 3) := by decide +kernel
theorem dX2_add_11 : decode cX2_add 11 = .ok (.bipush 100, 2) := by decide +kernel
theorem dX2_add_13 : decode cX2_add 13 = .ok (.if_icmp .lt 5, 3) := by decide +kernel
theorem dX2_add_16 : decode cX2_add 16 = .ok (.iconst 0, 1) := by decide +kernel
theorem dX2_add_17 : decode cX2_add 17 = .ok (.ireturn, 1) := by decide +kernel
theorem dX2_add_18 : decode cX2_add 18 = .ok (.aload_n 0, 1) := by decide +kernel
theorem dX2_add_19 : decode cX2_add 19 = .ok (.getfield 25, 3) := by decide +kernel
theorem dX2_add_22 : decode cX2_add 22 = .ok (.aload_n 0, 1) := by decide +kernel
theorem dX2_add_23 : decode cX2_add 23 = .ok (.getfield 29, 3) := by decide +kernel
theorem dX2_add_26 : decode cX2_add 26 = .ok (.iload_n 1, 1) := by decide +kernel
theorem dX2_add_27 : decode cX2_add 27 = .ok (.iastore, 1) := by decide +kernel
theorem dX2_add_28 : decode cX2_add 28 = .ok (.aload_n 0, 1) := by decide +kernel
theorem dX2_add_29 : decode cX2_add 29 = .ok (.dup, 1) := by decide +kernel
theorem dX2_add_30 : decode cX2_add 30 = .ok (.getfield 29, 3) := by decide +kernel
theorem dX2_add_33 : decode cX2_add 33 = .ok (.iconst 1, 1) := by decide +kernel
theorem dX2_add_34 : decode cX2_add 34 = .ok (.iadd, 1) := by decide +kernel
theorem dX2_add_35 : decode cX2_add 35 = .ok (.putfield 29, 3) := by decide +kernel
theorem dX2_add_38 : decode cX2_add 38 = .ok (.iconst 1, 1) := by decide +kernel
theorem dX2_add_39 : decode cX2_add 39 = .ok (.ireturn, 1) := by decide +kernel
theorem dX2_read_0 : decode cX2_read 0 = .ok (.aload_n 0, 1) := by decide +kernel
theorem dX2_read_1 : decode cX2_read 1 = .ok (.getfield 12, 3) := by decide +kernel
theorem dX2_read_4 : decode cX2_read 4 = .ok (.invokevirtual 33, 3) := by decide +kernel
theorem dX2_read_7 : decode cX2_read 7 = .ok (.aload_n 0, 1) := by decide +kernel
theorem dX2_read_8 : decode cX2_read 8 = .ok (.getfield 21, 3) := by decide +kernel
theorem dX2_read_11 : decode cX2_read 11 = .ok (.invokevirtual 36, 3) := by decide +kernel
theorem dX2_read_14 : decode cX2_read 14 = .ok (.aload_n 0, 1) := by decide +kernel
theorem dX2_read_15 : decode cX2_read 15 = .ok (.iconst 0, 1) := by decide +kernel
theorem dX2_read_16 : decode cX2_read 16 = .ok (.putfield 37, 3) := by decide +kernel
theorem dX2_read_19 : decode cX2_read 19 = .ok (.aload_n 0, 1) := by decide +kernel
theorem dX2_read_20 : decode cX2_read 20 = .ok (.invokevirtual 40, 3) := by decide +kernel
theorem dX2_read_23 : decode cX2_read 23 = .ok (.iconst 0, 1) := by decide +kernel
theorem dX2_read_24 : decode cX2_read 24 = .ok (.istore_n 1, 1) := by decide +kernel
theorem dX2_read_25 : decode cX2_read 25 = .ok (.aload_n 0, 1) := by decide +kernel
theorem dX2_read_26 : decode cX2_read 26 = .ok (.getfield 43, 3) := by decide +kernel
theorem dX2_read_29 : decode cX2_read 29 = .ok (.iconst (-1), 1) := by decide +kernel
theorem dX2_read_30 : decode cX2_read 30 = .ok (.if_icmp .eq 30, 3) := by decide +kernel
theorem dX2_read_33 : decode cX2_read 33 = .ok (.iload_n 1, 1) := by decide +kernel
theorem dX2_read_34 : decode cX2_read 34 = .ok (.bipush 100, 2) := by decide +kernel
theorem dX2_read_36 : decode cX2_read 36 = .ok (.if_icmp .ge 24, 3) := by decide +kernel
theorem dX2_read_39 : decode cX2_read 39 = .ok (.aload_n 0, 1) := by decide +kernel
theorem dX2_read_40 : decode cX2_read 40 = .ok (.invokevirtual 46, 3) := by decide +kernel
theorem dX2_read_43 : decode cX2_read 43 = .ok (.ifCond .ne 11, 3) := by decide +kernel
theorem dX2_read_46 : decode cX2_read 46 = .ok (.bipush (-10), 2) := by decide +kernel
theorem dX2_read_48 : decode cX2_read 48 = .ok (.aload_n 0, 1) := by decide +kernel
theorem dX2_read_49 : decode cX2_read 49 = .ok (.getfield 50, 3) := by decide +kernel
theorem dX2_read_52 : decode cX2_read 52 = .ok (.isub, 1) := by decide +kernel
theorem dX2_read_53 : decode cX2_read 53 = .ok (.ireturn, 1) := by decide +kernel
theorem dX2_read_54 : decode cX2_read 54 = .ok (.iinc 1 1, 3) := by decide +kernel
theorem dX2_read_57 : decode cX2_read 57 = .ok (.goto (-32), 3) := by decide +kernel
theorem dX2_read_60 : decode cX2_read 60 = .ok (.iload_n 1, 1) := by decide +kernel
theorem dX2_read_61 : decode cX2_read 61 = .ok (.ireturn, 1) := by decide +kernel
theorem dX2_readItem_0 : decode cX2_readItem 0 = .ok (.iconst 0, 1) := by decide +kernel
theorem dX2_readItem_1 : decode cX2_readItem 1 = .ok (.istore_n 1, 1) := by decide +kernel
theorem dX2_readItem_2 : decode cX2_readItem 2 = .ok (.aload_n 0, 1) := by decide +kernel
theorem dX2_readItem_3 : decode cX2_readItem 3 = .ok (.getfield 43, 3) := by decide +kernel
theorem dX2_readItem_6 : decode cX2_readItem 6 = .ok (.bipush 83, 2) := by decide +kernel
theorem dX2_readItem_8 : decode cX2_readItem 8 = .ok (.if_icmp .ne 11, 3) := by decide +kernel
theorem dX2_readItem_11 : decode cX2_readItem 11 = .ok (.aload_n 0, 1) := by decide +kernel
theorem dX2_readItem_12 : decode cX2_readItem 12 = .ok (.invokevirtual 53, 3) := by decide +kernel
theorem dX2_readItem_15 : decode cX2_readItem 15 = .ok (.istore_n 1, 1) := by decide +kernel
theorem dX2_readItem_16 : decode cX2_readItem 16 = .ok (.goto 34, 3) := by decide +kernel
theorem dX2_readItem_19 : decode cX2_readItem 19 = .ok (.aload_n 0, 1) := by decide +kernel
theorem dX2_readItem_20 : decode cX2_readItem 20 = .ok (.getfield 43, 3) := by decide +kernel
theorem dX2_readItem_23 : decode cX2_readItem 23 = .ok (.bipush 67, 2) := by decide +kernel
theorem dX2_readItem_25 : decode cX2_readItem 25 = .ok (.if_icmp .ne 11, 3) := by decide +kernel
theorem dX2_readItem_28 : decode cX2_readItem 28 = .ok (.aload_n 0, 1) := by decide +kernel
theorem dX2_readItem_29 : decode cX2_readItem 29 = .ok (.invokevirtual 56, 3) := by decide +kernel
theorem dX2_readItem_32 : decode cX2_readItem 32 = .ok (.istore_n 1, 1) := by decide +kernel
theorem dX2_readItem_33 : decode cX2_readItem 33 = .ok (.goto 17, 3) := by decide +kernel
theorem dX2_readItem_36 : decode cX2_readItem 36 = .ok (.aload_n 0, 1) := by decide +kernel
theorem dX2_readItem_37 : decode cX2_readItem 37 = .ok (.getfield 43, 3) := by decide +kernel
theorem dX2_readItem_40 : decode cX2_readItem 40 = .ok (.bipush 70, 2) := by decide +kernel
theorem dX2_readItem_42 : decode cX2_readItem 42 = .ok (.if_icmp .ne 8, 3) := by decide +kernel
theorem dX2_readItem_45 : decode cX2_readItem 45 = .ok (.aload_n 0, 1) := by decide +kernel
theorem dX2_readItem_46 : decode cX2_readItem 46 = .ok (.invokevirtual 59, 3) := by decide +kernel
theorem dX2_readItem_49 : decode cX2_readItem 49 = .ok (.istore_n 1, 1) := by decide +kernel
theorem dX2_readItem_50 : decode cX2_readItem 50 = .ok (.iload_n 1, 1) := by decide +kernel
theorem dX2_readItem_51 : decode cX2_readItem 51 = .ok (.ifCond .eq 12, 3) := by decide +kernel
theorem dX2_readItem_54 : decode cX2_readItem 54 = .ok (.aload_n 0, 1) := by decide +kernel
theorem dX2_readItem_55 : decode cX2_readItem 55 = .ok (.getfield 43, 3) := by decide +kernel
theorem dX2_readItem_58 : decode cX2_readItem 58 = .ok (.bipush 59, 2) := by decide +kernel
theorem dX2_readItem_60 : decode cX2_readItem 60 = .ok (.if_icmp .eq 5, 3) := by decide +kernel
theorem dX2_readItem_63 : decode cX2_readItem 63 = .ok (.iconst 0, 1) := by decide +kernel
theorem dX2_readItem_64 : decode cX2_readItem 64 = .ok (.ireturn, 1) := by decide +kernel
theorem dX2_readItem_65 : decode cX2_readItem 65 = .ok (.aload_n 0, 1) := by decide +kernel
theorem dX2_readItem_66 : decode cX2_readItem 66 = .ok (.invokevirtual 40, 3) := by decide +kernel
theorem dX2_readItem_69 : decode cX2_readItem 69 = .ok (.iconst 1, 1) := by decide +kernel
theorem dX2_readItem_70 : decode cX2_readItem 70 = .ok (.ireturn, 1) := by decide +kernel
theorem dX2_readSource_0 : decode cX2_readSource 0 = .ok (.aload_n 0, 1) := by decide +kernel
theorem dX2_readSource_1 : decode cX2_readSource 1 = .ok (.invokevirtual 40, 3) := by decide +kernel
theorem dX2_readSource_4 : decode cX2_readSource 4 = .ok (.aload_n 0, 1) := by decide +kernel
theorem dX2_readSource_5 : decode cX2_readSource 5 = .ok (.invokevirtual 62, 3) := by decide +kernel
theorem dX2_readSource_8 : decode cX2_readSource 8 = .ok (.istore_n 1, 1) := by decide +kernel
theorem dX2_readSource_9 : decode cX2_readSource 9 = .ok (.iload_n 1, 1) := by decide +kernel
theorem dX2_readSource_10 : decode cX2_readSource 10 = .ok (.invokestatic 66, 3) := by decide +kernel
theorem dX2_readSource_13 : decode cX2_readSource 13 = .ok (.ifCond .ne 5, 3) := by decide +kernel
theorem dX2_readSource_16 : decode cX2_readSource 16 = .ok (.iconst 0, 1) := by decide +kernel
theorem dX2_readSource_17 : decode cX2_readSource 17 = .ok (.ireturn, 1) := by decide +kernel
theorem dX2_readSource_18 : decode cX2_readSource 18 = .ok (.aload_n 0, 1) := by decide +kernel
theorem dX2_readSource_19 : decode cX2_readSource 19 = .ok (.invokevirtual 40, 3) := by decide +kernel
theorem dX2_readSource_22 : decode cX2_readSource 22 = .ok (.aload_n 0, 1) := by decide +kernel
theorem dX2_readSource_23 : decode cX2_readSource 23 = .ok (.invokevirtual 70, 3) := by decide +kernel
theorem dX2_readSource_26 : decode cX2_readSource 26 = .ok (.istore_n 2, 1) := by decide +kernel
theorem dX2_readSource_27 : decode cX2_readSource 27 = .ok (.aload_n 0, 1) := by decide +kernel
theorem dX2_readSource_28 : decode cX2_readSource 28 = .ok (.getfield 43, 3) := by decide +kernel
theorem dX2_readSource_31 : decode cX2_readSource 31 = .ok (.bipush (-2), 2) := by decide +kernel
theorem dX2_readSource_33 : decode cX2_readSource 33 = .ok (.if_icmp .eq 5, 3) := by decide +kernel
theorem dX2_readSource_36 : decode cX2_readSource 36 = .ok (.iconst 0, 1) := by decide +kernel
theorem dX2_readSource_37 : decode cX2_readSource 37 = .ok (.ireturn, 1) := by decide +kernel
theorem dX2_readSource_38 : decode cX2_readSource 38 = .ok (.aload_n 0, 1) := by decide +kernel
theorem dX2_readSource_39 : decode cX2_readSource 39 = .ok (.getfield 12, 3) := by decide +kernel
theorem dX2_readSource_42 : decode cX2_readSource 42 = .ok (.iload_n 1, 1) := by decide +kernel
theorem dX2_readSource_43 : decode cX2_readSource 43 = .ok (.iload_n 2, 1) := by decide +kernel
theorem dX2_readSource_44 : decode cX2_readSource 44 = .ok (.aload_n 0, 1) := by decide +kernel
theorem dX2_readSource_45 : decode cX2_readSource 45 = .ok (.getfield 73, 3) := by decide +kernel
theorem dX2_readSource_48 : decode cX2_readSource 48 = .ok (.imul, 1) := by decide +kernel
theorem dX2_readSource_49 : decode cX2_readSource 49 = .ok (.invokevirtual 76, 3) := by decide +kernel
theorem dX2_readSource_52 : decode cX2_readSource 52 = .ok (.aload_n 0, 1) := by decide +kernel
theorem dX2_readSource_53 : decode cX2_readSource 53 = .ok (.invokevirtual 40, 3) := by decide +kernel
theorem dX2_readSource_56 : decode cX2_readSource 56 = .ok (.aload_n 0, 1) := by decide +kernel
theorem dX2_readSource_57 : decode cX2_readSource 57 = .ok (.getfield 43, 3) := by decide +kernel
theorem dX2_readSource_60 : decode cX2_readSource 60 = .ok (.bipush (-2), 2) := by decide +kernel
theorem dX2_readSource_62 : decode cX2_readSource 62 = .ok (.if_icmp .eq 5, 3) := by decide +kernel
theorem dX2_readSource_65 : decode cX2_readSource 65 = .ok (.iconst 0, 1) := by decide +kernel
theorem dX2_readSource_66 : decode cX2_readSource 66 = .ok (.ireturn, 1) := by decide +kernel
theorem dX2_readSource_67 : decode cX2_readSource 67 = .ok (.aload_n 0, 1) := by decide +kernel
theorem dX2_readSource_68 : decode cX2_readSource 68 = .ok (.getfield 12, 3) := by decide +kernel
theorem dX2_readSource_71 : decode cX2_readSource 71 = .ok (.iload_n 1, 1) := by decide +kernel
theorem dX2_readSource_72 : decode cX2_readSource 72 = .ok (.iload_n 1, 1) := by decide +kernel
theorem dX2_readSource_73 : decode cX2_readSource 73 = .ok (.aload_n 0, 1) := by decide +kernel
theorem dX2_readSource_74 : decode cX2_readSource 74 = .ok (.getfield 73, 3) := by decide +kernel
theorem dX2_readSource_77 : decode cX2_readSource 77 = .ok (.invokevirtual 80, 3) := by decide +kernel
theorem dX2_readSource_80 : decode cX2_readSource 80 = .ok (.aload_n 0, 1) := by decide +kernel
theorem dX2_readSource_81 : decode cX2_readSource 81 = .ok (.invokevirtual 40, 3) := by decide +kernel
theorem dX2_readSource_84 : decode cX2_readSource 84 = .ok (.iconst 1, 1) := by decide +kernel
theorem dX2_readSource_85 : decode cX2_readSource 85 = .ok (.ireturn, 1) := by decide +kernel
theorem dX2_readJoint_0 : decode cX2_readJoint 0 = .ok (.aload_n 0, 1) := by decide +kernel
theorem dX2_readJoint_1 : decode cX2_readJoint 1 = .ok (.invokevirtual 40, 3) := by decide +kernel
theorem dX2_readJoint_4 : decode cX2_readJoint 4 = .ok (.aload_n 0, 1) := by decide +kernel
theorem dX2_readJoint_5 : decode cX2_readJoint 5 = .ok (.invokevirtual 62, 3) := by decide +kernel
theorem dX2_readJoint_8 : decode cX2_readJoint 8 = .ok (.istore_n 1, 1) := by decide +kernel
theorem dX2_readJoint_9 : decode cX2_readJoint 9 = .ok (.iload_n 1, 1) := by decide +kernel
theorem dX2_readJoint_10 : decode cX2_readJoint 10 = .ok (.invokestatic 66, 3) := by decide +kernel
theorem dX2_readJoint_13 : decode cX2_readJoint 13 = .ok (.ifCond .ne 5, 3) := by decide +kernel
theorem dX2_readJoint_16 : decode cX2_readJoint 16 = .ok (.iconst 0, 1) := by decide +kernel
theorem dX2_readJoint_17 : decode cX2_readJoint 17 = .ok (.ireturn, 1) := by decide +kernel
theorem dX2_readJoint_18 : decode cX2_readJoint 18 = .ok (.aload_n 0, 1) := by decide +kernel
theorem dX2_readJoint_19 : decode cX2_readJoint 19 = .ok (.invokevirtual 40, 3) := by decide +kernel
theorem dX2_readJoint_22 : decode cX2_readJoint 22 = .ok (.aload_n 0, 1) := by decide +kernel
theorem dX2_readJoint_23 : decode cX2_readJoint 23 = .ok (.invokevirtual 62, 3) := by decide +kernel
theorem dX2_readJoint_26 : decode cX2_readJoint 26 = .ok (.istore_n 2, 1) := by decide +kernel
theorem dX2_readJoint_27 : decode cX2_readJoint 27 = .ok (.iload_n 2, 1) := by decide +kernel
theorem dX2_readJoint_28 : decode cX2_readJoint 28 = .ok (.invokestatic 66, 3) := by decide +kernel
theorem dX2_readJoint_31 : decode cX2_readJoint 31 = .ok (.ifCond .eq 8, 3) := by decide +kernel
theorem dX2_readJoint_34 : decode cX2_readJoint 34 = .ok (.iload_n 2, 1) := by decide +kernel
theorem dX2_readJoint_35 : decode cX2_readJoint 35 = .ok (.iload_n 1, 1) := by decide +kernel
theorem dX2_readJoint_36 : decode cX2_readJoint 36 = .ok (.if_icmp .ne 5, 3) := by decide +kernel
theorem dX2_readJoint_39 : decode cX2_readJoint 39 = .ok (.iconst 0, 1) := by decide +kernel
theorem dX2_readJoint_40 : decode cX2_readJoint 40 = .ok (.ireturn, 1) := by decide +kernel
theorem dX2_readJoint_41 : decode cX2_readJoint 41 = .ok (.aload_n 0, 1) := by decide +kernel
theorem dX2_readJoint_42 : decode cX2_readJoint 42 = .ok (.invokevirtual 40, 3) := by decide +kernel
theorem dX2_readJoint_45 : decode cX2_readJoint 45 = .ok (.aload_n 0, 1) := by decide +kernel
theorem dX2_readJoint_46 : decode cX2_readJoint 46 = .ok (.invokevirtual 70, 3) := by decide +kernel
theorem dX2_readJoint_49 : decode cX2_readJoint 49 = .ok (.istore_n 3, 1) := by decide +kernel
theorem dX2_readJoint_50 : decode cX2_readJoint 50 = .ok (.aload_n 0, 1) := by decide +kernel
theorem dX2_readJoint_51 : decode cX2_readJoint 51 = .ok (.getfield 43, 3) := by decide +kernel
theorem dX2_readJoint_54 : decode cX2_readJoint 54 = .ok (.bipush (-2), 2) := by decide +kernel
theorem dX2_readJoint_56 : decode cX2_readJoint 56 = .ok (.if_icmp .eq 5, 3) := by decide +kernel
theorem dX2_readJoint_59 : decode cX2_readJoint 59 = .ok (.iconst 0, 1) := by decide +kernel
theorem dX2_readJoint_60 : decode cX2_readJoint 60 = .ok (.ireturn, 1) := by decide +kernel
theorem dX2_readJoint_61 : decode cX2_readJoint 61 = .ok (.aload_n 0, 1) := by decide +kernel
theorem dX2_readJoint_62 : decode cX2_readJoint 62 = .ok (.getfield 12, 3) := by decide +kernel
theorem dX2_readJoint_65 : decode cX2_readJoint 65 = .ok (.iload_n 1, 1) := by decide +kernel
theorem dX2_readJoint_66 : decode cX2_readJoint 66 = .ok (.iload_n 2, 1) := by decide +kernel
theorem dX2_readJoint_67 : decode cX2_readJoint 67 = .ok (.iload_n 3, 1) := by decide +kernel
theorem dX2_readJoint_68 : decode cX2_readJoint 68 = .ok (.aload_n 0, 1) := by decide +kernel
theorem dX2_readJoint_69 : decode cX2_readJoint 69 = .ok (.getfield 73, 3) := by decide +kernel
theorem dX2_readJoint_72 : decode cX2_readJoint 72 = .ok (.imul, 1) := by decide +kernel
theorem dX2_readJoint_73 : decode cX2_readJoint 73 = .ok (.invokevirtual 80, 3) := by decide +kernel
theorem dX2_readJoint_76 : decode cX2_readJoint 76 = .ok (.aload_n 0, 1) := by decide +kernel
theorem dX2_readJoint_77 : decode cX2_readJoint 77 = .ok (.invokevirtual 40, 3) := by decide +kernel
theorem dX2_readJoint_80 : decode cX2_readJoint 80 = .ok (.iconst 1, 1) := by decide +kernel
theorem dX2_readJoint_81 : decode cX2_readJoint 81 = .ok (.ireturn, 1) := by decide +kernel
theorem dX2_readFormula_0 : decode cX2_readFormula 0 = .ok (.aload_n 0, 1) := by decide +kernel
theorem dX2_readFormula_1 : decode cX2_readFormula 1 = .ok (.getfield 21, 3) := by decide +kernel
theorem dX2_readFormula_4 : decode cX2_readFormula 4 = .ok (.invokevirtual 84, 3) := by decide +kernel
theorem dX2_readFormula_7 : decode cX2_readFormula 7 = .ok (.iconst 4, 1) := by decide +kernel
theorem dX2_readFormula_8 : decode cX2_readFormula 8 = .ok (.if_icmp .lt 5, 3) := by decide +kernel
theorem dX2_readFormula_11 : decode cX2_readFormula 11 = .ok (.iconst 0, 1) := by decide +kernel
theorem dX2_readFormula_12 : decode cX2_readFormula 12 = .ok (.ireturn, 1) := by decide +kernel
theorem dX2_readFormula_13 : decode cX2_readFormula 13 = .ok (.aload_n 0, 1) := by decide +kernel
theorem dX2_readFormula_14 : decode cX2_readFormula 14 = .ok (.invokevirtual 40, 3) := by decide +kernel
theorem dX2_readFormula_17 : decode cX2_readFormula 17 = .ok (.aload_n 0, 1) := by decide +kernel
theorem dX2_readFormula_18 : decode cX2_readFormula 18 = .ok (.iconst 0, 1) := by decide +kernel
theorem dX2_readFormula_19 : decode cX2_readFormula 19 = .ok (.putfield 87, 3) := by decide +kernel
theorem dX2_readFormula_22 : decode cX2_readFormula 22 = .ok (.aload_n 0, 1) := by decide +kernel
theorem dX2_readFormula_23 : decode cX2_readFormula 23 = .ok (.iconst 0, 1) := by decide +kernel
theorem dX2_readFormula_24 : decode cX2_readFormula 24 = .ok (.invokevirtual 90, 3) := by decide +kernel
theorem dX2_readFormula_27 : decode cX2_readFormula 27 = .ok (.iconst (-1), 1) := by decide +kernel
theorem dX2_readFormula_28 : decode cX2_readFormula 28 = .ok (.if_icmp .eq 12, 3) := by decide +kernel
theorem dX2_readFormula_31 : decode cX2_readFormula 31 = .ok (.aload_n 0, 1) := by decide +kernel
theorem dX2_readFormula_32 : decode cX2_readFormula 32 = .ok (.getfield 43, 3) := by decide +kernel
theorem dX2_readFormula_35 : decode cX2_readFormula 35 = .ok (.bipush 59, 2) := by decide +kernel
theorem dX2_readFormula_37 : decode cX2_readFormula 37 = .ok (.if_icmp .eq 5, 3) := by decide +kernel
theorem dX2_readFormula_40 : decode cX2_readFormula 40 = .ok (.iconst 0, 1) := by decide +kernel
theorem dX2_readFormula_41 : decode cX2_readFormula 41 = .ok (.ireturn, 1) := by decide +kernel
theorem dX2_readFormula_42 : decode cX2_readFormula 42 = .ok (.aload_n 0, 1) := by decide +kernel
theorem dX2_readFormula_43 : decode cX2_readFormula 43 = .ok (.getfield 21, 3) := by decide +kernel
theorem dX2_readFormula_46 : decode cX2_readFormula 46 = .ok (.invokevirtual 94, 3) := by decide +kernel
theorem dX2_readFormula_49 : decode cX2_readFormula 49 = .ok (.iconst 1, 1) := by decide +kernel
theorem dX2_readFormula_50 : decode cX2_readFormula 50 = .ok (.ireturn, 1) := by decide +kernel
theorem dX2_readSum_0 : decode cX2_readSum 0 = .ok (.aload_n 0, 1) := by decide +kernel
theorem dX2_readSum_1 : decode cX2_readSum 1 = .ok (.iload_n 1, 1) := by decide +kernel
theorem dX2_readSum_2 : decode cX2_readSum 2 = .ok (.invokevirtual 97, 3) := by decide +kernel
theorem dX2_readSum_5 : decode cX2_readSum 5 = .ok (.istore_n 2, 1) := by decide +kernel
theorem dX2_readSum_6 : decode cX2_readSum 6 = .ok (.iconst 0, 1) := by decide +kernel
theorem dX2_readSum_7 : decode cX2_readSum 7 = .ok (.istore_n 3, 1) := by decide +kernel
theorem dX2_readSum_8 : decode cX2_readSum 8 = .ok (.iload_n 3, 1) := by decide +kernel
theorem dX2_readSum_9 : decode cX2_readSum 9 = .ok (.bipush 20, 2) := by decide +kernel
theorem dX2_readSum_11 : decode cX2_readSum 11 = .ok (.if_icmp .ge 91, 3) := by decide +kernel
theorem dX2_readSum_14 : decode cX2_readSum 14 = .ok (.iload_n 2, 1) := by decide +kernel
theorem dX2_readSum_15 : decode cX2_readSum 15 = .ok (.iconst (-1), 1) := by decide +kernel
theorem dX2_readSum_16 : decode cX2_readSum 16 = .ok (.if_icmp .eq 86, 3) := by decide +kernel
theorem dX2_readSum_19 : decode cX2_readSum 19 = .ok (.aload_n 0, 1) := by decide +kernel
theorem dX2_readSum_20 : decode cX2_readSum 20 = .ok (.getfield 43, 3) := by decide +kernel
theorem dX2_readSum_23 : decode cX2_readSum 23 = .ok (.bipush 43, 2) := by decide +kernel
theorem dX2_readSum_25 : decode cX2_readSum 25 = .ok (.if_icmp .eq 12, 3) := by decide +kernel
theorem dX2_readSum_28 : decode cX2_readSum 28 = .ok (.aload_n 0, 1) := by decide +kernel
theorem dX2_readSum_29 : decode cX2_readSum 29 = .ok (.getfield 43, 3) := by decide +kernel
theorem dX2_readSum_32 : decode cX2_readSum 32 = .ok (.bipush 45, 2) := by decide +kernel
theorem dX2_readSum_34 : decode cX2_readSum 34 = .ok (.if_icmp .ne 68, 3) := by decide +kernel
theorem dX2_readSum_37 : decode cX2_readSum 37 = .ok (.aload_n 0, 1) := by decide +kernel
theorem dX2_readSum_38 : decode cX2_readSum 38 = .ok (.getfield 43, 3) := by decide +kernel
theorem dX2_readSum_41 : decode cX2_readSum 41 = .ok (.bipush 43, 2) := by decide +kernel
theorem dX2_readSum_43 : decode cX2_readSum 43 = .ok (.if_icmp .ne 7, 3) := by decide +kernel
theorem dX2_readSum_46 : decode cX2_readSum 46 = .ok (.iconst 3, 1) := by decide +kernel
theorem dX2_readSum_47 : decode cX2_readSum 47 = .ok (.goto 4, 3) := by decide +kernel
theorem dX2_readSum_50 : decode cX2_readSum 50 = .ok (.iconst 4, 1) := by decide +kernel
theorem dX2_readSum_51 : decode cX2_readSum 51 = .ok (.istore 4, 2) := by decide +kernel
theorem dX2_readSum_53 : decode cX2_readSum 53 = .ok (.aload_n 0, 1) := by decide +kernel
theorem dX2_readSum_54 : decode cX2_readSum 54 = .ok (.invokevirtual 100, 3) := by decide +kernel
theorem dX2_readSum_57 : decode cX2_readSum 57 = .ok (.ifCond .ne 5, 3) := by decide +kernel
theorem dX2_readSum_60 : decode cX2_readSum 60 = .ok (.iconst (-1), 1) := by decide +kernel
theorem dX2_readSum_61 : decode cX2_readSum 61 = .ok (.ireturn, 1) := by decide +kernel
theorem dX2_readSum_62 : decode cX2_readSum 62 = .ok (.aload_n 0, 1) := by decide +kernel
theorem dX2_readSum_63 : decode cX2_readSum 63 = .ok (.invokevirtual 40, 3) := by decide +kernel
theorem dX2_readSum_66 : decode cX2_readSum 66 = .ok (.aload_n 0, 1) := by decide +kernel
theorem dX2_readSum_67 : decode cX2_readSum 67 = .ok (.iload_n 1, 1) := by decide +kernel
theorem dX2_readSum_68 : decode cX2_readSum 68 = .ok (.invokevirtual 97, 3) := by decide +kernel
theorem dX2_readSum_71 : decode cX2_readSum 71 = .ok (.istore 5, 2) := by decide +kernel
theorem dX2_readSum_73 : decode cX2_readSum 73 = .ok (.iload 5, 2) := by decide +kernel
theorem dX2_readSum_75 : decode cX2_readSum 75 = .ok (.iconst (-1), 1) := by decide +kernel
theorem dX2_readSum_76 : decode cX2_readSum 76 = .ok (.if_icmp .ne 7, 3) := by decide +kernel
theorem dX2_readSum_79 : decode cX2_readSum 79 = .ok (.iconst (-1), 1) := by decide +kernel
theorem dX2_readSum_80 : decode cX2_readSum 80 = .ok (.goto 15, 3) := by decide +kernel
theorem dX2_readSum_83 : decode cX2_readSum 83 = .ok (.aload_n 0, 1) := by decide +kernel
theorem dX2_readSum_84 : decode cX2_readSum 84 = .ok (.getfield 21, 3) := by decide +kernel
theorem dX2_readSum_87 : decode cX2_readSum 87 = .ok (.iload 4, 2) := by decide +kernel
theorem dX2_readSum_89 : decode cX2_readSum 89 = .ok (.iload_n 2, 1) := by decide +kernel
theorem dX2_readSum_90 : decode cX2_readSum 90 = .ok (.iload 5, 2) := by decide +kernel
theorem dX2_readSum_92 : decode cX2_readSum 92 = .ok (.invokevirtual 103, 3) := by decide +kernel
theorem dX2_readSum_95 : decode cX2_readSum 95 = .ok (.istore_n 2, 1) := by decide +kernel
theorem dX2_readSum_96 : decode cX2_readSum 96 = .ok (.iinc 3 1, 3) := by decide +kernel
theorem dX2_readSum_99 : decode cX2_readSum 99 = .ok (.goto (-91), 3) := by decide +kernel
theorem dX2_readSum_102 : decode cX2_readSum 102 = .ok (.iload_n 2, 1) := by decide +kernel
theorem dX2_readSum_103 : decode cX2_readSum 103 = .ok (.ireturn, 1) := by decide +kernel
theorem dX2_readProduct_0 : decode cX2_readProduct 0 = .ok (.aload_n 0, 1) := by decide +kernel
theorem dX2_readProduct_1 : decode cX2_readProduct 1 = .ok (.iload_n 1, 1) := by decide +kernel
theorem dX2_readProduct_2 : decode cX2_readProduct 2 = .ok (.invokevirtual 107, 3) := by decide +kernel
theorem dX2_readProduct_5 : decode cX2_readProduct 5 = .ok (.istore_n 2, 1) := by decide +kernel
theorem dX2_readProduct_6 : decode cX2_readProduct 6 = .ok (.iconst 0, 1) := by decide +kernel
theorem dX2_readProduct_7 : decode cX2_readProduct 7 = .ok (.istore_n 3, 1) := by decide +kernel
theorem dX2_readProduct_8 : decode cX2_readProduct 8 = .ok (.iload_n 3, 1) := by decide +kernel
theorem dX2_readProduct_9 : decode cX2_readProduct 9 = .ok (.bipush 20, 2) := by decide +kernel
theorem dX2_readProduct_11 : decode cX2_readProduct 11 = .ok (.if_icmp .ge 65, 3) := by decide +kernel
theorem dX2_readProduct_14 : decode cX2_readProduct 14 = .ok (.iload_n 2, 1) := by decide +kernel
theorem dX2_readProduct_15 : decode cX2_readProduct 15 = .ok (.iconst (-1), 1) := by decide +kernel
theorem dX2_readProduct_16 : decode cX2_readProduct 16 = .ok (.if_icmp .eq 60, 3) := by decide +kernel
theorem dX2_readProduct_19 : decode cX2_readProduct 19 = .ok (.aload_n 0, 1) := by decide +kernel
theorem dX2_readProduct_20 : decode cX2_readProduct 20 = .ok (.getfield 43, 3) := by decide +kernel
theorem dX2_readProduct_23 : decode cX2_readProduct 23 = .ok (.bipush 42, 2) := by decide +kernel
theorem dX2_readProduct_25 : decode cX2_readProduct 25 = .ok (.if_icmp .ne 51, 3) := by decide +kernel
theorem dX2_readProduct_28 : decode cX2_readProduct 28 = .ok (.aload_n 0, 1) := by decide +kernel
theorem dX2_readProduct_29 : decode cX2_readProduct 29 = .ok (.invokevirtual 100, 3) := by decide +kernel
theorem dX2_readProduct_32 : decode cX2_readProduct 32 = .ok (.ifCond .ne 5, 3) := by decide +kernel
theorem dX2_readProduct_35 : decode cX2_readProduct 35 = .ok (.iconst (-1), 1) := by decide +kernel
theorem dX2_readProduct_36 : decode cX2_readProduct 36 = .ok (.ireturn, 1) := by decide +kernel
theorem dX2_readProduct_37 : decode cX2_readProduct 37 = .ok (.aload_n 0, 1) := by decide +kernel
theorem dX2_readProduct_38 : decode cX2_readProduct 38 = .ok (.invokevirtual 40, 3) := by decide +kernel
theorem dX2_readProduct_41 : decode cX2_readProduct 41 = .ok (.aload_n 0, 1) := by decide +kernel
theorem dX2_readProduct_42 : decode cX2_readProduct 42 = .ok (.iload_n 1, 1) := by decide +kernel
theorem dX2_readProduct_43 : decode cX2_readProduct 43 = .ok (.invokevirtual 107, 3) := by decide +kernel
theorem dX2_readProduct_46 : decode cX2_readProduct 46 = .ok (.istore 4, 2) := by decide +kernel
theorem dX2_readProduct_48 : decode cX2_readProduct 48 = .ok (.iload 4, 2) := by decide +kernel
theorem dX2_readProduct_50 : decode cX2_readProduct 50 = .ok (.iconst (-1), 1) := by decide +kernel
theorem dX2_readProduct_51 : decode cX2_readProduct 51 = .ok (.if_icmp .ne 7, 3) := by decide +kernel
theorem dX2_readProduct_54 : decode cX2_readProduct 54 = .ok (.iconst (-1), 1) := by decide +kernel
theorem dX2_readProduct_55 : decode cX2_readProduct 55 = .ok (.goto 14, 3) := by decide +kernel
theorem dX2_readProduct_58 : decode cX2_readProduct 58 = .ok (.aload_n 0, 1) := by decide +kernel
theorem dX2_readProduct_59 : decode cX2_readProduct 59 = .ok (.getfield 21, 3) := by decide +kernel
theorem dX2_readProduct_62 : decode cX2_readProduct 62 = .ok (.iconst 5, 1) := by decide +kernel
theorem dX2_readProduct_63 : decode cX2_readProduct 63 = .ok (.iload_n 2, 1) := by decide +kernel
theorem dX2_readProduct_64 : decode cX2_readProduct 64 = .ok (.iload 4, 2) := by decide +kernel
theorem dX2_readProduct_66 : decode cX2_readProduct 66 = .ok (.invokevirtual 103, 3) := by decide +kernel
theorem dX2_readProduct_69 : decode cX2_readProduct 69 = .ok (.istore_n 2, 1) := by decide +kernel
theorem dX2_readProduct_70 : decode cX2_readProduct 70 = .ok (.iinc 3 1, 3) := by decide +kernel
theorem dX2_readProduct_73 : decode cX2_readProduct 73 = .ok (.goto (-65), 3) := by decide +kernel
theorem dX2_readProduct_76 : decode cX2_readProduct 76 = .ok (.iload_n 2, 1) := by decide +kernel
theorem dX2_readProduct_77 : decode cX2_readProduct 77 = .ok (.ireturn, 1) := by decide +kernel
theorem dX2_readPower_0 : decode cX2_readPower 0 = .ok (.aload_n 0, 1) := by decide +kernel
theorem dX2_readPower_1 : decode cX2_readPower 1 = .ok (.iload_n 1, 1) := by decide +kernel
theorem dX2_readPower_2 : decode cX2_readPower 2 = .ok (.invokevirtual 110, 3) := by decide +kernel
theorem dX2_readPower_5 : decode cX2_readPower 5 = .ok (.istore_n 2, 1) := by decide +kernel
theorem dX2_readPower_6 : decode cX2_readPower 6 = .ok (.iload_n 2, 1) := by decide +kernel
theorem dX2_readPower_7 : decode cX2_readPower 7 = .ok (.iconst (-1), 1) := by decide +kernel
theorem dX2_readPower_8 : decode cX2_readPower 8 = .ok (.if_icmp .eq 12, 3) := by decide +kernel
theorem dX2_readPower_11 : decode cX2_readPower 11 = .ok (.aload_n 0, 1) := by decide +kernel
theorem dX2_readPower_12 : decode cX2_readPower 12 = .ok (.getfield 43, 3) := by decide +kernel
theorem dX2_readPower_15 : decode cX2_readPower 15 = .ok (.bipush 94, 2) := by decide +kernel
theorem dX2_readPower_17 : decode cX2_readPower 17 = .ok (.if_icmp .eq 5, 3) := by decide +kernel
theorem dX2_readPower_20 : decode cX2_readPower 20 = .ok (.iload_n 2, 1) := by decide +kernel
theorem dX2_readPower_21 : decode cX2_readPower 21 = .ok (.ireturn, 1) := by decide +kernel
theorem dX2_readPower_22 : decode cX2_readPower 22 = .ok (.aload_n 0, 1) := by decide +kernel
theorem dX2_readPower_23 : decode cX2_readPower 23 = .ok (.invokevirtual 100, 3) := by decide +kernel
theorem dX2_readPower_26 : decode cX2_readPower 26 = .ok (.ifCond .ne 5, 3) := by decide +kernel
theorem dX2_readPower_29 : decode cX2_readPower 29 = .ok (.iconst (-1), 1) := by decide +kernel
theorem dX2_readPower_30 : decode cX2_readPower 30 = .ok (.ireturn, 1) := by decide +kernel
theorem dX2_readPower_31 : decode cX2_readPower 31 = .ok (.aload_n 0, 1) := by decide +kernel
theorem dX2_readPower_32 : decode cX2_readPower 32 = .ok (.invokevirtual 40, 3) := by decide +kernel
theorem dX2_readPower_35 : decode cX2_readPower 35 = .ok (.aload_n 0, 1) := by decide +kernel
theorem dX2_readPower_36 : decode cX2_readPower 36 = .ok (.getfield 43, 3) := by decide +kernel
theorem dX2_readPower_39 : decode cX2_readPower 39 = .ok (.bipush (-2), 2) := by decide +kernel
theorem dX2_readPower_41 : decode cX2_readPower 41 = .ok (.if_icmp .ne 11, 3) := by decide +kernel
theorem dX2_readPower_44 : decode cX2_readPower 44 = .ok (.aload_n 0, 1) := by decide +kernel
theorem dX2_readPower_45 : decode cX2_readPower 45 = .ok (.getfield 73, 3) := by decide +kernel
theorem dX2_readPower_48 : decode cX2_readPower 48 = .ok (.iconst 4, 1) := by decide +kernel
theorem dX2_readPower_49 : decode cX2_readPower 49 = .ok (.if_icmp .le 5, 3) := by decide +kernel
theorem dX2_readPower_52 : decode cX2_readPower 52 = .ok (.iconst (-1), 1) := by decide +kernel
theorem dX2_readPower_53 : decode cX2_readPower 53 = .ok (.ireturn, 1) := by decide +kernel
theorem dX2_readPower_54 : decode cX2_readPower 54 = .ok (.aload_n 0, 1) := by decide +kernel
theorem dX2_readPower_55 : decode cX2_readPower 55 = .ok (.getfield 21, 3) := by decide +kernel
theorem dX2_readPower_58 : decode cX2_readPower 58 = .ok (.bipush 6, 2) := by decide +kernel
theorem dX2_readPower_60 : decode cX2_readPower 60 = .ok (.iload_n 2, 1) := by decide +kernel
theorem dX2_readPower_61 : decode cX2_readPower 61 = .ok (.aload_n 0, 1) := by decide +kernel
theorem dX2_readPower_62 : decode cX2_readPower 62 = .ok (.getfield 73, 3) := by decide +kernel
theorem dX2_readPower_65 : decode cX2_readPower 65 = .ok (.invokevirtual 113, 3) := by decide +kernel
theorem dX2_readPower_68 : decode cX2_readPower 68 = .ok (.istore_n 2, 1) := by decide +kernel
theorem dX2_readPower_69 : decode cX2_readPower 69 = .ok (.aload_n 0, 1) := by decide +kernel
theorem dX2_readPower_70 : decode cX2_readPower 70 = .ok (.invokevirtual 40, 3) := by decide +kernel
theorem dX2_readPower_73 : decode cX2_readPower 73 = .ok (.iload_n 2, 1) := by decide +kernel
theorem dX2_readPower_74 : decode cX2_readPower 74 = .ok (.ireturn, 1) := by decide +kernel
theorem dX2_readPart_0 : decode cX2_readPart 0 = .ok (.iconst 0, 1) := by decide +kernel
theorem dX2_readPart_1 : decode cX2_readPart 1 = .ok (.istore_n 2, 1) := by decide +kernel
theorem dX2_readPart_2 : decode cX2_readPart 2 = .ok (.aload_n 0, 1) := by decide +kernel
theorem dX2_readPart_3 : decode cX2_readPart 3 = .ok (.getfield 43, 3) := by decide +kernel
theorem dX2_readPart_6 : decode cX2_readPart 6 = .ok (.bipush 45, 2) := by decide +kernel
theorem dX2_readPart_8 : decode cX2_readPart 8 = .ok (.if_icmp .ne 28, 3) := by decide +kernel
theorem dX2_readPart_11 : decode cX2_readPart 11 = .ok (.iload_n 2, 1) := by decide +kernel
theorem dX2_readPart_12 : decode cX2_readPart 12 = .ok (.bipush 20, 2) := by decide +kernel
theorem dX2_readPart_14 : decode cX2_readPart 14 = .ok (.if_icmp .ge 22, 3) := by decide +kernel
theorem dX2_readPart_17 : decode cX2_readPart 17 = .ok (.aload_n 0, 1) := by decide +kernel
theorem dX2_readPart_18 : decode cX2_readPart 18 = .ok (.invokevirtual 100, 3) := by decide +kernel
theorem dX2_readPart_21 : decode cX2_readPart 21 = .ok (.ifCond .ne 5, 3) := by decide +kernel
theorem dX2_readPart_24 : decode cX2_readPart 24 = .ok (.iconst (-1), 1) := by decide +kernel
theorem dX2_readPart_25 : decode cX2_readPart 25 = .ok (.ireturn, 1) := by decide +kernel
theorem dX2_readPart_26 : decode cX2_readPart 26 = .ok (.iinc 2 1, 3) := by decide +kernel
theorem dX2_readPart_29 : decode cX2_readPart 29 = .ok (.aload_n 0, 1) := by decide +kernel
theorem dX2_readPart_30 : decode cX2_readPart 30 = .ok (.invokevirtual 40, 3) := by decide +kernel
theorem dX2_readPart_33 : decode cX2_readPart 33 = .ok (.goto (-31), 3) := by decide +kernel
theorem dX2_readPart_36 : decode cX2_readPart 36 = .ok (.aload_n 0, 1) := by decide +kernel
theorem dX2_readPart_37 : decode cX2_readPart 37 = .ok (.iload_n 1, 1) := by decide +kernel
theorem dX2_readPart_38 : decode cX2_readPart 38 = .ok (.invokevirtual 116, 3) := by decide +kernel
theorem dX2_readPart_41 : decode cX2_readPart 41 = .ok (.istore_n 3, 1) := by decide +kernel
theorem dX2_readPart_42 : decode cX2_readPart 42 = .ok (.iconst 0, 1) := by decide +kernel
theorem dX2_readPart_43 : decode cX2_readPart 43 = .ok (.istore 4, 2) := by decide +kernel
theorem dX2_readPart_45 : decode cX2_readPart 45 = .ok (.iload 4, 2) := by decide +kernel
theorem dX2_readPart_47 : decode cX2_readPart 47 = .ok (.iload_n 2, 1) := by decide +kernel
theorem dX2_readPart_48 : decode cX2_readPart 48 = .ok (.if_icmp .ge 26, 3) := by decide +kernel
theorem dX2_readPart_51 : decode cX2_readPart 51 = .ok (.iload_n 3, 1) := by decide +kernel
theorem dX2_readPart_52 : decode cX2_readPart 52 = .ok (.iconst (-1), 1) := by decide +kernel
theorem dX2_readPart_53 : decode cX2_readPart 53 = .ok (.if_icmp .eq 21, 3) := by decide +kernel
theorem dX2_readPart_56 : decode cX2_readPart 56 = .ok (.aload_n 0, 1) := by decide +kernel
theorem dX2_readPart_57 : decode cX2_readPart 57 = .ok (.getfield 21, 3) := by decide +kernel
theorem dX2_readPart_60 : decode cX2_readPart 60 = .ok (.bipush 7, 2) := by decide +kernel
theorem dX2_readPart_62 : decode cX2_readPart 62 = .ok (.iload_n 3, 1) := by decide +kernel
theorem dX2_readPart_63 : decode cX2_readPart 63 = .ok (.iconst 0, 1) := by decide +kernel
theorem dX2_readPart_64 : decode cX2_readPart 64 = .ok (.invokevirtual 113, 3) := by decide +kernel
theorem dX2_readPart_67 : decode cX2_readPart 67 = .ok (.istore_n 3, 1) := by decide +kernel
theorem dX2_readPart_68 : decode cX2_readPart 68 = .ok (.iinc 4 1, 3) := by decide +kernel
theorem dX2_readPart_71 : decode cX2_readPart 71 = .ok (.goto (-26), 3) := by decide +kernel
theorem dX2_readPart_74 : decode cX2_readPart 74 = .ok (.iload_n 3, 1) := by decide +kernel
theorem dX2_readPart_75 : decode cX2_readPart 75 = .ok (.ireturn, 1) := by decide +kernel
theorem dX2_readBarePart_0 : decode cX2_readBarePart 0 = .ok (.aload_n 0, 1) := by decide +kernel
theorem dX2_readBarePart_1 : decode cX2_readBarePart 1 = .ok (.getfield 43, 3) := by decide +kernel
theorem dX2_readBarePart_4 : decode cX2_readBarePart 4 = .ok (.bipush 40, 2) := by decide +kernel
theorem dX2_readBarePart_6 : decode cX2_readBarePart 6 = .ok (.if_icmp .ne 9, 3) := by decide +kernel
theorem dX2_readBarePart_9 : decode cX2_readBarePart 9 = .ok (.aload_n 0, 1) := by decide +kernel
theorem dX2_readBarePart_10 : decode cX2_readBarePart 10 = .ok (.iload_n 1, 1) := by decide +kernel
theorem dX2_readBarePart_11 : decode cX2_readBarePart 11 = .ok (.invokevirtual 119, 3) := by decide +kernel
theorem dX2_readBarePart_14 : decode cX2_readBarePart 14 = .ok (.ireturn, 1) := by decide +kernel
theorem dX2_readBarePart_15 : decode cX2_readBarePart 15 = .ok (.aload_n 0, 1) := by decide +kernel
theorem dX2_readBarePart_16 : decode cX2_readBarePart 16 = .ok (.getfield 43, 3) := by decide +kernel
theorem dX2_readBarePart_19 : decode cX2_readBarePart 19 = .ok (.bipush 64, 2) := by decide +kernel
theorem dX2_readBarePart_21 : decode cX2_readBarePart 21 = .ok (.if_icmp .ne 8, 3) := by decide +kernel
theorem dX2_readBarePart_24 : decode cX2_readBarePart 24 = .ok (.aload_n 0, 1) := by decide +kernel
theorem dX2_readBarePart_25 : decode cX2_readBarePart 25 = .ok (.invokevirtual 122, 3) := by decide +kernel
theorem dX2_readBarePart_28 : decode cX2_readBarePart 28 = .ok (.ireturn, 1) := by decide +kernel
theorem dX2_readBarePart_29 : decode cX2_readBarePart 29 = .ok (.aload_n 0, 1) := by decide +kernel
theorem dX2_readBarePart_30 : decode cX2_readBarePart 30 = .ok (.invokevirtual 62, 3) := by decide +kernel
theorem dX2_readBarePart_33 : decode cX2_readBarePart 33 = .ok (.istore_n 2, 1) := by decide +kernel
theorem dX2_readBarePart_34 : decode cX2_readBarePart 34 = .ok (.aload_n 0, 1) := by decide +kernel
theorem dX2_readBarePart_35 : decode cX2_readBarePart 35 = .ok (.getfield 43, 3) := by decide +kernel
theorem dX2_readBarePart_38 : decode cX2_readBarePart 38 = .ok (.bipush (-2), 2) := by decide +kernel
theorem dX2_readBarePart_40 : decode cX2_readBarePart 40 = .ok (.if_icmp .eq 10, 3) := by decide +kernel
theorem dX2_readBarePart_43 : decode cX2_readBarePart 43 = .ok (.iload_n 2, 1) := by decide +kernel
theorem dX2_readBarePart_44 : decode cX2_readBarePart 44 = .ok (.invokestatic 66, 3) := by decide +kernel
theorem dX2_readBarePart_47 : decode cX2_readBarePart 47 = .ok (.ifCond .eq 10, 3) := by decide +kernel
theorem dX2_readBarePart_50 : decode cX2_readBarePart 50 = .ok (.aload_n 0, 1) := by decide +kernel
theorem dX2_readBarePart_51 : decode cX2_readBarePart 51 = .ok (.invokevirtual 100, 3) := by decide +kernel
theorem dX2_readBarePart_54 : decode cX2_readBarePart 54 = .ok (.ifCond .ne 5, 3) := by decide +kernel
theorem dX2_readBarePart_57 : decode cX2_readBarePart 57 = .ok (.iconst (-1), 1) := by decide +kernel
theorem dX2_readBarePart_58 : decode cX2_readBarePart 58 = .ok (.ireturn, 1) := by decide +kernel
theorem dX2_readBarePart_59 : decode cX2_readBarePart 59 = .ok (.aload_n 0, 1) := by decide +kernel
theorem dX2_readBarePart_60 : decode cX2_readBarePart 60 = .ok (.getfield 43, 3) := by decide +kernel
theorem dX2_readBarePart_63 : decode cX2_readBarePart 63 = .ok (.bipush (-2), 2) := by decide +kernel
theorem dX2_readBarePart_65 : decode cX2_readBarePart 65 = .ok (.if_icmp .ne 17, 3) := by decide +kernel
theorem dX2_readBarePart_68 : decode cX2_readBarePart 68 = .ok (.aload_n 0, 1) := by decide +kernel
theorem dX2_readBarePart_69 : decode cX2_readBarePart 69 = .ok (.getfield 21, 3) := by decide +kernel
theorem dX2_readBarePart_72 : decode cX2_readBarePart 72 = .ok (.aload_n 0, 1) := by decide +kernel
theorem dX2_readBarePart_73 : decode cX2_readBarePart 73 = .ok (.getfield 73, 3) := by decide +kernel
theorem dX2_readBarePart_76 : decode cX2_readBarePart 76 = .ok (.invokevirtual 125, 3) := by decide +kernel
theorem dX2_readBarePart_79 : decode cX2_readBarePart 79 = .ok (.goto 11, 3) := by decide +kernel
theorem dX2_readBarePart_82 : decode cX2_readBarePart 82 = .ok (.aload_n 0, 1) := by decide +kernel
theorem dX2_readBarePart_83 : decode cX2_readBarePart 83 = .ok (.getfield 21, 3) := by decide +kernel
theorem dX2_readBarePart_86 : decode cX2_readBarePart 86 = .ok (.iload_n 2, 1) := by decide +kernel
theorem dX2_readBarePart_87 : decode cX2_readBarePart 87 = .ok (.invokevirtual 128, 3) := by decide +kernel
theorem dX2_readBarePart_90 : decode cX2_readBarePart 90 = .ok (.istore_n 3, 1) := by decide +kernel
theorem dX2_readBarePart_91 : decode cX2_readBarePart 91 = .ok (.aload_n 0, 1) := by decide +kernel
theorem dX2_readBarePart_92 : decode cX2_readBarePart 92 = .ok (.invokevirtual 40, 3) := by decide +kernel
theorem dX2_readBarePart_95 : decode cX2_readBarePart 95 = .ok (.iload_n 3, 1) := by decide +kernel
theorem dX2_readBarePart_96 : decode cX2_readBarePart 96 = .ok (.ireturn, 1) := by decide +kernel
theorem dX2_readInner_0 : decode cX2_readInner 0 = .ok (.iload_n 1, 1) := by decide +kernel
theorem dX2_readInner_1 : decode cX2_readInner 1 = .ok (.bipush 8, 2) := by decide +kernel
theorem dX2_readInner_3 : decode cX2_readInner 3 = .ok (.if_icmp .lt 5, 3) := by decide +kernel
theorem dX2_readInner_6 : decode cX2_readInner 6 = .ok (.iconst (-1), 1) := by decide +kernel
theorem dX2_readInner_7 : decode cX2_readInner 7 = .ok (.ireturn, 1) := by decide +kernel
theorem dX2_readInner_8 : decode cX2_readInner 8 = .ok (.aload_n 0, 1) := by decide +kernel
theorem dX2_readInner_9 : decode cX2_readInner 9 = .ok (.invokevirtual 40, 3) := by decide +kernel
theorem dX2_readInner_12 : decode cX2_readInner 12 = .ok (.aload_n 0, 1) := by decide +kernel
theorem dX2_readInner_13 : decode cX2_readInner 13 = .ok (.iload_n 1, 1) := by decide +kernel
theorem dX2_readInner_14 : decode cX2_readInner 14 = .ok (.iconst 1, 1) := by decide +kernel
theorem dX2_readInner_15 : decode cX2_readInner 15 = .ok (.iadd, 1) := by decide +kernel
theorem dX2_readInner_16 : decode cX2_readInner 16 = .ok (.invokevirtual 90, 3) := by decide +kernel
theorem dX2_readInner_19 : decode cX2_readInner 19 = .ok (.istore_n 2, 1) := by decide +kernel
theorem dX2_readInner_20 : decode cX2_readInner 20 = .ok (.iload_n 2, 1) := by decide +kernel
theorem dX2_readInner_21 : decode cX2_readInner 21 = .ok (.iconst (-1), 1) := by decide +kernel
theorem dX2_readInner_22 : decode cX2_readInner 22 = .ok (.if_icmp .eq 12, 3) := by decide +kernel
theorem dX2_readInner_25 : decode cX2_readInner 25 = .ok (.aload_n 0, 1) := by decide +kernel
theorem dX2_readInner_26 : decode cX2_readInner 26 = .ok (.getfield 43, 3) := by decide +kernel
theorem dX2_readInner_29 : decode cX2_readInner 29 = .ok (.bipush 41, 2) := by decide +kernel
theorem dX2_readInner_31 : decode cX2_readInner 31 = .ok (.if_icmp .eq 5, 3) := by decide +kernel
theorem dX2_readInner_34 : decode cX2_readInner 34 = .ok (.iconst (-1), 1) := by decide +kernel
theorem dX2_readInner_35 : decode cX2_readInner 35 = .ok (.ireturn, 1) := by decide +kernel
theorem dX2_readInner_36 : decode cX2_readInner 36 = .ok (.aload_n 0, 1) := by decide +kernel
theorem dX2_readInner_37 : decode cX2_readInner 37 = .ok (.invokevirtual 40, 3) := by decide +kernel
theorem dX2_readInner_40 : decode cX2_readInner 40 = .ok (.iload_n 2, 1) := by decide +kernel
theorem dX2_readInner_41 : decode cX2_readInner 41 = .ok (.ireturn, 1) := by decide +kernel
theorem dX2_readEarlier_0 : decode cX2_readEarlier 0 = .ok (.aload_n 0, 1) := by decide +kernel
theorem dX2_readEarlier_1 : decode cX2_readEarlier 1 = .ok (.invokevirtual 100, 3) := by decide +kernel
theorem dX2_readEarlier_4 : decode cX2_readEarlier 4 = .ok (.ifCond .ne 5, 3) := by decide +kernel
theorem dX2_readEarlier_7 : decode cX2_readEarlier 7 = .ok (.iconst (-1), 1) := by decide +kernel
theorem dX2_readEarlier_8 : decode cX2_readEarlier 8 = .ok (.ireturn, 1) := by decide +kernel
theorem dX2_readEarlier_9 : decode cX2_readEarlier 9 = .ok (.aload_n 0, 1) := by decide +kernel
theorem dX2_readEarlier_10 : decode cX2_readEarlier 10 = .ok (.invokevirtual 40, 3) := by decide +kernel
theorem dX2_readEarlier_13 : decode cX2_readEarlier 13 = .ok (.aload_n 0, 1) := by decide +kernel
theorem dX2_readEarlier_14 : decode cX2_readEarlier 14 = .ok (.getfield 43, 3) := by decide +kernel
theorem dX2_readEarlier_17 : decode cX2_readEarlier 17 = .ok (.bipush (-2), 2) := by decide +kernel
theorem dX2_readEarlier_19 : decode cX2_readEarlier 19 = .ok (.if_icmp .ne 17, 3) := by decide +kernel
theorem dX2_readEarlier_22 : decode cX2_readEarlier 22 = .ok (.aload_n 0, 1) := by decide +kernel
theorem dX2_readEarlier_23 : decode cX2_readEarlier 23 = .ok (.getfield 73, 3) := by decide +kernel
theorem dX2_readEarlier_26 : decode cX2_readEarlier 26 = .ok (.aload_n 0, 1) := by decide +kernel
theorem dX2_readEarlier_27 : decode cX2_readEarlier 27 = .ok (.getfield 21, 3) := by decide +kernel
theorem dX2_readEarlier_30 : decode cX2_readEarlier 30 = .ok (.invokevirtual 84, 3) := by decide +kernel
theorem dX2_readEarlier_33 : decode cX2_readEarlier 33 = .ok (.if_icmp .lt 5, 3) := by decide +kernel
theorem dX2_readEarlier_36 : decode cX2_readEarlier 36 = .ok (.iconst (-1), 1) := by decide +kernel
theorem dX2_readEarlier_37 : decode cX2_readEarlier 37 = .ok (.ireturn, 1) := by decide +kernel
theorem dX2_readEarlier_38 : decode cX2_readEarlier 38 = .ok (.aload_n 0, 1) := by decide +kernel
theorem dX2_readEarlier_39 : decode cX2_readEarlier 39 = .ok (.getfield 21, 3) := by decide +kernel
theorem dX2_readEarlier_42 : decode cX2_readEarlier 42 = .ok (.iconst 2, 1) := by decide +kernel
theorem dX2_readEarlier_43 : decode cX2_readEarlier 43 = .ok (.aload_n 0, 1) := by decide +kernel
theorem dX2_readEarlier_44 : decode cX2_readEarlier 44 = .ok (.getfield 21, 3) := by decide +kernel
theorem dX2_readEarlier_47 : decode cX2_readEarlier 47 = .ok (.aload_n 0, 1) := by decide +kernel
theorem dX2_readEarlier_48 : decode cX2_readEarlier 48 = .ok (.getfield 73, 3) := by decide +kernel
theorem dX2_readEarlier_51 : decode cX2_readEarlier 51 = .ok (.invokevirtual 131, 3) := by decide +kernel
theorem dX2_readEarlier_54 : decode cX2_readEarlier 54 = .ok (.iconst 0, 1) := by decide +kernel
theorem dX2_readEarlier_55 : decode cX2_readEarlier 55 = .ok (.invokevirtual 113, 3) := by decide +kernel
theorem dX2_readEarlier_58 : decode cX2_readEarlier 58 = .ok (.istore_n 1, 1) := by decide +kernel
theorem dX2_readEarlier_59 : decode cX2_readEarlier 59 = .ok (.aload_n 0, 1) := by decide +kernel
theorem dX2_readEarlier_60 : decode cX2_readEarlier 60 = .ok (.invokevirtual 40, 3) := by decide +kernel
theorem dX2_readEarlier_63 : decode cX2_readEarlier 63 = .ok (.iload_n 1, 1) := by decide +kernel
theorem dX2_readEarlier_64 : decode cX2_readEarlier 64 = .ok (.ireturn, 1) := by decide +kernel
theorem dX2_countNode_0 : decode cX2_countNode 0 = .ok (.aload_n 0, 1) := by decide +kernel
theorem dX2_countNode_1 : decode cX2_countNode 1 = .ok (.getfield 87, 3) := by decide +kernel
theorem dX2_countNode_4 : decode cX2_countNode 4 = .ok (.bipush 20, 2) := by decide +kernel
theorem dX2_countNode_6 : decode cX2_countNode 6 = .ok (.if_icmp .lt 5, 3) := by decide +kernel
theorem dX2_countNode_9 : decode cX2_countNode 9 = .ok (.iconst 0, 1) := by decide +kernel
theorem dX2_countNode_10 : decode cX2_countNode 10 = .ok (.ireturn, 1) := by decide +kernel
theorem dX2_countNode_11 : decode cX2_countNode 11 = .ok (.aload_n 0, 1) := by decide +kernel
theorem dX2_countNode_12 : decode cX2_countNode 12 = .ok (.dup, 1) := by decide +kernel
theorem dX2_countNode_13 : decode cX2_countNode 13 = .ok (.getfield 87, 3) := by decide +kernel
theorem dX2_countNode_16 : decode cX2_countNode 16 = .ok (.iconst 1, 1) := by decide +kernel
theorem dX2_countNode_17 : decode cX2_countNode 17 = .ok (.iadd, 1) := by decide +kernel
theorem dX2_countNode_18 : decode cX2_countNode 18 = .ok (.putfield 87, 3) := by decide +kernel
theorem dX2_countNode_21 : decode cX2_countNode 21 = .ok (.iconst 1, 1) := by decide +kernel
theorem dX2_countNode_22 : decode cX2_countNode 22 = .ok (.ireturn, 1) := by decide +kernel
theorem dX2_passSign_0 : decode cX2_passSign 0 = .ok (.aload_n 0, 1) := by decide +kernel
theorem dX2_passSign_1 : decode cX2_passSign 1 = .ok (.getfield 43, 3) := by decide +kernel
theorem dX2_passSign_4 : decode cX2_passSign 4 = .ok (.bipush 45, 2) := by decide +kernel
theorem dX2_passSign_6 : decode cX2_passSign 6 = .ok (.if_icmp .eq 5, 3) := by decide +kernel
theorem dX2_passSign_9 : decode cX2_passSign 9 = .ok (.iconst 1, 1) := by decide +kernel
theorem dX2_passSign_10 : decode cX2_passSign 10 = .ok (.ireturn, 1) := by decide +kernel
theorem dX2_passSign_11 : decode cX2_passSign 11 = .ok (.aload_n 0, 1) := by decide +kernel
theorem dX2_passSign_12 : decode cX2_passSign 12 = .ok (.invokevirtual 40, 3) := by decide +kernel
theorem dX2_passSign_15 : decode cX2_passSign 15 = .ok (.iconst (-1), 1) := by decide +kernel
theorem dX2_passSign_16 : decode cX2_passSign 16 = .ok (.ireturn, 1) := by decide +kernel
theorem dX2_sourceAtHand_0 : decode cX2_sourceAtHand 0 = .ok (.aload_n 0, 1) := by decide +kernel
theorem dX2_sourceAtHand_1 : decode cX2_sourceAtHand 1 = .ok (.getfield 43, 3) := by decide +kernel
theorem dX2_sourceAtHand_4 : decode cX2_sourceAtHand 4 = .ok (.bipush 97, 2) := by decide +kernel
theorem dX2_sourceAtHand_6 : decode cX2_sourceAtHand 6 = .ok (.isub, 1) := by decide +kernel
theorem dX2_sourceAtHand_7 : decode cX2_sourceAtHand 7 = .ok (.ireturn, 1) := by decide +kernel
theorem dX2_pass_0 : decode cX2_pass 0 = .ok (.aload_n 0, 1) := by decide +kernel
theorem dX2_pass_1 : decode cX2_pass 1 = .ok (.getfield 37, 3) := by decide +kernel
theorem dX2_pass_4 : decode cX2_pass 4 = .ok (.istore_n 1, 1) := by decide +kernel
theorem dX2_pass_5 : decode cX2_pass 5 = .ok (.iload_n 1, 1) := by decide +kernel
theorem dX2_pass_6 : decode cX2_pass 6 = .ok (.ifCond .lt 34, 3) := by decide +kernel
theorem dX2_pass_9 : decode cX2_pass 9 = .ok (.iload_n 1, 1) := by decide +kernel
theorem dX2_pass_10 : decode cX2_pass 10 = .ok (.aload_n 0, 1) := by decide +kernel
theorem dX2_pass_11 : decode cX2_pass 11 = .ok (.getfield 29, 3) := by decide +kernel
theorem dX2_pass_14 : decode cX2_pass 14 = .ok (.if_icmp .ge 26, 3) := by decide +kernel
theorem dX2_pass_17 : decode cX2_pass 17 = .ok (.iload_n 1, 1) := by decide +kernel
theorem dX2_pass_18 : decode cX2_pass 18 = .ok (.bipush 100, 2) := by decide +kernel
theorem dX2_pass_20 : decode cX2_pass 20 = .ok (.if_icmp .ge 20, 3) := by decide +kernel
theorem dX2_pass_23 : decode cX2_pass 23 = .ok (.aload_n 0, 1) := by decide +kernel
theorem dX2_pass_24 : decode cX2_pass 24 = .ok (.getfield 25, 3) := by decide +kernel
theorem dX2_pass_27 : decode cX2_pass 27 = .ok (.iload_n 1, 1) := by decide +kernel
theorem dX2_pass_28 : decode cX2_pass 28 = .ok (.iaload, 1) := by decide +kernel
theorem dX2_pass_29 : decode cX2_pass 29 = .ok (.bipush 32, 2) := by decide +kernel
theorem dX2_pass_31 : decode cX2_pass 31 = .ok (.if_icmp .ne 9, 3) := by decide +kernel
theorem dX2_pass_34 : decode cX2_pass 34 = .ok (.iinc 1 1, 3) := by decide +kernel
theorem dX2_pass_37 : decode cX2_pass 37 = .ok (.goto (-32), 3) := by decide +kernel
theorem dX2_pass_40 : decode cX2_pass 40 = .ok (.aload_n 0, 1) := by decide +kernel
theorem dX2_pass_41 : decode cX2_pass 41 = .ok (.iload_n 1, 1) := by decide +kernel
theorem dX2_pass_42 : decode cX2_pass 42 = .ok (.putfield 50, 3) := by decide +kernel
theorem dX2_pass_45 : decode cX2_pass 45 = .ok (.aload_n 0, 1) := by decide +kernel
theorem dX2_pass_46 : decode cX2_pass 46 = .ok (.iload_n 1, 1) := by decide +kernel
theorem dX2_pass_47 : decode cX2_pass 47 = .ok (.iconst 1, 1) := by decide +kernel
theorem dX2_pass_48 : decode cX2_pass 48 = .ok (.iadd, 1) := by decide +kernel
theorem dX2_pass_49 : decode cX2_pass 49 = .ok (.putfield 37, 3) := by decide +kernel
theorem dX2_pass_52 : decode cX2_pass 52 = .ok (.iload_n 1, 1) := by decide +kernel
theorem dX2_pass_53 : decode cX2_pass 53 = .ok (.ifCond .lt 17, 3) := by decide +kernel
theorem dX2_pass_56 : decode cX2_pass 56 = .ok (.iload_n 1, 1) := by decide +kernel
theorem dX2_pass_57 : decode cX2_pass 57 = .ok (.aload_n 0, 1) := by decide +kernel
theorem dX2_pass_58 : decode cX2_pass 58 = .ok (.getfield 29, 3) := by decide +kernel
theorem dX2_pass_61 : decode cX2_pass 61 = .ok (.if_icmp .ge 9, 3) := by decide +kernel
theorem dX2_pass_64 : decode cX2_pass 64 = .ok (.iload_n 1, 1) := by decide +kernel
theorem dX2_pass_65 : decode cX2_pass 65 = .ok (.bipush 100, 2) := by decide +kernel
theorem dX2_pass_67 : decode cX2_pass 67 = .ok (.if_icmp .lt 16, 3) := by decide +kernel
theorem dX2_pass_70 : decode cX2_pass 70 = .ok (.aload_n 0, 1) := by decide +kernel
theorem dX2_pass_71 : decode cX2_pass 71 = .ok (.iconst (-1), 1) := by decide +kernel
theorem dX2_pass_72 : decode cX2_pass 72 = .ok (.putfield 43, 3) := by decide +kernel
theorem dX2_pass_75 : decode cX2_pass 75 = .ok (.aload_n 0, 1) := by decide +kernel
theorem dX2_pass_76 : decode cX2_pass 76 = .ok (.iload_n 1, 1) := by decide +kernel
theorem dX2_pass_77 : decode cX2_pass 77 = .ok (.putfield 37, 3) := by decide +kernel
theorem dX2_pass_80 : decode cX2_pass 80 = .ok (.goto 41, 3) := by decide +kernel
theorem dX2_pass_83 : decode cX2_pass 83 = .ok (.aload_n 0, 1) := by decide +kernel
theorem dX2_pass_84 : decode cX2_pass 84 = .ok (.getfield 25, 3) := by decide +kernel
theorem dX2_pass_87 : decode cX2_pass 87 = .ok (.iload_n 1, 1) := by decide +kernel
theorem dX2_pass_88 : decode cX2_pass 88 = .ok (.iaload, 1) := by decide +kernel
theorem dX2_pass_89 : decode cX2_pass 89 = .ok (.invokestatic 134, 3) := by decide +kernel
theorem dX2_pass_92 : decode cX2_pass 92 = .ok (.ifCond .eq 19, 3) := by decide +kernel
theorem dX2_pass_95 : decode cX2_pass 95 = .ok (.aload_n 0, 1) := by decide +kernel
theorem dX2_pass_96 : decode cX2_pass 96 = .ok (.aload_n 0, 1) := by decide +kernel
theorem dX2_pass_97 : decode cX2_pass 97 = .ok (.getfield 25, 3) := by decide +kernel
theorem dX2_pass_100 : decode cX2_pass 100 = .ok (.iload_n 1, 1) := by decide +kernel
theorem dX2_pass_101 : decode cX2_pass 101 = .ok (.iaload, 1) := by decide +kernel
theorem dX2_pass_102 : decode cX2_pass 102 = .ok (.bipush 48, 2) := by decide +kernel
theorem dX2_pass_104 : decode cX2_pass 104 = .ok (.isub, 1) := by decide +kernel
theorem dX2_pass_105 : decode cX2_pass 105 = .ok (.invokevirtual 137, 3) := by decide +kernel
theorem dX2_pass_108 : decode cX2_pass 108 = .ok (.goto 13, 3) := by decide +kernel
theorem dX2_pass_111 : decode cX2_pass 111 = .ok (.aload_n 0, 1) := by decide +kernel
theorem dX2_pass_112 : decode cX2_pass 112 = .ok (.aload_n 0, 1) := by decide +kernel
theorem dX2_pass_113 : decode cX2_pass 113 = .ok (.getfield 25, 3) := by decide +kernel
theorem dX2_pass_116 : decode cX2_pass 116 = .ok (.iload_n 1, 1) := by decide +kernel
theorem dX2_pass_117 : decode cX2_pass 117 = .ok (.iaload, 1) := by decide +kernel
theorem dX2_pass_118 : decode cX2_pass 118 = .ok (.putfield 43, 3) := by decide +kernel
theorem dX2_pass_121 : decode cX2_pass 121 = .ok (.return_, 1) := by decide +kernel
theorem dX2_passDigits_0 : decode cX2_passDigits 0 = .ok (.iconst 1, 1) := by decide +kernel
theorem dX2_passDigits_1 : decode cX2_passDigits 1 = .ok (.istore_n 2, 1) := by decide +kernel
theorem dX2_passDigits_2 : decode cX2_passDigits 2 = .ok (.aload_n 0, 1) := by decide +kernel
theorem dX2_passDigits_3 : decode cX2_passDigits 3 = .ok (.iload_n 1, 1) := by decide +kernel
theorem dX2_passDigits_4 : decode cX2_passDigits 4 = .ok (.putfield 73, 3) := by decide +kernel
theorem dX2_passDigits_7 : decode cX2_passDigits 7 = .ok (.aload_n 0, 1) := by decide +kernel
theorem dX2_passDigits_8 : decode cX2_passDigits 8 = .ok (.getfield 37, 3) := by decide +kernel
theorem dX2_passDigits_11 : decode cX2_passDigits 11 = .ok (.ifCond .lt 75, 3) := by decide +kernel
theorem dX2_passDigits_14 : decode cX2_passDigits 14 = .ok (.aload_n 0, 1) := by decide +kernel
theorem dX2_passDigits_15 : decode cX2_passDigits 15 = .ok (.getfield 37, 3) := by decide +kernel
theorem dX2_passDigits_18 : decode cX2_passDigits 18 = .ok (.aload_n 0, 1) := by decide +kernel
theorem dX2_passDigits_19 : decode cX2_passDigits 19 = .ok (.getfield 29, 3) := by decide +kernel
theorem dX2_passDigits_22 : decode cX2_passDigits 22 = .ok (.if_icmp .ge 64, 3) := by decide +kernel
theorem dX2_passDigits_25 : decode cX2_passDigits 25 = .ok (.aload_n 0, 1) := by decide +kernel
theorem dX2_passDigits_26 : decode cX2_passDigits 26 = .ok (.getfield 37, 3) := by decide +kernel
theorem dX2_passDigits_29 : decode cX2_passDigits 29 = .ok (.bipush 100, 2) := by decide +kernel
theorem dX2_passDigits_31 : decode cX2_passDigits 31 = .ok (.if_icmp .ge 55, 3) := by decide +kernel
theorem dX2_passDigits_34 : decode cX2_passDigits 34 = .ok (.aload_n 0, 1) := by decide +kernel
theorem dX2_passDigits_35 : decode cX2_passDigits 35 = .ok (.getfield 25, 3) := by decide +kernel
theorem dX2_passDigits_38 : decode cX2_passDigits 38 = .ok (.aload_n 0, 1) := by decide +kernel
theorem dX2_passDigits_39 : decode cX2_passDigits 39 = .ok (.getfield 37, 3) := by decide +kernel
theorem dX2_passDigits_42 : decode cX2_passDigits 42 = .ok (.iaload, 1) := by decide +kernel
theorem dX2_passDigits_43 : decode cX2_passDigits 43 = .ok (.invokestatic 134, 3) := by decide +kernel
theorem dX2_passDigits_46 : decode cX2_passDigits 46 = .ok (.ifCond .eq 40, 3) := by decide +kernel
theorem dX2_passDigits_49 : decode cX2_passDigits 49 = .ok (.aload_n 0, 1) := by decide +kernel
theorem dX2_passDigits_50 : decode cX2_passDigits 50 = .ok (.iload_n 1, 1) := by decide +kernel
theorem dX2_passDigits_51 : decode cX2_passDigits 51 = .ok (.bipush 10, 2) := by decide +kernel
theorem dX2_passDigits_53 : decode cX2_passDigits 53 = .ok (.imul, 1) := by decide +kernel
theorem dX2_passDigits_54 : decode cX2_passDigits 54 = .ok (.aload_n 0, 1) := by decide +kernel
theorem dX2_passDigits_55 : decode cX2_passDigits 55 = .ok (.getfield 25, 3) := by decide +kernel
theorem dX2_passDigits_58 : decode cX2_passDigits 58 = .ok (.aload_n 0, 1) := by decide +kernel
theorem dX2_passDigits_59 : decode cX2_passDigits 59 = .ok (.getfield 37, 3) := by decide +kernel
theorem dX2_passDigits_62 : decode cX2_passDigits 62 = .ok (.iaload, 1) := by decide +kernel
theorem dX2_passDigits_63 : decode cX2_passDigits 63 = .ok (.iadd, 1) := by decide +kernel
theorem dX2_passDigits_64 : decode cX2_passDigits 64 = .ok (.bipush 48, 2) := by decide +kernel
theorem dX2_passDigits_66 : decode cX2_passDigits 66 = .ok (.isub, 1) := by decide +kernel
theorem dX2_passDigits_67 : decode cX2_passDigits 67 = .ok (.putfield 73, 3) := by decide +kernel
theorem dX2_passDigits_70 : decode cX2_passDigits 70 = .ok (.iinc 2 1, 3) := by decide +kernel
theorem dX2_passDigits_73 : decode cX2_passDigits 73 = .ok (.aload_n 0, 1) := by decide +kernel
theorem dX2_passDigits_74 : decode cX2_passDigits 74 = .ok (.dup, 1) := by decide +kernel
theorem dX2_passDigits_75 : decode cX2_passDigits 75 = .ok (.getfield 37, 3) := by decide +kernel
theorem dX2_passDigits_78 : decode cX2_passDigits 78 = .ok (.iconst 1, 1) := by decide +kernel
theorem dX2_passDigits_79 : decode cX2_passDigits 79 = .ok (.iadd, 1) := by decide +kernel
theorem dX2_passDigits_80 : decode cX2_passDigits 80 = .ok (.putfield 37, 3) := by decide +kernel
theorem dX2_passDigits_83 : decode cX2_passDigits 83 = .ok (.goto (-76), 3) := by decide +kernel
theorem dX2_passDigits_86 : decode cX2_passDigits 86 = .ok (.aload_n 0, 1) := by decide +kernel
theorem dX2_passDigits_87 : decode cX2_passDigits 87 = .ok (.iload_n 2, 1) := by decide +kernel
theorem dX2_passDigits_88 : decode cX2_passDigits 88 = .ok (.iconst 1, 1) := by decide +kernel
theorem dX2_passDigits_89 : decode cX2_passDigits 89 = .ok (.if_icmp .eq 12, 3) := by decide +kernel
theorem dX2_passDigits_92 : decode cX2_passDigits 92 = .ok (.iload_n 2, 1) := by decide +kernel
theorem dX2_passDigits_93 : decode cX2_passDigits 93 = .ok (.iconst 2, 1) := by decide +kernel
theorem dX2_passDigits_94 : decode cX2_passDigits 94 = .ok (.if_icmp .ne 12, 3) := by decide +kernel
theorem dX2_passDigits_97 : decode cX2_passDigits 97 = .ok (.iload_n 1, 1) := by decide +kernel
theorem dX2_passDigits_98 : decode cX2_passDigits 98 = .ok (.ifCond .eq 8, 3) := by decide +kernel
theorem dX2_passDigits_101 : decode cX2_passDigits 101 = .ok (.bipush (-2), 2) := by decide +kernel
theorem dX2_passDigits_103 : decode cX2_passDigits 103 = .ok (.goto 5, 3) := by decide +kernel
theorem dX2_passDigits_106 : decode cX2_passDigits 106 = .ok (.bipush (-3), 2) := by decide +kernel
theorem dX2_passDigits_108 : decode cX2_passDigits 108 = .ok (.putfield 43, 3) := by decide +kernel
theorem dX2_passDigits_111 : decode cX2_passDigits 111 = .ok (.return_, 1) := by decide +kernel
theorem dX2_isDigit_0 : decode cX2_isDigit 0 = .ok (.iload_n 0, 1) := by decide +kernel
theorem dX2_isDigit_1 : decode cX2_isDigit 1 = .ok (.bipush 48, 2) := by decide +kernel
theorem dX2_isDigit_3 : decode cX2_isDigit 3 = .ok (.if_icmp .lt 13, 3) := by decide +kernel
theorem dX2_isDigit_6 : decode cX2_isDigit 6 = .ok (.iload_n 0, 1) := by decide +kernel
theorem dX2_isDigit_7 : decode cX2_isDigit 7 = .ok (.bipush 57, 2) := by decide +kernel
theorem dX2_isDigit_9 : decode cX2_isDigit 9 = .ok (.if_icmp .gt 7, 3) := by decide +kernel
theorem dX2_isDigit_12 : decode cX2_isDigit 12 = .ok (.iconst 1, 1) := by decide +kernel
theorem dX2_isDigit_13 : decode cX2_isDigit 13 = .ok (.goto 4, 3) := by decide +kernel
theorem dX2_isDigit_16 : decode cX2_isDigit 16 = .ok (.iconst 0, 1) := by decide +kernel
theorem dX2_isDigit_17 : decode cX2_isDigit 17 = .ok (.ireturn, 1) := by decide +kernel
theorem dX4_init_0 : decode cX4_init 0 = .ok (.aload_n 0, 1) := by decide +kernel
theorem dX4_init_1 : decode cX4_init 1 = .ok (.invokespecial 3, 3) := by decide +kernel
theorem dX4_init_4 : decode cX4_init 4 = .ok (.aload_n 0, 1) := by decide +kernel
theorem dX4_init_5 : decode cX4_init 5 = .ok (.bipush 80, 2) := by decide +kernel
theorem dX4_init_7 : decode cX4_init 7 = .ok (.newarray .int, 2) := by decide +kernel
theorem dX4_init_9 : decode cX4_init 9 = .ok (.putfield 9, 3) := by decide +kernel
theorem dX4_init_12 : decode cX4_init 12 = .ok (.aload_n 0, 1) := by decide +kernel
theorem dX4_init_13 : decode cX4_init 13 = .ok (.bipush 80, 2) := by decide +kernel
theorem dX4_init_15 : decode cX4_init 15 = .ok (.newarray .int, 2) := by decide +kernel
theorem dX4_init_17 : decode cX4_init 17 = .ok (.putfield 15, 3) := by decide +kernel
theorem dX4_init_20 : decode cX4_init 20 = .ok (.aload_n 0, 1) := by decide +kernel
theorem dX4_init_21 : decode cX4_init 21 = .ok (.bipush 80, 2) := by decide +kernel
theorem dX4_init_23 : decode cX4_init 23 = .ok (.newarray .int, 2) := by decide +kernel
theorem dX4_init_25 : decode cX4_init 25 = .ok (.putfield 18, 3) := by decide +kernel
theorem dX4_init_28 : decode cX4_init 28 = .ok (.aload_n 0, 1) := by decide +kernel
theorem dX4_init_29 : decode cX4_init 29 = .ok (.bipush 80, 2) := by decide +kernel
theorem dX4_init_31 : decode cX4_init 31 = .ok (.newarray .int, 2) := by decide +kernel
theorem dX4_init_33 : decode cX4_init 33 = .ok (.putfield 21, 3) := by decide +kernel
theorem dX4_init_36 : decode cX4_init 36 = .ok (.aload_n 0, 1) := by decide +kernel
theorem dX4_init_37 : decode cX4_init 37 = .ok (.bipush 80, 2) := by decide +kernel
theorem dX4_init_39 : decode cX4_init 39 = .ok (.newarray .int, 2) := by decide +kernel
theorem dX4_init_41 : decode cX4_init 41 = .ok (.putfield 24, 3) := by decide +kernel
theorem dX4_init_44 : decode cX4_init 44 = .ok (.aload_n 0, 1) := by decide +kernel
theorem dX4_init_45 : decode cX4_init 45 = .ok (.iconst 4, 1) := by decide +kernel
theorem dX4_init_46 : decode cX4_init 46 = .ok (.newarray .int, 2) := by decide +kernel
theorem dX4_init_48 : decode cX4_init 48 = .ok (.putfield 27, 3) := by decide +kernel
theorem dX4_init_51 : decode cX4_init 51 = .ok (.return_, 1) := by decide +kernel
theorem dX4_formulas_0 : decode cX4_formulas 0 = .ok (.aload_n 0, 1) := by decide +kernel
theorem dX4_formulas_1 : decode cX4_formulas 1 = .ok (.getfield 30, 3) := by decide +kernel
theorem dX4_formulas_4 : decode cX4_formulas 4 = .ok (.ireturn, 1) := by decide +kernel
theorem dX4_start_0 : decode cX4_start 0 = .ok (.aload_n 0, 1) := by decide +kernel
theorem dX4_start_1 : decode cX4_start 1 = .ok (.iload_n 1, 1) := by decide +kernel
theorem dX4_start_2 : decode cX4_start 2 = .ok (.iconst 1, 1) := by decide +kernel
theorem dX4_start_3 : decode cX4_start 3 = .ok (.isub, 1) := by decide +kernel
theorem dX4_start_4 : decode cX4_start 4 = .ok (.invokevirtual 34, 3) := by decide +kernel
theorem dX4_start_7 : decode cX4_start 7 = .ok (.ireturn, 1) := by decide +kernel
theorem dX4_stop_0 : decode cX4_stop 0 = .ok (.iload_n 1, 1) := by decide +kernel
theorem dX4_stop_1 : decode cX4_stop 1 = .ok (.ifCond .lt 17, 3) := by decide +kernel
theorem dX4_stop_4 : decode cX4_stop 4 = .ok (.iload_n 1, 1) := by decide +kernel
theorem dX4_stop_5 : decode cX4_stop 5 = .ok (.iconst 4, 1) := by decide +kernel
theorem dX4_stop_6 : decode cX4_stop 6 = .ok (.if_icmp .ge 12, 3) := by decide +kernel
theorem dX4_stop_9 : decode cX4_stop 9 = .ok (.aload_n 0, 1) := by decide +kernel
theorem dX4_stop_10 : decode cX4_stop 10 = .ok (.getfield 27, 3) := by decide +kernel
theorem dX4_stop_13 : decode cX4_stop 13 = .ok (.iload_n 1, 1) := by decide +kernel
theorem dX4_stop_14 : decode cX4_stop 14 = .ok (.iaload, 1) := by decide +kernel
theorem dX4_stop_15 : decode cX4_stop 15 = .ok (.goto 4, 3) := by decide +kernel
theorem dX4_stop_18 : decode cX4_stop 18 = .ok (.iconst 0, 1) := by decide +kernel
theorem dX4_stop_19 : decode cX4_stop 19 = .ok (.ireturn, 1) := by decide +kernel
theorem dX4_root_0 : decode cX4_root 0 = .ok (.aload_n 0, 1) := by decide +kernel
theorem dX4_root_1 : decode cX4_root 1 = .ok (.iload_n 1, 1) := by decide +kernel
theorem dX4_root_2 : decode cX4_root 2 = .ok (.invokevirtual 34, 3) := by decide +kernel
theorem dX4_root_5 : decode cX4_root 5 = .ok (.iconst 1, 1) := by decide +kernel
theorem dX4_root_6 : decode cX4_root 6 = .ok (.isub, 1) := by decide +kernel
theorem dX4_root_7 : decode cX4_root 7 = .ok (.ireturn, 1) := by decide +kernel
theorem dX4_steps_0 : decode cX4_steps 0 = .ok (.iload_n 1, 1) := by decide +kernel
theorem dX4_steps_1 : decode cX4_steps 1 = .ok (.ifCond .lt 18, 3) := by decide +kernel
theorem dX4_steps_4 : decode cX4_steps 4 = .ok (.iload_n 1, 1) := by decide +kernel
theorem dX4_steps_5 : decode cX4_steps 5 = .ok (.bipush 80, 2) := by decide +kernel
theorem dX4_steps_7 : decode cX4_steps 7 = .ok (.if_icmp .ge 12, 3) := by decide +kernel
theorem dX4_steps_10 : decode cX4_steps 10 = .ok (.aload_n 0, 1) := by decide +kernel
theorem dX4_steps_11 : decode cX4_steps 11 = .ok (.getfield 21, 3) := by decide +kernel
theorem dX4_steps_14 : decode cX4_steps 14 = .ok (.iload_n 1, 1) := by decide +kernel
theorem dX4_steps_15 : decode cX4_steps 15 = .ok (.iaload, 1) := by decide +kernel
theorem dX4_steps_16 : decode cX4_steps 16 = .ok (.goto 4, 3) := by decide +kernel
theorem dX4_steps_19 : decode cX4_steps 19 = .ok (.iconst 0, 1) := by decide +kernel
theorem dX4_steps_20 : decode cX4_steps 20 = .ok (.ireturn, 1) := by decide +kernel
theorem dX4_names_0 : decode cX4_names 0 = .ok (.iload_n 1, 1) := by decide +kernel
theorem dX4_names_1 : decode cX4_names 1 = .ok (.ifCond .lt 18, 3) := by decide +kernel
theorem dX4_names_4 : decode cX4_names 4 = .ok (.iload_n 1, 1) := by decide +kernel
theorem dX4_names_5 : decode cX4_names 5 = .ok (.bipush 80, 2) := by decide +kernel
theorem dX4_names_7 : decode cX4_names 7 = .ok (.if_icmp .ge 12, 3) := by decide +kernel
theorem dX4_names_10 : decode cX4_names 10 = .ok (.aload_n 0, 1) := by decide +kernel
theorem dX4_names_11 : decode cX4_names 11 = .ok (.getfield 24, 3) := by decide +kernel
theorem dX4_names_14 : decode cX4_names 14 = .ok (.iload_n 1, 1) := by decide +kernel
theorem dX4_names_15 : decode cX4_names 15 = .ok (.iaload, 1) := by decide +kernel
theorem dX4_names_16 : decode cX4_names 16 = .ok (.goto 4, 3) := by decide +kernel
theorem dX4_names_19 : decode cX4_names 19 = .ok (.iconst 0, 1) := by decide +kernel
theorem dX4_names_20 : decode cX4_names 20 = .ok (.ireturn, 1) := by decide +kernel
theorem dX4_reset_0 : decode cX4_reset 0 = .ok (.aload_n 0, 1) := by decide +kernel
theorem dX4_reset_1 : decode cX4_reset 1 = .ok (.iconst 0, 1) := by decide +kernel
theorem dX4_reset_2 : decode cX4_reset 2 = .ok (.putfield 30, 3) := by decide +kernel
theorem dX4_reset_5 : decode cX4_reset 5 = .ok (.aload_n 0, 1) := by decide +kernel
theorem dX4_reset_6 : decode cX4_reset 6 = .ok (.iconst 0, 1) := by decide +kernel
theorem dX4_reset_7 : decode cX4_reset 7 = .ok (.putfield 37, 3) := by decide +kernel
theorem dX4_reset_10 : decode cX4_reset 10 = .ok (.return_, 1) := by decide +kernel
theorem dX4_endFormula_0 : decode cX4_endFormula 0 = .ok (.aload_n 0, 1) := by decide +kernel
theorem dX4_endFormula_1 : decode cX4_endFormula 1 = .ok (.getfield 30, 3) := by decide +kernel
theorem dX4_endFormula_4 : decode cX4_endFormula 4 = .ok (.ifCond .lt 34, 3) := by decide +kernel
theorem dX4_endFormula_7 : decode cX4_endFormula 7 = .ok (.aload_n 0, 1) := by decide +kernel
theorem dX4_endFormula_8 : decode cX4_endFormula 8 = .ok (.getfield 30, 3) := by decide +kernel
theorem dX4_endFormula_11 : decode cX4_endFormula 11 = .ok (.iconst 4, 1) := by decide +kernel
theorem dX4_endFormula_12 : decode cX4_endFormula 12 = .ok (.if_icmp .ge 26, 3) := by decide +kernel
theorem dX4_endFormula_15 : decode cX4_endFormula 15 = .ok (.aload_n 0, 1) := by decide +kernel
theorem dX4_endFormula_16 : decode cX4_endFormula 16 = .ok (.getfield 27, 3) := by decide +kernel
theorem dX4_endFormula_19 : decode cX4_endFormula 19 = .ok (.aload_n 0, 1) := by decide +kernel
theorem dX4_endFormula_20 : decode cX4_endFormula 20 = .ok (.getfield 30, 3) := by decide +kernel
theorem dX4_endFormula_23 : decode cX4_endFormula 23 = .ok (.aload_n 0, 1) := by decide +kernel
theorem dX4_endFormula_24 : decode cX4_endFormula 24 = .ok (.getfield 37, 3) := by decide +kernel
theorem dX4_endFormula_27 : decode cX4_endFormula 27 = .ok (.iastore, 1) := by decide +kernel
theorem dX4_endFormula_28 : decode cX4_endFormula 28 = .ok (.aload_n 0, 1) := by decide +kernel
theorem dX4_endFormula_29 : decode cX4_endFormula 29 = .ok (.dup, 1) := by decide +kernel
theorem dX4_endFormula_30 : decode cX4_endFormula 30 = .ok (.getfield 30, 3) := by decide +kernel
theorem dX4_endFormula_33 : decode cX4_endFormula 33 = .ok (.iconst 1, 1) := by decide +kernel
theorem dX4_endFormula_34 : decode cX4_endFormula 34 = .ok (.iadd, 1) := by decide +kernel
theorem dX4_endFormula_35 : decode cX4_endFormula 35 = .ok (.putfield 30, 3) := by decide +kernel
theorem dX4_endFormula_38 : decode cX4_endFormula 38 = .ok (.return_, 1) := by decide +kernel
theorem dX4_addNumber_0 : decode cX4_addNumber 0 = .ok (.aload_n 0, 1) := by decide +kernel
theorem dX4_addNumber_1 : decode cX4_addNumber 1 = .ok (.iconst 0, 1) := by decide +kernel
theorem dX4_addNumber_2 : decode cX4_addNumber 2 = .ok (.iload_n 1, 1) := by decide +kernel
theorem dX4_addNumber_3 : decode cX4_addNumber 3 = .ok (.iconst 0, 1) := by decide +kernel
theorem dX4_addNumber_4 : decode cX4_addNumber 4 = .ok (.iconst 1, 1) := by decide +kernel
theorem dX4_addNumber_5 : decode cX4_addNumber 5 = .ok (.iconst 0, 1) := by decide +kernel
theorem dX4_addNumber_6 : decode cX4_addNumber 6 = .ok (.invokevirtual 40, 3) := by decide +kernel
theorem dX4_addNumber_9 : decode cX4_addNumber 9 = .ok (.ireturn, 1) := by decide +kernel
theorem dX4_addSource_0 : decode cX4_addSource 0 = .ok (.aload_n 0, 1) := by decide +kernel
theorem dX4_addSource_1 : decode cX4_addSource 1 = .ok (.iconst 1, 1) := by decide +kernel
theorem dX4_addSource_2 : decode cX4_addSource 2 = .ok (.iload_n 1, 1) := by decide +kernel
theorem dX4_addSource_3 : decode cX4_addSource 3 = .ok (.iconst 0, 1) := by decide +kernel
theorem dX4_addSource_4 : decode cX4_addSource 4 = .ok (.iconst 1, 1) := by decide +kernel
theorem dX4_addSource_5 : decode cX4_addSource 5 = .ok (.iconst 1, 1) := by decide +kernel
theorem dX4_addSource_6 : decode cX4_addSource 6 = .ok (.iload_n 1, 1) := by decide +kernel
theorem dX4_addSource_7 : decode cX4_addSource 7 = .ok (.ishl, 1) := by decide +kernel
theorem dX4_addSource_8 : decode cX4_addSource 8 = .ok (.invokevirtual 40, 3) := by decide +kernel
theorem dX4_addSource_11 : decode cX4_addSource 11 = .ok (.ireturn, 1) := by decide +kernel
theorem dX4_addOver_0 : decode cX4_addOver 0 = .ok (.aload_n 0, 1) := by decide +kernel
theorem dX4_addOver_1 : decode cX4_addOver 1 = .ok (.iload_n 1, 1) := by decide +kernel
theorem dX4_addOver_2 : decode cX4_addOver 2 = .ok (.iload_n 2, 1) := by decide +kernel
theorem dX4_addOver_3 : decode cX4_addOver 3 = .ok (.iload_n 3, 1) := by decide +kernel
theorem dX4_addOver_4 : decode cX4_addOver 4 = .ok (.iconst 1, 1) := by decide +kernel
theorem dX4_addOver_5 : decode cX4_addOver 5 = .ok (.aload_n 0, 1) := by decide +kernel
theorem dX4_addOver_6 : decode cX4_addOver 6 = .ok (.iload_n 2, 1) := by decide +kernel
theorem dX4_addOver_7 : decode cX4_addOver 7 = .ok (.invokevirtual 44, 3) := by decide +kernel
theorem dX4_addOver_10 : decode cX4_addOver 10 = .ok (.iadd, 1) := by decide +kernel
theorem dX4_addOver_11 : decode cX4_addOver 11 = .ok (.aload_n 0, 1) := by decide +kernel
theorem dX4_addOver_12 : decode cX4_addOver 12 = .ok (.iload_n 2, 1) := by decide +kernel
theorem dX4_addOver_13 : decode cX4_addOver 13 = .ok (.invokevirtual 46, 3) := by decide +kernel
theorem dX4_addOver_16 : decode cX4_addOver 16 = .ok (.invokevirtual 40, 3) := by decide +kernel
theorem dX4_addOver_19 : decode cX4_addOver 19 = .ok (.ireturn, 1) := by decide +kernel
theorem dX4_addBoth_0 : decode cX4_addBoth 0 = .ok (.aload_n 0, 1) := by decide +kernel
theorem dX4_addBoth_1 : decode cX4_addBoth 1 = .ok (.iload_n 1, 1) := by decide +kernel
theorem dX4_addBoth_2 : decode cX4_addBoth 2 = .ok (.iload_n 2, 1) := by decide +kernel
theorem dX4_addBoth_3 : decode cX4_addBoth 3 = .ok (.iload_n 3, 1) := by decide +kernel
theorem dX4_addBoth_4 : decode cX4_addBoth 4 = .ok (.iconst 1, 1) := by decide +kernel
theorem dX4_addBoth_5 : decode cX4_addBoth 5 = .ok (.aload_n 0, 1) := by decide +kernel
theorem dX4_addBoth_6 : decode cX4_addBoth 6 = .ok (.iload_n 2, 1) := by decide +kernel
theorem dX4_addBoth_7 : decode cX4_addBoth 7 = .ok (.invokevirtual 44, 3) := by decide +kernel
theorem dX4_addBoth_10 : decode cX4_addBoth 10 = .ok (.iadd, 1) := by decide +kernel
theorem dX4_addBoth_11 : decode cX4_addBoth 11 = .ok (.aload_n 0, 1) := by decide +kernel
theorem dX4_addBoth_12 : decode cX4_addBoth 12 = .ok (.iload_n 3, 1) := by decide +kernel
theorem dX4_addBoth_13 : decode cX4_addBoth 13 = .ok (.invokevirtual 44, 3) := by decide +kernel
theorem dX4_addBoth_16 : decode cX4_addBoth 16 = .ok (.iadd, 1) := by decide +kernel
theorem dX4_addBoth_17 : decode cX4_addBoth 17 = .ok (.aload_n 0, 1) := by decide +kernel
theorem dX4_addBoth_18 : decode cX4_addBoth 18 = .ok (.iload_n 2, 1) := by decide +kernel
theorem dX4_addBoth_19 : decode cX4_addBoth 19 = .ok (.invokevirtual 46, 3) := by decide +kernel
theorem dX4_addBoth_22 : decode cX4_addBoth 22 = .ok (.aload_n 0, 1) := by decide +kernel
theorem dX4_addBoth_23 : decode cX4_addBoth 23 = .ok (.iload_n 3, 1) := by decide +kernel
theorem dX4_addBoth_24 : decode cX4_addBoth 24 = .ok (.invokevirtual 46, 3) := by decide +kernel
theorem dX4_addBoth_27 : decode cX4_addBoth 27 = .ok (.ior, 1) := by decide +kernel
theorem dX4_addBoth_28 : decode cX4_addBoth 28 = .ok (.invokevirtual 40, 3) := by decide +kernel
theorem dX4_addBoth_31 : decode cX4_addBoth 31 = .ok (.ireturn, 1) := by decide +kernel
theorem dX4_take_0 : decode cX4_take 0 = .ok (.iconst 0, 1) := by decide +kernel
theorem dX4_take_1 : decode cX4_take 1 = .ok (.istore_n 2, 1) := by decide +kernel
theorem dX4_take_2 : decode cX4_take 2 = .ok (.iload_n 2, 1) := by decide +kernel
theorem dX4_take_3 : decode cX4_take 3 = .ok (.bipush 80, 2) := by decide +kernel
theorem dX4_take_5 : decode cX4_take 5 = .ok (.if_icmp .ge 69, 3) := by decide +kernel
theorem dX4_take_8 : decode cX4_take 8 = .ok (.aload_n 0, 1) := by decide +kernel
theorem dX4_take_9 : decode cX4_take 9 = .ok (.getfield 9, 3) := by decide +kernel
theorem dX4_take_12 : decode cX4_take 12 = .ok (.iload_n 2, 1) := by decide +kernel
theorem dX4_take_13 : decode cX4_take 13 = .ok (.aload_n 1, 1) := by decide +kernel
theorem dX4_take_14 : decode cX4_take 14 = .ok (.getfield 9, 3) := by decide +kernel
theorem dX4_take_17 : decode cX4_take 17 = .ok (.iload_n 2, 1) := by decide +kernel
theorem dX4_take_18 : decode cX4_take 18 = .ok (.iaload, 1) := by decide +kernel
theorem dX4_take_19 : decode cX4_take 19 = .ok (.iastore, 1) := by decide +kernel
theorem dX4_take_20 : decode cX4_take 20 = .ok (.aload_n 0, 1) := by decide +kernel
theorem dX4_take_21 : decode cX4_take 21 = .ok (.getfield 15, 3) := by decide +kernel
theorem dX4_take_24 : decode cX4_take 24 = .ok (.iload_n 2, 1) := by decide +kernel
theorem dX4_take_25 : decode cX4_take 25 = .ok (.aload_n 1, 1) := by decide +kernel
theorem dX4_take_26 : decode cX4_take 26 = .ok (.getfield 15, 3) := by decide +kernel
theorem dX4_take_29 : decode cX4_take 29 = .ok (.iload_n 2, 1) := by decide +kernel
theorem dX4_take_30 : decode cX4_take 30 = .ok (.iaload, 1) := by decide +kernel
theorem dX4_take_31 : decode cX4_take 31 = .ok (.iastore, 1) := by decide +kernel
theorem dX4_take_32 : decode cX4_take 32 = .ok (.aload_n 0, 1) := by decide +kernel
theorem dX4_take_33 : decode cX4_take 33 = .ok (.getfield 18, 3) := by decide +kernel
theorem dX4_take_36 : decode cX4_take 36 = .ok (.iload_n 2, 1) := by decide +kernel
theorem dX4_take_37 : decode cX4_take 37 = .ok (.aload_n 1, 1) := by decide +kernel
theorem dX4_take_38 : decode cX4_take 38 = .ok (.getfield 18, 3) := by decide +kernel
theorem dX4_take_41 : decode cX4_take 41 = .ok (.iload_n 2, 1) := by decide +kernel
theorem dX4_take_42 : decode cX4_take 42 = .ok (.iaload, 1) := by decide +kernel
theorem dX4_take_43 : decode cX4_take 43 = .ok (.iastore, 1) := by decide +kernel
theorem dX4_take_44 : decode cX4_take 44 = .ok (.aload_n 0, 1) := by decide +kernel
theorem dX4_take_45 : decode cX4_take 45 = .ok (.getfield 21, 3) := by decide +kernel
theorem dX4_take_48 : decode cX4_take 48 = .ok (.iload_n 2, 1) := by decide +kernel
theorem dX4_take_49 : decode cX4_take 49 = .ok (.aload_n 1, 1) := by decide +kernel
theorem dX4_take_50 : decode cX4_take 50 = .ok (.getfield 21, 3) := by decide +kernel
theorem dX4_take_53 : decode cX4_take 53 = .ok (.iload_n 2, 1) := by decide +kernel
theorem dX4_take_54 : decode cX4_take 54 = .ok (.iaload, 1) := by decide +kernel
theorem dX4_take_55 : decode cX4_take 55 = .ok (.iastore, 1) := by decide +kernel
theorem dX4_take_56 : decode cX4_take 56 = .ok (.aload_n 0, 1) := by decide +kernel
theorem dX4_take_57 : decode cX4_take 57 = .ok (.getfield 24, 3) := by decide +kernel
theorem dX4_take_60 : decode cX4_take 60 = .ok (.iload_n 2, 1) := by decide +kernel
theorem dX4_take_61 : decode cX4_take 61 = .ok (.aload_n 1, 1) := by decide +kernel
theorem dX4_take_62 : decode cX4_take 62 = .ok (.getfield 24, 3) := by decide +kernel
theorem dX4_take_65 : decode cX4_take 65 = .ok (.iload_n 2, 1) := by decide +kernel
theorem dX4_take_66 : decode cX4_take 66 = .ok (.iaload, 1) := by decide +kernel
theorem dX4_take_67 : decode cX4_take 67 = .ok (.iastore, 1) := by decide +kernel
theorem dX4_take_68 : decode cX4_take 68 = .ok (.iinc 2 1, 3) := by decide +kernel
theorem dX4_take_71 : decode cX4_take 71 = .ok (.goto (-69), 3) := by decide +kernel
theorem dX4_take_74 : decode cX4_take 74 = .ok (.iconst 0, 1) := by decide +kernel
theorem dX4_take_75 : decode cX4_take 75 = .ok (.istore_n 2, 1) := by decide +kernel
theorem dX4_take_76 : decode cX4_take 76 = .ok (.iload_n 2, 1) := by decide +kernel
theorem dX4_take_77 : decode cX4_take 77 = .ok (.iconst 4, 1) := by decide +kernel
theorem dX4_take_78 : decode cX4_take 78 = .ok (.if_icmp .ge 21, 3) := by decide +kernel
theorem dX4_take_81 : decode cX4_take 81 = .ok (.aload_n 0, 1) := by decide +kernel
theorem dX4_take_82 : decode cX4_take 82 = .ok (.getfield 27, 3) := by decide +kernel
theorem dX4_take_85 : decode cX4_take 85 = .ok (.iload_n 2, 1) := by decide +kernel
theorem dX4_take_86 : decode cX4_take 86 = .ok (.aload_n 1, 1) := by decide +kernel
theorem dX4_take_87 : decode cX4_take 87 = .ok (.getfield 27, 3) := by decide +kernel
theorem dX4_take_90 : decode cX4_take 90 = .ok (.iload_n 2, 1) := by decide +kernel
theorem dX4_take_91 : decode cX4_take 91 = .ok (.iaload, 1) := by decide +kernel
theorem dX4_take_92 : decode cX4_take 92 = .ok (.iastore, 1) := by decide +kernel
theorem dX4_take_93 : decode cX4_take 93 = .ok (.iinc 2 1, 3) := by decide +kernel
theorem dX4_take_96 : decode cX4_take 96 = .ok (.goto (-20), 3) := by decide +kernel
theorem dX4_take_99 : decode cX4_take 99 = .ok (.aload_n 0, 1) := by decide +kernel
theorem dX4_take_100 : decode cX4_take 100 = .ok (.aload_n 1, 1) := by decide +kernel
theorem dX4_take_101 : decode cX4_take 101 = .ok (.getfield 30, 3) := by decide +kernel
theorem dX4_take_104 : decode cX4_take 104 = .ok (.putfield 30, 3) := by decide +kernel
theorem dX4_take_107 : decode cX4_take 107 = .ok (.aload_n 0, 1) := by decide +kernel
theorem dX4_take_108 : decode cX4_take 108 = .ok (.aload_n 1, 1) := by decide +kernel
theorem dX4_take_109 : decode cX4_take 109 = .ok (.getfield 37, 3) := by decide +kernel
theorem dX4_take_112 : decode cX4_take 112 = .ok (.putfield 37, 3) := by decide +kernel
theorem dX4_take_115 : decode cX4_take 115 = .ok (.return_, 1) := by decide +kernel
theorem dX4_add_0 : decode cX4_add 0 = .ok (.aload_n 0, 1) := by decide +kernel
theorem dX4_add_1 : decode cX4_add 1 = .ok (.getfield 37, 3) := by decide +kernel
theorem dX4_add_4 : decode cX4_add 4 = .ok (.istore 6, 2) := by decide +kernel
theorem dX4_add_6 : decode cX4_add 6 = .ok (.iload 6, 2) := by decide +kernel
theorem dX4_add_8 : decode cX4_add 8 = .ok (.ifCond .lt 10, 3) := by decide +kernel
theorem dX4_add_11 : decode cX4_add 11 = .ok (.iload 6, 2) := by decide +kernel
theorem dX4_add_13 : decode cX4_add 13 = .ok (.bipush 80, 2) := by decide +kernel
theorem dX4_add_15 : decode cX4_add 15 = .ok (.if_icmp .lt 5, 3) := by decide +kernel
theorem dX4_add_18 : decode cX4_add 18 = .ok (.iconst (-1), 1) := by decide +kernel
theorem dX4_add_19 : decode cX4_add 19 = .ok (.ireturn, 1) := by decide +kernel
theorem dX4_add_20 : decode cX4_add 20 = .ok (.aload_n 0, 1) := by decide +kernel
theorem dX4_add_21 : decode cX4_add 21 = .ok (.getfield 9, 3) := by decide +kernel
theorem dX4_add_24 : decode cX4_add 24 = .ok (.iload 6, 2) := by decide +kernel
theorem dX4_add_26 : decode cX4_add 26 = .ok (.iload_n 1, 1) := by decide +kernel
theorem dX4_add_27 : decode cX4_add 27 = .ok (.iastore, 1) := by decide +kernel
theorem dX4_add_28 : decode cX4_add 28 = .ok (.aload_n 0, 1) := by decide +kernel
theorem dX4_add_29 : decode cX4_add 29 = .ok (.getfield 15, 3) := by decide +kernel
theorem dX4_add_32 : decode cX4_add 32 = .ok (.iload 6, 2) := by decide +kernel
theorem dX4_add_34 : decode cX4_add 34 = .ok (.iload_n 2, 1) := by decide +kernel
theorem dX4_add_35 : decode cX4_add 35 = .ok (.iastore, 1) := by decide +kernel
theorem dX4_add_36 : decode cX4_add 36 = .ok (.aload_n 0, 1) := by decide +kernel
theorem dX4_add_37 : decode cX4_add 37 = .ok (.getfield 18, 3) := by decide +kernel
theorem dX4_add_40 : decode cX4_add 40 = .ok (.iload 6, 2) := by decide +kernel
theorem dX4_add_42 : decode cX4_add 42 = .ok (.iload_n 3, 1) := by decide +kernel
theorem dX4_add_43 : decode cX4_add 43 = .ok (.iastore, 1) := by decide +kernel
theorem dX4_add_44 : decode cX4_add 44 = .ok (.aload_n 0, 1) := by decide +kernel
theorem dX4_add_45 : decode cX4_add 45 = .ok (.getfield 21, 3) := by decide +kernel
theorem dX4_add_48 : decode cX4_add 48 = .ok (.iload 6, 2) := by decide +kernel
theorem dX4_add_50 : decode cX4_add 50 = .ok (.iload 4, 2) := by decide +kernel
theorem dX4_add_52 : decode cX4_add 52 = .ok (.iastore, 1) := by decide +kernel
theorem dX4_add_53 : decode cX4_add 53 = .ok (.aload_n 0, 1) := by decide +kernel
theorem dX4_add_54 : decode cX4_add 54 = .ok (.getfield 24, 3) := by decide +kernel
theorem dX4_add_57 : decode cX4_add 57 = .ok (.iload 6, 2) := by decide +kernel
theorem dX4_add_59 : decode cX4_add 59 = .ok (.iload 5, 2) := by decide +kernel
theorem dX4_add_61 : decode cX4_add 61 = .ok (.iastore, 1) := by decide +kernel
theorem dX4_add_62 : decode cX4_add 62 = .ok (.aload_n 0, 1) := by decide +kernel
theorem dX4_add_63 : decode cX4_add 63 = .ok (.iload 6, 2) := by decide +kernel
theorem dX4_add_65 : decode cX4_add 65 = .ok (.iconst 1, 1) := by decide +kernel
theorem dX4_add_66 : decode cX4_add 66 = .ok (.iadd, 1) := by decide +kernel
theorem dX4_add_67 : decode cX4_add 67 = .ok (.putfield 37, 3) := by decide +kernel
theorem dX4_add_70 : decode cX4_add 70 = .ok (.iload 6, 2) := by decide +kernel
theorem dX4_add_72 : decode cX4_add 72 = .ok (.ireturn, 1) := by decide +kernel
end
section
theorem dX3_init_0 : decode cX3_init 0 = .ok (.aload_n 0, 1) := by decide +kernel
theorem dX3_init_1 : decode cX3_init 1 = .ok (.invokespecial 3, 3) := by decide +kernel
theorem dX3_init_4 : decode cX3_init 4 = .ok (.aload_n 0, 1) := by decide +kernel
theorem dX3_init_5 : decode cX3_init 5 = .ok (.aload_n 1, 1) := by decide +kernel
theorem dX3_init_6 : decode cX3_init 6 = .ok (.putfield 9, 3) := by decide +kernel
theorem dX3_init_9 : decode cX3_init 9 = .ok (.aload_n 0, 1) := by decide +kernel
theorem dX3_init_10 : decode cX3_init 10 = .ok (.aload_n 2, 1) := by decide +kernel
theorem dX3_init_11 : decode cX3_init 11 = .ok (.putfield 15, 3) := by decide +kernel
theorem dX3_init_14 : decode cX3_init 14 = .ok (.aload_n 0, 1) := by decide +kernel
theorem dX3_init_15 : decode cX3_init 15 = .ok (.bipush 80, 2) := by decide +kernel
theorem dX3_init_17 : decode cX3_init 17 = .ok (.newarray .long, 2) := by decide +kernel
theorem dX3_init_19 : decode cX3_init 19 = .ok (.putfield 19, 3) := by decide +kernel
theorem dX3_init_22 : decode cX3_init 22 = .ok (.aload_n 0, 1) := by decide +kernel
theorem dX3_init_23 : decode cX3_init 23 = .ok (.bipush 80, 2) := by decide +kernel
theorem dX3_init_25 : decode cX3_init 25 = .ok (.newarray .long, 2) := by decide +kernel
theorem dX3_init_27 : decode cX3_init 27 = .ok (.putfield 23, 3) := by decide +kernel
theorem dX3_init_30 : decode cX3_init 30 = .ok (.aload_n 0, 1) := by decide +kernel
theorem dX3_init_31 : decode cX3_init 31 = .ok (.bipush 80, 2) := by decide +kernel
theorem dX3_init_33 : decode cX3_init 33 = .ok (.newarray .long, 2) := by decide +kernel
theorem dX3_init_35 : decode cX3_init 35 = .ok (.putfield 26, 3) := by decide +kernel
theorem dX3_init_38 : decode cX3_init 38 = .ok (.aload_n 0, 1) := by decide +kernel
theorem dX3_init_39 : decode cX3_init 39 = .ok (.bipush 80, 2) := by decide +kernel
theorem dX3_init_41 : decode cX3_init 41 = .ok (.newarray .long, 2) := by decide +kernel
theorem dX3_init_43 : decode cX3_init 43 = .ok (.putfield 29, 3) := by decide +kernel
theorem dX3_init_46 : decode cX3_init 46 = .ok (.return_, 1) := by decide +kernel
theorem dX3_worth_0 : decode cX3_worth 0 = .ok (.aload_n 0, 1) := by decide +kernel
theorem dX3_worth_1 : decode cX3_worth 1 = .ok (.aload_n 0, 1) := by decide +kernel
theorem dX3_worth_2 : decode cX3_worth 2 = .ok (.getfield 9, 3) := by decide +kernel
theorem dX3_worth_5 : decode cX3_worth 5 = .ok (.iload_n 1, 1) := by decide +kernel
theorem dX3_worth_6 : decode cX3_worth 6 = .ok (.invokevirtual 32, 3) := by decide +kernel
theorem dX3_worth_9 : decode cX3_worth 9 = .ok (.iload_n 2, 1) := by decide +kernel
theorem dX3_worth_10 : decode cX3_worth 10 = .ok (.iload_n 3, 1) := by decide +kernel
theorem dX3_worth_11 : decode cX3_worth 11 = .ok (.invokevirtual 38, 3) := by decide +kernel
theorem dX3_worth_14 : decode cX3_worth 14 = .ok (.aload_n 0, 1) := by decide +kernel
theorem dX3_worth_15 : decode cX3_worth 15 = .ok (.getfield 19, 3) := by decide +kernel
theorem dX3_worth_18 : decode cX3_worth 18 = .ok (.aload_n 0, 1) := by decide +kernel
theorem dX3_worth_19 : decode cX3_worth 19 = .ok (.getfield 9, 3) := by decide +kernel
theorem dX3_worth_22 : decode cX3_worth 22 = .ok (.iload_n 1, 1) := by decide +kernel
theorem dX3_worth_23 : decode cX3_worth 23 = .ok (.invokevirtual 42, 3) := by decide +kernel
theorem dX3_worth_26 : decode cX3_worth 26 = .ok (.invokestatic 45, 3) := by decide +kernel
theorem dX3_worth_29 : decode cX3_worth 29 = .ok (.lreturn, 1) := by decide +kernel
theorem dX3_slopeBy_0 : decode cX3_slopeBy 0 = .ok (.aload_n 0, 1) := by decide +kernel
theorem dX3_slopeBy_1 : decode cX3_slopeBy 1 = .ok (.aload_n 0, 1) := by decide +kernel
theorem dX3_slopeBy_2 : decode cX3_slopeBy 2 = .ok (.getfield 9, 3) := by decide +kernel
theorem dX3_slopeBy_5 : decode cX3_slopeBy 5 = .ok (.iload_n 1, 1) := by decide +kernel
theorem dX3_slopeBy_6 : decode cX3_slopeBy 6 = .ok (.invokevirtual 32, 3) := by decide +kernel
theorem dX3_slopeBy_9 : decode cX3_slopeBy 9 = .ok (.iload_n 2, 1) := by decide +kernel
theorem dX3_slopeBy_10 : decode cX3_slopeBy 10 = .ok (.iconst 0, 1) := by decide +kernel
theorem dX3_slopeBy_11 : decode cX3_slopeBy 11 = .ok (.invokevirtual 38, 3) := by decide +kernel
theorem dX3_slopeBy_14 : decode cX3_slopeBy 14 = .ok (.aload_n 0, 1) := by decide +kernel
theorem dX3_slopeBy_15 : decode cX3_slopeBy 15 = .ok (.aload_n 0, 1) := by decide +kernel
theorem dX3_slopeBy_16 : decode cX3_slopeBy 16 = .ok (.getfield 23, 3) := by decide +kernel
theorem dX3_slopeBy_19 : decode cX3_slopeBy 19 = .ok (.aload_n 0, 1) := by decide +kernel
theorem dX3_slopeBy_20 : decode cX3_slopeBy 20 = .ok (.getfield 9, 3) := by decide +kernel
theorem dX3_slopeBy_23 : decode cX3_slopeBy 23 = .ok (.iload_n 1, 1) := by decide +kernel
theorem dX3_slopeBy_24 : decode cX3_slopeBy 24 = .ok (.invokevirtual 32, 3) := by decide +kernel
theorem dX3_slopeBy_27 : decode cX3_slopeBy 27 = .ok (.iload_n 2, 1) := by decide +kernel
theorem dX3_slopeBy_28 : decode cX3_slopeBy 28 = .ok (.invokevirtual 49, 3) := by decide +kernel
theorem dX3_slopeBy_31 : decode cX3_slopeBy 31 = .ok (.aload_n 0, 1) := by decide +kernel
theorem dX3_slopeBy_32 : decode cX3_slopeBy 32 = .ok (.getfield 23, 3) := by decide +kernel
theorem dX3_slopeBy_35 : decode cX3_slopeBy 35 = .ok (.aload_n 0, 1) := by decide +kernel
theorem dX3_slopeBy_36 : decode cX3_slopeBy 36 = .ok (.getfield 9, 3) := by decide +kernel
theorem dX3_slopeBy_39 : decode cX3_slopeBy 39 = .ok (.iload_n 1, 1) := by decide +kernel
theorem dX3_slopeBy_40 : decode cX3_slopeBy 40 = .ok (.invokevirtual 42, 3) := by decide +kernel
theorem dX3_slopeBy_43 : decode cX3_slopeBy 43 = .ok (.invokestatic 45, 3) := by decide +kernel
theorem dX3_slopeBy_46 : decode cX3_slopeBy 46 = .ok (.lreturn, 1) := by decide +kernel
theorem dX3_bendBy_0 : decode cX3_bendBy 0 = .ok (.aload_n 0, 1) := by decide +kernel
theorem dX3_bendBy_1 : decode cX3_bendBy 1 = .ok (.getfield 9, 3) := by decide +kernel
theorem dX3_bendBy_4 : decode cX3_bendBy 4 = .ok (.iload_n 1, 1) := by decide +kernel
theorem dX3_bendBy_5 : decode cX3_bendBy 5 = .ok (.invokevirtual 32, 3) := by decide +kernel
theorem dX3_bendBy_8 : decode cX3_bendBy 8 = .ok (.istore 4, 2) := by decide +kernel
theorem dX3_bendBy_10 : decode cX3_bendBy 10 = .ok (.aload_n 0, 1) := by decide +kernel
theorem dX3_bendBy_11 : decode cX3_bendBy 11 = .ok (.iload 4, 2) := by decide +kernel
theorem dX3_bendBy_13 : decode cX3_bendBy 13 = .ok (.iload_n 2, 1) := by decide +kernel
theorem dX3_bendBy_14 : decode cX3_bendBy 14 = .ok (.iconst 0, 1) := by decide +kernel
theorem dX3_bendBy_15 : decode cX3_bendBy 15 = .ok (.invokevirtual 38, 3) := by decide +kernel
theorem dX3_bendBy_18 : decode cX3_bendBy 18 = .ok (.aload_n 0, 1) := by decide +kernel
theorem dX3_bendBy_19 : decode cX3_bendBy 19 = .ok (.aload_n 0, 1) := by decide +kernel
theorem dX3_bendBy_20 : decode cX3_bendBy 20 = .ok (.getfield 23, 3) := by decide +kernel
theorem dX3_bendBy_23 : decode cX3_bendBy 23 = .ok (.iload 4, 2) := by decide +kernel
theorem dX3_bendBy_25 : decode cX3_bendBy 25 = .ok (.iload_n 2, 1) := by decide +kernel
theorem dX3_bendBy_26 : decode cX3_bendBy 26 = .ok (.invokevirtual 49, 3) := by decide +kernel
theorem dX3_bendBy_29 : decode cX3_bendBy 29 = .ok (.aload_n 0, 1) := by decide +kernel
theorem dX3_bendBy_30 : decode cX3_bendBy 30 = .ok (.aload_n 0, 1) := by decide +kernel
theorem dX3_bendBy_31 : decode cX3_bendBy 31 = .ok (.getfield 26, 3) := by decide +kernel
theorem dX3_bendBy_34 : decode cX3_bendBy 34 = .ok (.iload 4, 2) := by decide +kernel
theorem dX3_bendBy_36 : decode cX3_bendBy 36 = .ok (.iload_n 3, 1) := by decide +kernel
theorem dX3_bendBy_37 : decode cX3_bendBy 37 = .ok (.invokevirtual 49, 3) := by decide +kernel
theorem dX3_bendBy_40 : decode cX3_bendBy 40 = .ok (.aload_n 0, 1) := by decide +kernel
theorem dX3_bendBy_41 : decode cX3_bendBy 41 = .ok (.iload 4, 2) := by decide +kernel
theorem dX3_bendBy_43 : decode cX3_bendBy 43 = .ok (.invokevirtual 53, 3) := by decide +kernel
theorem dX3_bendBy_46 : decode cX3_bendBy 46 = .ok (.aload_n 0, 1) := by decide +kernel
theorem dX3_bendBy_47 : decode cX3_bendBy 47 = .ok (.getfield 29, 3) := by decide +kernel
theorem dX3_bendBy_50 : decode cX3_bendBy 50 = .ok (.aload_n 0, 1) := by decide +kernel
theorem dX3_bendBy_51 : decode cX3_bendBy 51 = .ok (.getfield 9, 3) := by decide +kernel
theorem dX3_bendBy_54 : decode cX3_bendBy 54 = .ok (.iload_n 1, 1) := by decide +kernel
theorem dX3_bendBy_55 : decode cX3_bendBy 55 = .ok (.invokevirtual 42, 3) := by decide +kernel
theorem dX3_bendBy_58 : decode cX3_bendBy 58 = .ok (.invokestatic 45, 3) := by decide +kernel
theorem dX3_bendBy_61 : decode cX3_bendBy 61 = .ok (.lreturn, 1) := by decide +kernel
theorem dX3_slopesInto_0 : decode cX3_slopesInto 0 = .ok (.aload_n 0, 1) := by decide +kernel
theorem dX3_slopesInto_1 : decode cX3_slopesInto 1 = .ok (.getfield 9, 3) := by decide +kernel
theorem dX3_slopesInto_4 : decode cX3_slopesInto 4 = .ok (.iload_n 2, 1) := by decide +kernel
theorem dX3_slopesInto_5 : decode cX3_slopesInto 5 = .ok (.invokevirtual 32, 3) := by decide +kernel
theorem dX3_slopesInto_8 : decode cX3_slopesInto 8 = .ok (.istore_n 3, 1) := by decide +kernel
theorem dX3_slopesInto_9 : decode cX3_slopesInto 9 = .ok (.aload_n 0, 1) := by decide +kernel
theorem dX3_slopesInto_10 : decode cX3_slopesInto 10 = .ok (.iload_n 3, 1) := by decide +kernel
theorem dX3_slopesInto_11 : decode cX3_slopesInto 11 = .ok (.iconst 0, 1) := by decide +kernel
theorem dX3_slopesInto_12 : decode cX3_slopesInto 12 = .ok (.iconst 0, 1) := by decide +kernel
theorem dX3_slopesInto_13 : decode cX3_slopesInto 13 = .ok (.invokevirtual 38, 3) := by decide +kernel
theorem dX3_slopesInto_16 : decode cX3_slopesInto 16 = .ok (.iconst 0, 1) := by decide +kernel
theorem dX3_slopesInto_17 : decode cX3_slopesInto 17 = .ok (.istore 4, 2) := by decide +kernel
theorem dX3_slopesInto_19 : decode cX3_slopesInto 19 = .ok (.iload 4, 2) := by decide +kernel
theorem dX3_slopesInto_21 : decode cX3_slopesInto 21 = .ok (.bipush 6, 2) := by decide +kernel
theorem dX3_slopesInto_23 : decode cX3_slopesInto 23 = .ok (.if_icmp .ge 46, 3) := by decide +kernel
theorem dX3_slopesInto_26 : decode cX3_slopesInto 26 = .ok (.iload 4, 2) := by decide +kernel
theorem dX3_slopesInto_28 : decode cX3_slopesInto 28 = .ok (.aload_n 1, 1) := by decide +kernel
theorem dX3_slopesInto_29 : decode cX3_slopesInto 29 = .ok (.arraylength, 1) := by decide +kernel
theorem dX3_slopesInto_30 : decode cX3_slopesInto 30 = .ok (.if_icmp .ge 39, 3) := by decide +kernel
theorem dX3_slopesInto_33 : decode cX3_slopesInto 33 = .ok (.aload_n 0, 1) := by decide +kernel
theorem dX3_slopesInto_34 : decode cX3_slopesInto 34 = .ok (.aload_n 0, 1) := by decide +kernel
theorem dX3_slopesInto_35 : decode cX3_slopesInto 35 = .ok (.getfield 23, 3) := by decide +kernel
theorem dX3_slopesInto_38 : decode cX3_slopesInto 38 = .ok (.iload_n 3, 1) := by decide +kernel
theorem dX3_slopesInto_39 : decode cX3_slopesInto 39 = .ok (.iload 4, 2) := by decide +kernel
theorem dX3_slopesInto_41 : decode cX3_slopesInto 41 = .ok (.invokevirtual 49, 3) := by decide +kernel
theorem dX3_slopesInto_44 : decode cX3_slopesInto 44 = .ok (.aload_n 1, 1) := by decide +kernel
theorem dX3_slopesInto_45 : decode cX3_slopesInto 45 = .ok (.iload 4, 2) := by decide +kernel
theorem dX3_slopesInto_47 : decode cX3_slopesInto 47 = .ok (.aload_n 0, 1) := by decide +kernel
theorem dX3_slopesInto_48 : decode cX3_slopesInto 48 = .ok (.getfield 23, 3) := by decide +kernel
theorem dX3_slopesInto_51 : decode cX3_slopesInto 51 = .ok (.aload_n 0, 1) := by decide +kernel
theorem dX3_slopesInto_52 : decode cX3_slopesInto 52 = .ok (.getfield 9, 3) := by decide +kernel
theorem dX3_slopesInto_55 : decode cX3_slopesInto 55 = .ok (.iload_n 2, 1) := by decide +kernel
theorem dX3_slopesInto_56 : decode cX3_slopesInto 56 = .ok (.invokevirtual 42, 3) := by decide +kernel
theorem dX3_slopesInto_59 : decode cX3_slopesInto 59 = .ok (.invokestatic 45, 3) := by decide +kernel
theorem dX3_slopesInto_62 : decode cX3_slopesInto 62 = .ok (.lastore, 1) := by decide +kernel
theorem dX3_slopesInto_63 : decode cX3_slopesInto 63 = .ok (.iinc 4 1, 3) := by decide +kernel
theorem dX3_slopesInto_66 : decode cX3_slopesInto 66 = .ok (.goto (-47), 3) := by decide +kernel
theorem dX3_slopesInto_69 : decode cX3_slopesInto 69 = .ok (.return_, 1) := by decide +kernel
theorem dX3_walkWorth_0 : decode cX3_walkWorth 0 = .ok (.iconst 0, 1) := by decide +kernel
theorem dX3_walkWorth_1 : decode cX3_walkWorth 1 = .ok (.istore 4, 2) := by decide +kernel
theorem dX3_walkWorth_3 : decode cX3_walkWorth 3 = .ok (.iload 4, 2) := by decide +kernel
theorem dX3_walkWorth_5 : decode cX3_walkWorth 5 = .ok (.iload_n 1, 1) := by decide +kernel
theorem dX3_walkWorth_6 : decode cX3_walkWorth 6 = .ok (.if_icmp .ge 31, 3) := by decide +kernel
theorem dX3_walkWorth_9 : decode cX3_walkWorth 9 = .ok (.iload 4, 2) := by decide +kernel
theorem dX3_walkWorth_11 : decode cX3_walkWorth 11 = .ok (.bipush 80, 2) := by decide +kernel
theorem dX3_walkWorth_13 : decode cX3_walkWorth 13 = .ok (.if_icmp .ge 24, 3) := by decide +kernel
theorem dX3_walkWorth_16 : decode cX3_walkWorth 16 = .ok (.aload_n 0, 1) := by decide +kernel
theorem dX3_walkWorth_17 : decode cX3_walkWorth 17 = .ok (.getfield 19, 3) := by decide +kernel
theorem dX3_walkWorth_20 : decode cX3_walkWorth 20 = .ok (.iload 4, 2) := by decide +kernel
theorem dX3_walkWorth_22 : decode cX3_walkWorth 22 = .ok (.aload_n 0, 1) := by decide +kernel
theorem dX3_walkWorth_23 : decode cX3_walkWorth 23 = .ok (.iload 4, 2) := by decide +kernel
theorem dX3_walkWorth_25 : decode cX3_walkWorth 25 = .ok (.iload_n 2, 1) := by decide +kernel
theorem dX3_walkWorth_26 : decode cX3_walkWorth 26 = .ok (.iload_n 3, 1) := by decide +kernel
theorem dX3_walkWorth_27 : decode cX3_walkWorth 27 = .ok (.invokevirtual 57, 3) := by decide +kernel
theorem dX3_walkWorth_30 : decode cX3_walkWorth 30 = .ok (.lastore, 1) := by decide +kernel
theorem dX3_walkWorth_31 : decode cX3_walkWorth 31 = .ok (.iinc 4 1, 3) := by decide +kernel
theorem dX3_walkWorth_34 : decode cX3_walkWorth 34 = .ok (.goto (-31), 3) := by decide +kernel
theorem dX3_walkWorth_37 : decode cX3_walkWorth 37 = .ok (.return_, 1) := by decide +kernel
theorem dX3_worthOf_0 : decode cX3_worthOf 0 = .ok (.aload_n 0, 1) := by decide +kernel
theorem dX3_worthOf_1 : decode cX3_worthOf 1 = .ok (.getfield 9, 3) := by decide +kernel
theorem dX3_worthOf_4 : decode cX3_worthOf 4 = .ok (.getfield 61, 3) := by decide +kernel
theorem dX3_worthOf_7 : decode cX3_worthOf 7 = .ok (.iload_n 1, 1) := by decide +kernel
theorem dX3_worthOf_8 : decode cX3_worthOf 8 = .ok (.iaload, 1) := by decide +kernel
theorem dX3_worthOf_9 : decode cX3_worthOf 9 = .ok (.istore 4, 2) := by decide +kernel
theorem dX3_worthOf_11 : decode cX3_worthOf 11 = .ok (.aload_n 0, 1) := by decide +kernel
theorem dX3_worthOf_12 : decode cX3_worthOf 12 = .ok (.getfield 9, 3) := by decide +kernel
theorem dX3_worthOf_15 : decode cX3_worthOf 15 = .ok (.getfield 65, 3) := by decide +kernel
theorem dX3_worthOf_18 : decode cX3_worthOf 18 = .ok (.iload_n 1, 1) := by decide +kernel
theorem dX3_worthOf_19 : decode cX3_worthOf 19 = .ok (.iaload, 1) := by decide +kernel
theorem dX3_worthOf_20 : decode cX3_worthOf 20 = .ok (.istore 5, 2) := by decide +kernel
theorem dX3_worthOf_22 : decode cX3_worthOf 22 = .ok (.aload_n 0, 1) := by decide +kernel
theorem dX3_worthOf_23 : decode cX3_worthOf 23 = .ok (.getfield 9, 3) := by decide +kernel
theorem dX3_worthOf_26 : decode cX3_worthOf 26 = .ok (.getfield 68, 3) := by decide +kernel
theorem dX3_worthOf_29 : decode cX3_worthOf 29 = .ok (.iload_n 1, 1) := by decide +kernel
theorem dX3_worthOf_30 : decode cX3_worthOf 30 = .ok (.iaload, 1) := by decide +kernel
theorem dX3_worthOf_31 : decode cX3_worthOf 31 = .ok (.tableswitch 158 0 7 #[45, 49, 158, 72, 92, 112, 132, 147], 45) := by decide +kernel
theorem dX3_worthOf_76 : decode cX3_worthOf 76 = .ok (.iload 4, 2) := by decide +kernel
theorem dX3_worthOf_78 : decode cX3_worthOf 78 = .ok (.i2l, 1) := by decide +kernel
theorem dX3_worthOf_79 : decode cX3_worthOf 79 = .ok (.lreturn, 1) := by decide +kernel
theorem dX3_worthOf_80 : decode cX3_worthOf 80 = .ok (.aload_n 0, 1) := by decide +kernel
theorem dX3_worthOf_81 : decode cX3_worthOf 81 = .ok (.getfield 15, 3) := by decide +kernel
theorem dX3_worthOf_84 : decode cX3_worthOf 84 = .ok (.iload 4, 2) := by decide +kernel
theorem dX3_worthOf_86 : decode cX3_worthOf 86 = .ok (.invokevirtual 71, 3) := by decide +kernel
theorem dX3_worthOf_89 : decode cX3_worthOf 89 = .ok (.iload 4, 2) := by decide +kernel
theorem dX3_worthOf_91 : decode cX3_worthOf 91 = .ok (.iload_n 2, 1) := by decide +kernel
theorem dX3_worthOf_92 : decode cX3_worthOf 92 = .ok (.if_icmp .ne 7, 3) := by decide +kernel
theorem dX3_worthOf_95 : decode cX3_worthOf 95 = .ok (.iload_n 3, 1) := by decide +kernel
theorem dX3_worthOf_96 : decode cX3_worthOf 96 = .ok (.goto 4, 3) := by decide +kernel
theorem dX3_worthOf_99 : decode cX3_worthOf 99 = .ok (.iconst 0, 1) := by decide +kernel
theorem dX3_worthOf_100 : decode cX3_worthOf 100 = .ok (.iadd, 1) := by decide +kernel
theorem dX3_worthOf_101 : decode cX3_worthOf 101 = .ok (.i2l, 1) := by decide +kernel
theorem dX3_worthOf_102 : decode cX3_worthOf 102 = .ok (.lreturn, 1) := by decide +kernel
theorem dX3_worthOf_103 : decode cX3_worthOf 103 = .ok (.aload_n 0, 1) := by decide +kernel
theorem dX3_worthOf_104 : decode cX3_worthOf 104 = .ok (.getfield 19, 3) := by decide +kernel
theorem dX3_worthOf_107 : decode cX3_worthOf 107 = .ok (.iload 4, 2) := by decide +kernel
theorem dX3_worthOf_109 : decode cX3_worthOf 109 = .ok (.invokestatic 45, 3) := by decide +kernel
theorem dX3_worthOf_112 : decode cX3_worthOf 112 = .ok (.aload_n 0, 1) := by decide +kernel
theorem dX3_worthOf_113 : decode cX3_worthOf 113 = .ok (.getfield 19, 3) := by decide +kernel
theorem dX3_worthOf_116 : decode cX3_worthOf 116 = .ok (.iload 5, 2) := by decide +kernel
theorem dX3_worthOf_118 : decode cX3_worthOf 118 = .ok (.invokestatic 45, 3) := by decide +kernel
theorem dX3_worthOf_121 : decode cX3_worthOf 121 = .ok (.ladd, 1) := by decide +kernel
theorem dX3_worthOf_122 : decode cX3_worthOf 122 = .ok (.lreturn, 1) := by decide +kernel
theorem dX3_worthOf_123 : decode cX3_worthOf 123 = .ok (.aload_n 0, 1) := by decide +kernel
theorem dX3_worthOf_124 : decode cX3_worthOf 124 = .ok (.getfield 19, 3) := by decide +kernel
theorem dX3_worthOf_127 : decode cX3_worthOf 127 = .ok (.iload 4, 2) := by decide +kernel
theorem dX3_worthOf_129 : decode cX3_worthOf 129 = .ok (.invokestatic 45, 3) := by decide +kernel
theorem dX3_worthOf_132 : decode cX3_worthOf 132 = .ok (.aload_n 0, 1) := by decide +kernel
theorem dX3_worthOf_133 : decode cX3_worthOf 133 = .ok (.getfield 19, 3) := by decide +kernel
theorem dX3_worthOf_136 : decode cX3_worthOf 136 = .ok (.iload 5, 2) := by decide +kernel
theorem dX3_worthOf_138 : decode cX3_worthOf 138 = .ok (.invokestatic 45, 3) := by decide +kernel
theorem dX3_worthOf_141 : decode cX3_worthOf 141 = .ok (.lsub, 1) := by decide +kernel
theorem dX3_worthOf_142 : decode cX3_worthOf 142 = .ok (.lreturn, 1) := by decide +kernel
theorem dX3_worthOf_143 : decode cX3_worthOf 143 = .ok (.aload_n 0, 1) := by decide +kernel
theorem dX3_worthOf_144 : decode cX3_worthOf 144 = .ok (.getfield 19, 3) := by decide +kernel
theorem dX3_worthOf_147 : decode cX3_worthOf 147 = .ok (.iload 4, 2) := by decide +kernel
theorem dX3_worthOf_149 : decode cX3_worthOf 149 = .ok (.invokestatic 45, 3) := by decide +kernel
theorem dX3_worthOf_152 : decode cX3_worthOf 152 = .ok (.aload_n 0, 1) := by decide +kernel
theorem dX3_worthOf_153 : decode cX3_worthOf 153 = .ok (.getfield 19, 3) := by decide +kernel
theorem dX3_worthOf_156 : decode cX3_worthOf 156 = .ok (.iload 5, 2) := by decide +kernel
theorem dX3_worthOf_158 : decode cX3_worthOf 158 = .ok (.invokestatic 45, 3) := by decide +kernel
theorem dX3_worthOf_161 : decode cX3_worthOf 161 = .ok (.lmul, 1) := by decide +kernel
theorem dX3_worthOf_162 : decode cX3_worthOf 162 = .ok (.lreturn, 1) := by decide +kernel
theorem dX3_worthOf_163 : decode cX3_worthOf 163 = .ok (.aload_n 0, 1) := by decide +kernel
theorem dX3_worthOf_164 : decode cX3_worthOf 164 = .ok (.getfield 19, 3) := by decide +kernel
theorem dX3_worthOf_167 : decode cX3_worthOf 167 = .ok (.iload 4, 2) := by decide +kernel
theorem dX3_worthOf_169 : decode cX3_worthOf 169 = .ok (.invokestatic 45, 3) := by decide +kernel
theorem dX3_worthOf_172 : decode cX3_worthOf 172 = .ok (.iload 5, 2) := by decide +kernel
theorem dX3_worthOf_174 : decode cX3_worthOf 174 = .ok (.invokestatic 75, 3) := by decide +kernel
theorem dX3_worthOf_177 : decode cX3_worthOf 177 = .ok (.lreturn, 1) := by decide +kernel
theorem dX3_worthOf_178 : decode cX3_worthOf 178 = .ok (.aload_n 0, 1) := by decide +kernel
theorem dX3_worthOf_179 : decode cX3_worthOf 179 = .ok (.getfield 19, 3) := by decide +kernel
theorem dX3_worthOf_182 : decode cX3_worthOf 182 = .ok (.iload 4, 2) := by decide +kernel
theorem dX3_worthOf_184 : decode cX3_worthOf 184 = .ok (.invokestatic 45, 3) := by decide +kernel
theorem dX3_worthOf_187 : decode cX3_worthOf 187 = .ok (.lneg, 1) := by decide +kernel
theorem dX3_worthOf_188 : decode cX3_worthOf 188 = .ok (.lreturn, 1) := by decide +kernel
theorem dX3_worthOf_189 : decode cX3_worthOf 189 = .ok (.aload_n 0, 1) := by decide +kernel
theorem dX3_worthOf_190 : decode cX3_worthOf 190 = .ok (.getfield 19, 3) := by decide +kernel
theorem dX3_worthOf_193 : decode cX3_worthOf 193 = .ok (.iload 4, 2) := by decide +kernel
theorem dX3_worthOf_195 : decode cX3_worthOf 195 = .ok (.invokestatic 45, 3) := by decide +kernel
theorem dX3_worthOf_198 : decode cX3_worthOf 198 = .ok (.lreturn, 1) := by decide +kernel
theorem dX3_walkSlope_0 : decode cX3_walkSlope 0 = .ok (.iconst 0, 1) := by decide +kernel
theorem dX3_walkSlope_1 : decode cX3_walkSlope 1 = .ok (.istore 4, 2) := by decide +kernel
theorem dX3_walkSlope_3 : decode cX3_walkSlope 3 = .ok (.iload 4, 2) := by decide +kernel
theorem dX3_walkSlope_5 : decode cX3_walkSlope 5 = .ok (.iload_n 2, 1) := by decide +kernel
theorem dX3_walkSlope_6 : decode cX3_walkSlope 6 = .ok (.if_icmp .ge 35, 3) := by decide +kernel
theorem dX3_walkSlope_9 : decode cX3_walkSlope 9 = .ok (.iload 4, 2) := by decide +kernel
theorem dX3_walkSlope_11 : decode cX3_walkSlope 11 = .ok (.aload_n 1, 1) := by decide +kernel
theorem dX3_walkSlope_12 : decode cX3_walkSlope 12 = .ok (.arraylength, 1) := by decide +kernel
theorem dX3_walkSlope_13 : decode cX3_walkSlope 13 = .ok (.if_icmp .ge 28, 3) := by decide +kernel
theorem dX3_walkSlope_16 : decode cX3_walkSlope 16 = .ok (.iload 4, 2) := by decide +kernel
theorem dX3_walkSlope_18 : decode cX3_walkSlope 18 = .ok (.bipush 80, 2) := by decide +kernel
theorem dX3_walkSlope_20 : decode cX3_walkSlope 20 = .ok (.if_icmp .ge 21, 3) := by decide +kernel
theorem dX3_walkSlope_23 : decode cX3_walkSlope 23 = .ok (.aload_n 1, 1) := by decide +kernel
theorem dX3_walkSlope_24 : decode cX3_walkSlope 24 = .ok (.iload 4, 2) := by decide +kernel
theorem dX3_walkSlope_26 : decode cX3_walkSlope 26 = .ok (.aload_n 0, 1) := by decide +kernel
theorem dX3_walkSlope_27 : decode cX3_walkSlope 27 = .ok (.aload_n 1, 1) := by decide +kernel
theorem dX3_walkSlope_28 : decode cX3_walkSlope 28 = .ok (.iload 4, 2) := by decide +kernel
theorem dX3_walkSlope_30 : decode cX3_walkSlope 30 = .ok (.iload_n 3, 1) := by decide +kernel
theorem dX3_walkSlope_31 : decode cX3_walkSlope 31 = .ok (.invokevirtual 79, 3) := by decide +kernel
theorem dX3_walkSlope_34 : decode cX3_walkSlope 34 = .ok (.lastore, 1) := by decide +kernel
theorem dX3_walkSlope_35 : decode cX3_walkSlope 35 = .ok (.iinc 4 1, 3) := by decide +kernel
theorem dX3_walkSlope_38 : decode cX3_walkSlope 38 = .ok (.goto (-35), 3) := by decide +kernel
theorem dX3_walkSlope_41 : decode cX3_walkSlope 41 = .ok (.return_, 1) := by decide +kernel
theorem dX3_slopeOf_0 : decode cX3_slopeOf 0 = .ok (.aload_n 0, 1) := by decide +kernel
theorem dX3_slopeOf_1 : decode cX3_slopeOf 1 = .ok (.getfield 9, 3) := by decide +kernel
theorem dX3_slopeOf_4 : decode cX3_slopeOf 4 = .ok (.getfield 61, 3) := by decide +kernel
theorem dX3_slopeOf_7 : decode cX3_slopeOf 7 = .ok (.iload_n 2, 1) := by decide +kernel
theorem dX3_slopeOf_8 : decode cX3_slopeOf 8 = .ok (.iaload, 1) := by decide +kernel
theorem dX3_slopeOf_9 : decode cX3_slopeOf 9 = .ok (.istore 4, 2) := by decide +kernel
theorem dX3_slopeOf_11 : decode cX3_slopeOf 11 = .ok (.aload_n 0, 1) := by decide +kernel
theorem dX3_slopeOf_12 : decode cX3_slopeOf 12 = .ok (.getfield 9, 3) := by decide +kernel
theorem dX3_slopeOf_15 : decode cX3_slopeOf 15 = .ok (.getfield 65, 3) := by decide +kernel
theorem dX3_slopeOf_18 : decode cX3_slopeOf 18 = .ok (.iload_n 2, 1) := by decide +kernel
theorem dX3_slopeOf_19 : decode cX3_slopeOf 19 = .ok (.iaload, 1) := by decide +kernel
theorem dX3_slopeOf_20 : decode cX3_slopeOf 20 = .ok (.istore 5, 2) := by decide +kernel
theorem dX3_slopeOf_22 : decode cX3_slopeOf 22 = .ok (.aload_n 0, 1) := by decide +kernel
theorem dX3_slopeOf_23 : decode cX3_slopeOf 23 = .ok (.getfield 9, 3) := by decide +kernel
theorem dX3_slopeOf_26 : decode cX3_slopeOf 26 = .ok (.getfield 68, 3) := by decide +kernel
theorem dX3_slopeOf_29 : decode cX3_slopeOf 29 = .ok (.iload_n 2, 1) := by decide +kernel
theorem dX3_slopeOf_30 : decode cX3_slopeOf 30 = .ok (.iaload, 1) := by decide +kernel
theorem dX3_slopeOf_31 : decode cX3_slopeOf 31 = .ok (.tableswitch 157 0 7 #[45, 47, 157, 59, 73, 87, 121, 149], 45) := by decide +kernel
theorem dX3_slopeOf_76 : decode cX3_slopeOf 76 = .ok (.lconst 0, 1) := by decide +kernel
theorem dX3_slopeOf_77 : decode cX3_slopeOf 77 = .ok (.lreturn, 1) := by decide +kernel
theorem dX3_slopeOf_78 : decode cX3_slopeOf 78 = .ok (.iload 4, 2) := by decide +kernel
theorem dX3_slopeOf_80 : decode cX3_slopeOf 80 = .ok (.iload_n 3, 1) := by decide +kernel
theorem dX3_slopeOf_81 : decode cX3_slopeOf 81 = .ok (.if_icmp .ne 7, 3) := by decide +kernel
theorem dX3_slopeOf_84 : decode cX3_slopeOf 84 = .ok (.lconst 1, 1) := by decide +kernel
theorem dX3_slopeOf_85 : decode cX3_slopeOf 85 = .ok (.goto 4, 3) := by decide +kernel
theorem dX3_slopeOf_88 : decode cX3_slopeOf 88 = .ok (.lconst 0, 1) := by decide +kernel
theorem dX3_slopeOf_89 : decode cX3_slopeOf 89 = .ok (.lreturn, 1) := by decide +kernel
theorem dX3_slopeOf_90 : decode cX3_slopeOf 90 = .ok (.aload_n 1, 1) := by decide +kernel
theorem dX3_slopeOf_91 : decode cX3_slopeOf 91 = .ok (.iload 4, 2) := by decide +kernel
theorem dX3_slopeOf_93 : decode cX3_slopeOf 93 = .ok (.invokestatic 45, 3) := by decide +kernel
theorem dX3_slopeOf_96 : decode cX3_slopeOf 96 = .ok (.aload_n 1, 1) := by decide +kernel
theorem dX3_slopeOf_97 : decode cX3_slopeOf 97 = .ok (.iload 5, 2) := by decide +kernel
theorem dX3_slopeOf_99 : decode cX3_slopeOf 99 = .ok (.invokestatic 45, 3) := by decide +kernel
theorem dX3_slopeOf_102 : decode cX3_slopeOf 102 = .ok (.ladd, 1) := by decide +kernel
theorem dX3_slopeOf_103 : decode cX3_slopeOf 103 = .ok (.lreturn, 1) := by decide +kernel
theorem dX3_slopeOf_104 : decode cX3_slopeOf 104 = .ok (.aload_n 1, 1) := by decide +kernel
theorem dX3_slopeOf_105 : decode cX3_slopeOf 105 = .ok (.iload 4, 2) := by decide +kernel
theorem dX3_slopeOf_107 : decode cX3_slopeOf 107 = .ok (.invokestatic 45, 3) := by decide +kernel
theorem dX3_slopeOf_110 : decode cX3_slopeOf 110 = .ok (.aload_n 1, 1) := by decide +kernel
theorem dX3_slopeOf_111 : decode cX3_slopeOf 111 = .ok (.iload 5, 2) := by decide +kernel
theorem dX3_slopeOf_113 : decode cX3_slopeOf 113 = .ok (.invokestatic 45, 3) := by decide +kernel
theorem dX3_slopeOf_116 : decode cX3_slopeOf 116 = .ok (.lsub, 1) := by decide +kernel
theorem dX3_slopeOf_117 : decode cX3_slopeOf 117 = .ok (.lreturn, 1) := by decide +kernel
theorem dX3_slopeOf_118 : decode cX3_slopeOf 118 = .ok (.aload_n 1, 1) := by decide +kernel
theorem dX3_slopeOf_119 : decode cX3_slopeOf 119 = .ok (.iload 4, 2) := by decide +kernel
theorem dX3_slopeOf_121 : decode cX3_slopeOf 121 = .ok (.invokestatic 45, 3) := by decide +kernel
theorem dX3_slopeOf_124 : decode cX3_slopeOf 124 = .ok (.aload_n 0, 1) := by decide +kernel
theorem dX3_slopeOf_125 : decode cX3_slopeOf 125 = .ok (.getfield 19, 3) := by decide +kernel
theorem dX3_slopeOf_128 : decode cX3_slopeOf 128 = .ok (.iload 5, 2) := by decide +kernel
theorem dX3_slopeOf_130 : decode cX3_slopeOf 130 = .ok (.invokestatic 45, 3) := by decide +kernel
theorem dX3_slopeOf_133 : decode cX3_slopeOf 133 = .ok (.lmul, 1) := by decide +kernel
theorem dX3_slopeOf_134 : decode cX3_slopeOf 134 = .ok (.aload_n 0, 1) := by decide +kernel
theorem dX3_slopeOf_135 : decode cX3_slopeOf 135 = .ok (.getfield 19, 3) := by decide +kernel
theorem dX3_slopeOf_138 : decode cX3_slopeOf 138 = .ok (.iload 4, 2) := by decide +kernel
theorem dX3_slopeOf_140 : decode cX3_slopeOf 140 = .ok (.invokestatic 45, 3) := by decide +kernel
theorem dX3_slopeOf_143 : decode cX3_slopeOf 143 = .ok (.aload_n 1, 1) := by decide +kernel
theorem dX3_slopeOf_144 : decode cX3_slopeOf 144 = .ok (.iload 5, 2) := by decide +kernel
theorem dX3_slopeOf_146 : decode cX3_slopeOf 146 = .ok (.invokestatic 45, 3) := by decide +kernel
theorem dX3_slopeOf_149 : decode cX3_slopeOf 149 = .ok (.lmul, 1) := by decide +kernel
theorem dX3_slopeOf_150 : decode cX3_slopeOf 150 = .ok (.ladd, 1) := by decide +kernel
theorem dX3_slopeOf_151 : decode cX3_slopeOf 151 = .ok (.lreturn, 1) := by decide +kernel
theorem dX3_slopeOf_152 : decode cX3_slopeOf 152 = .ok (.iload 5, 2) := by decide +kernel
theorem dX3_slopeOf_154 : decode cX3_slopeOf 154 = .ok (.i2l, 1) := by decide +kernel
theorem dX3_slopeOf_155 : decode cX3_slopeOf 155 = .ok (.aload_n 0, 1) := by decide +kernel
theorem dX3_slopeOf_156 : decode cX3_slopeOf 156 = .ok (.getfield 19, 3) := by decide +kernel
theorem dX3_slopeOf_159 : decode cX3_slopeOf 159 = .ok (.iload 4, 2) := by decide +kernel
theorem dX3_slopeOf_161 : decode cX3_slopeOf 161 = .ok (.invokestatic 45, 3) := by decide +kernel
theorem dX3_slopeOf_164 : decode cX3_slopeOf 164 = .ok (.iload 5, 2) := by decide +kernel
theorem dX3_slopeOf_166 : decode cX3_slopeOf 166 = .ok (.iconst 1, 1) := by decide +kernel
theorem dX3_slopeOf_167 : decode cX3_slopeOf 167 = .ok (.isub, 1) := by decide +kernel
theorem dX3_slopeOf_168 : decode cX3_slopeOf 168 = .ok (.invokestatic 75, 3) := by decide +kernel
theorem dX3_slopeOf_171 : decode cX3_slopeOf 171 = .ok (.lmul, 1) := by decide +kernel
theorem dX3_slopeOf_172 : decode cX3_slopeOf 172 = .ok (.aload_n 1, 1) := by decide +kernel
theorem dX3_slopeOf_173 : decode cX3_slopeOf 173 = .ok (.iload 4, 2) := by decide +kernel
theorem dX3_slopeOf_175 : decode cX3_slopeOf 175 = .ok (.invokestatic 45, 3) := by decide +kernel
theorem dX3_slopeOf_178 : decode cX3_slopeOf 178 = .ok (.lmul, 1) := by decide +kernel
theorem dX3_slopeOf_179 : decode cX3_slopeOf 179 = .ok (.lreturn, 1) := by decide +kernel
theorem dX3_slopeOf_180 : decode cX3_slopeOf 180 = .ok (.aload_n 1, 1) := by decide +kernel
theorem dX3_slopeOf_181 : decode cX3_slopeOf 181 = .ok (.iload 4, 2) := by decide +kernel
theorem dX3_slopeOf_183 : decode cX3_slopeOf 183 = .ok (.invokestatic 45, 3) := by decide +kernel
theorem dX3_slopeOf_186 : decode cX3_slopeOf 186 = .ok (.lneg, 1) := by decide +kernel
theorem dX3_slopeOf_187 : decode cX3_slopeOf 187 = .ok (.lreturn, 1) := by decide +kernel
theorem dX3_slopeOf_188 : decode cX3_slopeOf 188 = .ok (.aload_n 1, 1) := by decide +kernel
theorem dX3_slopeOf_189 : decode cX3_slopeOf 189 = .ok (.iload 4, 2) := by decide +kernel
theorem dX3_slopeOf_191 : decode cX3_slopeOf 191 = .ok (.invokestatic 45, 3) := by decide +kernel
theorem dX3_slopeOf_194 : decode cX3_slopeOf 194 = .ok (.lreturn, 1) := by decide +kernel
theorem dX3_walkBend_0 : decode cX3_walkBend 0 = .ok (.iconst 0, 1) := by decide +kernel
theorem dX3_walkBend_1 : decode cX3_walkBend 1 = .ok (.istore_n 2, 1) := by decide +kernel
theorem dX3_walkBend_2 : decode cX3_walkBend 2 = .ok (.iload_n 2, 1) := by decide +kernel
theorem dX3_walkBend_3 : decode cX3_walkBend 3 = .ok (.iload_n 1, 1) := by decide +kernel
theorem dX3_walkBend_4 : decode cX3_walkBend 4 = .ok (.if_icmp .ge 26, 3) := by decide +kernel
theorem dX3_walkBend_7 : decode cX3_walkBend 7 = .ok (.iload_n 2, 1) := by decide +kernel
theorem dX3_walkBend_8 : decode cX3_walkBend 8 = .ok (.bipush 80, 2) := by decide +kernel
theorem dX3_walkBend_10 : decode cX3_walkBend 10 = .ok (.if_icmp .ge 20, 3) := by decide +kernel
theorem dX3_walkBend_13 : decode cX3_walkBend 13 = .ok (.aload_n 0, 1) := by decide +kernel
theorem dX3_walkBend_14 : decode cX3_walkBend 14 = .ok (.getfield 29, 3) := by decide +kernel
theorem dX3_walkBend_17 : decode cX3_walkBend 17 = .ok (.iload_n 2, 1) := by decide +kernel
theorem dX3_walkBend_18 : decode cX3_walkBend 18 = .ok (.aload_n 0, 1) := by decide +kernel
theorem dX3_walkBend_19 : decode cX3_walkBend 19 = .ok (.iload_n 2, 1) := by decide +kernel
theorem dX3_walkBend_20 : decode cX3_walkBend 20 = .ok (.invokevirtual 83, 3) := by decide +kernel
theorem dX3_walkBend_23 : decode cX3_walkBend 23 = .ok (.lastore, 1) := by decide +kernel
theorem dX3_walkBend_24 : decode cX3_walkBend 24 = .ok (.iinc 2 1, 3) := by decide +kernel
theorem dX3_walkBend_27 : decode cX3_walkBend 27 = .ok (.goto (-25), 3) := by decide +kernel
theorem dX3_walkBend_30 : decode cX3_walkBend 30 = .ok (.return_, 1) := by decide +kernel
theorem dX3_bendOf_0 : decode cX3_bendOf 0 = .ok (.aload_n 0, 1) := by decide +kernel
theorem dX3_bendOf_1 : decode cX3_bendOf 1 = .ok (.getfield 9, 3) := by decide +kernel
theorem dX3_bendOf_4 : decode cX3_bendOf 4 = .ok (.getfield 61, 3) := by decide +kernel
theorem dX3_bendOf_7 : decode cX3_bendOf 7 = .ok (.iload_n 1, 1) := by decide +kernel
theorem dX3_bendOf_8 : decode cX3_bendOf 8 = .ok (.iaload, 1) := by decide +kernel
theorem dX3_bendOf_9 : decode cX3_bendOf 9 = .ok (.istore_n 2, 1) := by decide +kernel
theorem dX3_bendOf_10 : decode cX3_bendOf 10 = .ok (.aload_n 0, 1) := by decide +kernel
theorem dX3_bendOf_11 : decode cX3_bendOf 11 = .ok (.getfield 9, 3) := by decide +kernel
theorem dX3_bendOf_14 : decode cX3_bendOf 14 = .ok (.getfield 65, 3) := by decide +kernel
theorem dX3_bendOf_17 : decode cX3_bendOf 17 = .ok (.iload_n 1, 1) := by decide +kernel
theorem dX3_bendOf_18 : decode cX3_bendOf 18 = .ok (.iaload, 1) := by decide +kernel
theorem dX3_bendOf_19 : decode cX3_bendOf 19 = .ok (.istore_n 3, 1) := by decide +kernel
theorem dX3_bendOf_20 : decode cX3_bendOf 20 = .ok (.aload_n 0, 1) := by decide +kernel
theorem dX3_bendOf_21 : decode cX3_bendOf 21 = .ok (.getfield 9, 3) := by decide +kernel
theorem dX3_bendOf_24 : decode cX3_bendOf 24 = .ok (.getfield 68, 3) := by decide +kernel
theorem dX3_bendOf_27 : decode cX3_bendOf 27 = .ok (.iload_n 1, 1) := by decide +kernel
theorem dX3_bendOf_28 : decode cX3_bendOf 28 = .ok (.iaload, 1) := by decide +kernel
theorem dX3_bendOf_29 : decode cX3_bendOf 29 = .ok (.tableswitch 234 0 7 #[47, 47, 234, 49, 67, 85, 157, 224], 47) := by decide +kernel
theorem dX3_bendOf_76 : decode cX3_bendOf 76 = .ok (.lconst 0, 1) := by decide +kernel
theorem dX3_bendOf_77 : decode cX3_bendOf 77 = .ok (.lreturn, 1) := by decide +kernel
theorem dX3_bendOf_78 : decode cX3_bendOf 78 = .ok (.aload_n 0, 1) := by decide +kernel
theorem dX3_bendOf_79 : decode cX3_bendOf 79 = .ok (.getfield 29, 3) := by decide +kernel
theorem dX3_bendOf_82 : decode cX3_bendOf 82 = .ok (.iload_n 2, 1) := by decide +kernel
theorem dX3_bendOf_83 : decode cX3_bendOf 83 = .ok (.invokestatic 45, 3) := by decide +kernel
theorem dX3_bendOf_86 : decode cX3_bendOf 86 = .ok (.aload_n 0, 1) := by decide +kernel
theorem dX3_bendOf_87 : decode cX3_bendOf 87 = .ok (.getfield 29, 3) := by decide +kernel
theorem dX3_bendOf_90 : decode cX3_bendOf 90 = .ok (.iload_n 3, 1) := by decide +kernel
theorem dX3_bendOf_91 : decode cX3_bendOf 91 = .ok (.invokestatic 45, 3) := by decide +kernel
theorem dX3_bendOf_94 : decode cX3_bendOf 94 = .ok (.ladd, 1) := by decide +kernel
theorem dX3_bendOf_95 : decode cX3_bendOf 95 = .ok (.lreturn, 1) := by decide +kernel
theorem dX3_bendOf_96 : decode cX3_bendOf 96 = .ok (.aload_n 0, 1) := by decide +kernel
theorem dX3_bendOf_97 : decode cX3_bendOf 97 = .ok (.getfield 29, 3) := by decide +kernel
theorem dX3_bendOf_100 : decode cX3_bendOf 100 = .ok (.iload_n 2, 1) := by decide +kernel
theorem dX3_bendOf_101 : decode cX3_bendOf 101 = .ok (.invokestatic 45, 3) := by decide +kernel
theorem dX3_bendOf_104 : decode cX3_bendOf 104 = .ok (.aload_n 0, 1) := by decide +kernel
theorem dX3_bendOf_105 : decode cX3_bendOf 105 = .ok (.getfield 29, 3) := by decide +kernel
theorem dX3_bendOf_108 : decode cX3_bendOf 108 = .ok (.iload_n 3, 1) := by decide +kernel
theorem dX3_bendOf_109 : decode cX3_bendOf 109 = .ok (.invokestatic 45, 3) := by decide +kernel
theorem dX3_bendOf_112 : decode cX3_bendOf 112 = .ok (.lsub, 1) := by decide +kernel
theorem dX3_bendOf_113 : decode cX3_bendOf 113 = .ok (.lreturn, 1) := by decide +kernel
theorem dX3_bendOf_114 : decode cX3_bendOf 114 = .ok (.aload_n 0, 1) := by decide +kernel
theorem dX3_bendOf_115 : decode cX3_bendOf 115 = .ok (.getfield 29, 3) := by decide +kernel
theorem dX3_bendOf_118 : decode cX3_bendOf 118 = .ok (.iload_n 2, 1) := by decide +kernel
theorem dX3_bendOf_119 : decode cX3_bendOf 119 = .ok (.invokestatic 45, 3) := by decide +kernel
theorem dX3_bendOf_122 : decode cX3_bendOf 122 = .ok (.aload_n 0, 1) := by decide +kernel
theorem dX3_bendOf_123 : decode cX3_bendOf 123 = .ok (.getfield 19, 3) := by decide +kernel
theorem dX3_bendOf_126 : decode cX3_bendOf 126 = .ok (.iload_n 3, 1) := by decide +kernel
theorem dX3_bendOf_127 : decode cX3_bendOf 127 = .ok (.invokestatic 45, 3) := by decide +kernel
theorem dX3_bendOf_130 : decode cX3_bendOf 130 = .ok (.lmul, 1) := by decide +kernel
theorem dX3_bendOf_131 : decode cX3_bendOf 131 = .ok (.aload_n 0, 1) := by decide +kernel
theorem dX3_bendOf_132 : decode cX3_bendOf 132 = .ok (.getfield 19, 3) := by decide +kernel
theorem dX3_bendOf_135 : decode cX3_bendOf 135 = .ok (.iload_n 2, 1) := by decide +kernel
theorem dX3_bendOf_136 : decode cX3_bendOf 136 = .ok (.invokestatic 45, 3) := by decide +kernel
theorem dX3_bendOf_139 : decode cX3_bendOf 139 = .ok (.aload_n 0, 1) := by decide +kernel
theorem dX3_bendOf_140 : decode cX3_bendOf 140 = .ok (.getfield 29, 3) := by decide +kernel
theorem dX3_bendOf_143 : decode cX3_bendOf 143 = .ok (.iload_n 3, 1) := by decide +kernel
theorem dX3_bendOf_144 : decode cX3_bendOf 144 = .ok (.invokestatic 45, 3) := by decide +kernel
theorem dX3_bendOf_147 : decode cX3_bendOf 147 = .ok (.lmul, 1) := by decide +kernel
theorem dX3_bendOf_148 : decode cX3_bendOf 148 = .ok (.ladd, 1) := by decide +kernel
theorem dX3_bendOf_149 : decode cX3_bendOf 149 = .ok (.aload_n 0, 1) := by decide +kernel
theorem dX3_bendOf_150 : decode cX3_bendOf 150 = .ok (.getfield 23, 3) := by decide +kernel
theorem dX3_bendOf_153 : decode cX3_bendOf 153 = .ok (.iload_n 2, 1) := by decide +kernel
theorem dX3_bendOf_154 : decode cX3_bendOf 154 = .ok (.invokestatic 45, 3) := by decide +kernel
theorem dX3_bendOf_157 : decode cX3_bendOf 157 = .ok (.aload_n 0, 1) := by decide +kernel
theorem dX3_bendOf_158 : decode cX3_bendOf 158 = .ok (.getfield 26, 3) := by decide +kernel
theorem dX3_bendOf_161 : decode cX3_bendOf 161 = .ok (.iload_n 3, 1) := by decide +kernel
theorem dX3_bendOf_162 : decode cX3_bendOf 162 = .ok (.invokestatic 45, 3) := by decide +kernel
theorem dX3_bendOf_165 : decode cX3_bendOf 165 = .ok (.lmul, 1) := by decide +kernel
theorem dX3_bendOf_166 : decode cX3_bendOf 166 = .ok (.ladd, 1) := by decide +kernel
theorem dX3_bendOf_167 : decode cX3_bendOf 167 = .ok (.aload_n 0, 1) := by decide +kernel
theorem dX3_bendOf_168 : decode cX3_bendOf 168 = .ok (.getfield 26, 3) := by decide +kernel
theorem dX3_bendOf_171 : decode cX3_bendOf 171 = .ok (.iload_n 2, 1) := by decide +kernel
theorem dX3_bendOf_172 : decode cX3_bendOf 172 = .ok (.invokestatic 45, 3) := by decide +kernel
theorem dX3_bendOf_175 : decode cX3_bendOf 175 = .ok (.aload_n 0, 1) := by decide +kernel
theorem dX3_bendOf_176 : decode cX3_bendOf 176 = .ok (.getfield 23, 3) := by decide +kernel
theorem dX3_bendOf_179 : decode cX3_bendOf 179 = .ok (.iload_n 3, 1) := by decide +kernel
theorem dX3_bendOf_180 : decode cX3_bendOf 180 = .ok (.invokestatic 45, 3) := by decide +kernel
theorem dX3_bendOf_183 : decode cX3_bendOf 183 = .ok (.lmul, 1) := by decide +kernel
theorem dX3_bendOf_184 : decode cX3_bendOf 184 = .ok (.ladd, 1) := by decide +kernel
theorem dX3_bendOf_185 : decode cX3_bendOf 185 = .ok (.lreturn, 1) := by decide +kernel
theorem dX3_bendOf_186 : decode cX3_bendOf 186 = .ok (.iload_n 3, 1) := by decide +kernel
theorem dX3_bendOf_187 : decode cX3_bendOf 187 = .ok (.i2l, 1) := by decide +kernel
theorem dX3_bendOf_188 : decode cX3_bendOf 188 = .ok (.aload_n 0, 1) := by decide +kernel
theorem dX3_bendOf_189 : decode cX3_bendOf 189 = .ok (.getfield 19, 3) := by decide +kernel
theorem dX3_bendOf_192 : decode cX3_bendOf 192 = .ok (.iload_n 2, 1) := by decide +kernel
theorem dX3_bendOf_193 : decode cX3_bendOf 193 = .ok (.invokestatic 45, 3) := by decide +kernel
theorem dX3_bendOf_196 : decode cX3_bendOf 196 = .ok (.iload_n 3, 1) := by decide +kernel
theorem dX3_bendOf_197 : decode cX3_bendOf 197 = .ok (.iconst 1, 1) := by decide +kernel
theorem dX3_bendOf_198 : decode cX3_bendOf 198 = .ok (.isub, 1) := by decide +kernel
theorem dX3_bendOf_199 : decode cX3_bendOf 199 = .ok (.invokestatic 75, 3) := by decide +kernel
theorem dX3_bendOf_202 : decode cX3_bendOf 202 = .ok (.lmul, 1) := by decide +kernel
theorem dX3_bendOf_203 : decode cX3_bendOf 203 = .ok (.aload_n 0, 1) := by decide +kernel
theorem dX3_bendOf_204 : decode cX3_bendOf 204 = .ok (.getfield 29, 3) := by decide +kernel
theorem dX3_bendOf_207 : decode cX3_bendOf 207 = .ok (.iload_n 2, 1) := by decide +kernel
theorem dX3_bendOf_208 : decode cX3_bendOf 208 = .ok (.invokestatic 45, 3) := by decide +kernel
theorem dX3_bendOf_211 : decode cX3_bendOf 211 = .ok (.lmul, 1) := by decide +kernel
theorem dX3_bendOf_212 : decode cX3_bendOf 212 = .ok (.iload_n 3, 1) := by decide +kernel
theorem dX3_bendOf_213 : decode cX3_bendOf 213 = .ok (.iload_n 3, 1) := by decide +kernel
theorem dX3_bendOf_214 : decode cX3_bendOf 214 = .ok (.iconst 1, 1) := by decide +kernel
theorem dX3_bendOf_215 : decode cX3_bendOf 215 = .ok (.isub, 1) := by decide +kernel
theorem dX3_bendOf_216 : decode cX3_bendOf 216 = .ok (.imul, 1) := by decide +kernel
theorem dX3_bendOf_217 : decode cX3_bendOf 217 = .ok (.i2l, 1) := by decide +kernel
theorem dX3_bendOf_218 : decode cX3_bendOf 218 = .ok (.aload_n 0, 1) := by decide +kernel
theorem dX3_bendOf_219 : decode cX3_bendOf 219 = .ok (.getfield 19, 3) := by decide +kernel
theorem dX3_bendOf_222 : decode cX3_bendOf 222 = .ok (.iload_n 2, 1) := by decide +kernel
theorem dX3_bendOf_223 : decode cX3_bendOf 223 = .ok (.invokestatic 45, 3) := by decide +kernel
theorem dX3_bendOf_226 : decode cX3_bendOf 226 = .ok (.iload_n 3, 1) := by decide +kernel
theorem dX3_bendOf_227 : decode cX3_bendOf 227 = .ok (.iconst 2, 1) := by decide +kernel
theorem dX3_bendOf_228 : decode cX3_bendOf 228 = .ok (.isub, 1) := by decide +kernel
theorem dX3_bendOf_229 : decode cX3_bendOf 229 = .ok (.invokestatic 75, 3) := by decide +kernel
theorem dX3_bendOf_232 : decode cX3_bendOf 232 = .ok (.lmul, 1) := by decide +kernel
theorem dX3_bendOf_233 : decode cX3_bendOf 233 = .ok (.aload_n 0, 1) := by decide +kernel
theorem dX3_bendOf_234 : decode cX3_bendOf 234 = .ok (.getfield 23, 3) := by decide +kernel
theorem dX3_bendOf_237 : decode cX3_bendOf 237 = .ok (.iload_n 2, 1) := by decide +kernel
theorem dX3_bendOf_238 : decode cX3_bendOf 238 = .ok (.invokestatic 45, 3) := by decide +kernel
theorem dX3_bendOf_241 : decode cX3_bendOf 241 = .ok (.lmul, 1) := by decide +kernel
theorem dX3_bendOf_242 : decode cX3_bendOf 242 = .ok (.aload_n 0, 1) := by decide +kernel
theorem dX3_bendOf_243 : decode cX3_bendOf 243 = .ok (.getfield 26, 3) := by decide +kernel
theorem dX3_bendOf_246 : decode cX3_bendOf 246 = .ok (.iload_n 2, 1) := by decide +kernel
theorem dX3_bendOf_247 : decode cX3_bendOf 247 = .ok (.invokestatic 45, 3) := by decide +kernel
theorem dX3_bendOf_250 : decode cX3_bendOf 250 = .ok (.lmul, 1) := by decide +kernel
theorem dX3_bendOf_251 : decode cX3_bendOf 251 = .ok (.ladd, 1) := by decide +kernel
theorem dX3_bendOf_252 : decode cX3_bendOf 252 = .ok (.lreturn, 1) := by decide +kernel
theorem dX3_bendOf_253 : decode cX3_bendOf 253 = .ok (.aload_n 0, 1) := by decide +kernel
theorem dX3_bendOf_254 : decode cX3_bendOf 254 = .ok (.getfield 29, 3) := by decide +kernel
theorem dX3_bendOf_257 : decode cX3_bendOf 257 = .ok (.iload_n 2, 1) := by decide +kernel
theorem dX3_bendOf_258 : decode cX3_bendOf 258 = .ok (.invokestatic 45, 3) := by decide +kernel
theorem dX3_bendOf_261 : decode cX3_bendOf 261 = .ok (.lneg, 1) := by decide +kernel
theorem dX3_bendOf_262 : decode cX3_bendOf 262 = .ok (.lreturn, 1) := by decide +kernel
theorem dX3_bendOf_263 : decode cX3_bendOf 263 = .ok (.aload_n 0, 1) := by decide +kernel
theorem dX3_bendOf_264 : decode cX3_bendOf 264 = .ok (.getfield 29, 3) := by decide +kernel
theorem dX3_bendOf_267 : decode cX3_bendOf 267 = .ok (.iload_n 2, 1) := by decide +kernel
theorem dX3_bendOf_268 : decode cX3_bendOf 268 = .ok (.invokestatic 45, 3) := by decide +kernel
theorem dX3_bendOf_271 : decode cX3_bendOf 271 = .ok (.lreturn, 1) := by decide +kernel
theorem dX3_power_0 : decode cX3_power 0 = .ok (.lconst 1, 1) := by decide +kernel
theorem dX3_power_1 : decode cX3_power 1 = .ok (.lstore_n 3, 1) := by decide +kernel
theorem dX3_power_2 : decode cX3_power 2 = .ok (.iconst 0, 1) := by decide +kernel
theorem dX3_power_3 : decode cX3_power 3 = .ok (.istore 5, 2) := by decide +kernel
theorem dX3_power_5 : decode cX3_power 5 = .ok (.iload 5, 2) := by decide +kernel
theorem dX3_power_7 : decode cX3_power 7 = .ok (.iload_n 2, 1) := by decide +kernel
theorem dX3_power_8 : decode cX3_power 8 = .ok (.if_icmp .ge 19, 3) := by decide +kernel
theorem dX3_power_11 : decode cX3_power 11 = .ok (.iload 5, 2) := by decide +kernel
theorem dX3_power_13 : decode cX3_power 13 = .ok (.iconst 4, 1) := by decide +kernel
theorem dX3_power_14 : decode cX3_power 14 = .ok (.if_icmp .ge 13, 3) := by decide +kernel
theorem dX3_power_17 : decode cX3_power 17 = .ok (.lload_n 3, 1) := by decide +kernel
theorem dX3_power_18 : decode cX3_power 18 = .ok (.lload_n 0, 1) := by decide +kernel
theorem dX3_power_19 : decode cX3_power 19 = .ok (.lmul, 1) := by decide +kernel
theorem dX3_power_20 : decode cX3_power 20 = .ok (.lstore_n 3, 1) := by decide +kernel
theorem dX3_power_21 : decode cX3_power 21 = .ok (.iinc 5 1, 3) := by decide +kernel
theorem dX3_power_24 : decode cX3_power 24 = .ok (.goto (-19), 3) := by decide +kernel
theorem dX3_power_27 : decode cX3_power 27 = .ok (.lload_n 3, 1) := by decide +kernel
theorem dX3_power_28 : decode cX3_power 28 = .ok (.lreturn, 1) := by decide +kernel
theorem dX3_at_0 : decode cX3_at 0 = .ok (.iload_n 1, 1) := by decide +kernel
theorem dX3_at_1 : decode cX3_at 1 = .ok (.ifCond .lt 15, 3) := by decide +kernel
theorem dX3_at_4 : decode cX3_at 4 = .ok (.iload_n 1, 1) := by decide +kernel
theorem dX3_at_5 : decode cX3_at 5 = .ok (.aload_n 0, 1) := by decide +kernel
theorem dX3_at_6 : decode cX3_at 6 = .ok (.arraylength, 1) := by decide +kernel
theorem dX3_at_7 : decode cX3_at 7 = .ok (.if_icmp .ge 9, 3) := by decide +kernel
theorem dX3_at_10 : decode cX3_at 10 = .ok (.aload_n 0, 1) := by decide +kernel
theorem dX3_at_11 : decode cX3_at 11 = .ok (.iload_n 1, 1) := by decide +kernel
theorem dX3_at_12 : decode cX3_at 12 = .ok (.laload, 1) := by decide +kernel
theorem dX3_at_13 : decode cX3_at 13 = .ok (.goto 4, 3) := by decide +kernel
theorem dX3_at_16 : decode cX3_at 16 = .ok (.lconst 0, 1) := by decide +kernel
theorem dX3_at_17 : decode cX3_at 17 = .ok (.lreturn, 1) := by decide +kernel
theorem dX5_init_0 : decode cX5_init 0 = .ok (.aload_n 0, 1) := by decide +kernel
theorem dX5_init_1 : decode cX5_init 1 = .ok (.invokespecial 3, 3) := by decide +kernel
theorem dX5_init_4 : decode cX5_init 4 = .ok (.aload_n 0, 1) := by decide +kernel
theorem dX5_init_5 : decode cX5_init 5 = .ok (.new 9, 3) := by decide +kernel
theorem dX5_init_8 : decode cX5_init 8 = .ok (.dup, 1) := by decide +kernel
theorem dX5_init_9 : decode cX5_init 9 = .ok (.invokespecial 11, 3) := by decide +kernel
theorem dX5_init_12 : decode cX5_init 12 = .ok (.putfield 12, 3) := by decide +kernel
theorem dX5_init_15 : decode cX5_init 15 = .ok (.aload_n 0, 1) := by decide +kernel
theorem dX5_init_16 : decode cX5_init 16 = .ok (.new 16, 3) := by decide +kernel
theorem dX5_init_19 : decode cX5_init 19 = .ok (.dup, 1) := by decide +kernel
theorem dX5_init_20 : decode cX5_init 20 = .ok (.invokespecial 18, 3) := by decide +kernel
theorem dX5_init_23 : decode cX5_init 23 = .ok (.putfield 19, 3) := by decide +kernel
theorem dX5_init_26 : decode cX5_init 26 = .ok (.aload_n 0, 1) := by decide +kernel
theorem dX5_init_27 : decode cX5_init 27 = .ok (.new 23, 3) := by decide +kernel
theorem dX5_init_30 : decode cX5_init 30 = .ok (.dup, 1) := by decide +kernel
theorem dX5_init_31 : decode cX5_init 31 = .ok (.invokespecial 25, 3) := by decide +kernel
theorem dX5_init_34 : decode cX5_init 34 = .ok (.putfield 26, 3) := by decide +kernel
theorem dX5_init_37 : decode cX5_init 37 = .ok (.aload_n 0, 1) := by decide +kernel
theorem dX5_init_38 : decode cX5_init 38 = .ok (.new 30, 3) := by decide +kernel
theorem dX5_init_41 : decode cX5_init 41 = .ok (.dup, 1) := by decide +kernel
theorem dX5_init_42 : decode cX5_init 42 = .ok (.invokespecial 32, 3) := by decide +kernel
theorem dX5_init_45 : decode cX5_init 45 = .ok (.putfield 33, 3) := by decide +kernel
theorem dX5_init_48 : decode cX5_init 48 = .ok (.aload_n 0, 1) := by decide +kernel
theorem dX5_init_49 : decode cX5_init 49 = .ok (.new 37, 3) := by decide +kernel
theorem dX5_init_52 : decode cX5_init 52 = .ok (.dup, 1) := by decide +kernel
theorem dX5_init_53 : decode cX5_init 53 = .ok (.aload_n 0, 1) := by decide +kernel
theorem dX5_init_54 : decode cX5_init 54 = .ok (.getfield 19, 3) := by decide +kernel
theorem dX5_init_57 : decode cX5_init 57 = .ok (.aload_n 0, 1) := by decide +kernel
theorem dX5_init_58 : decode cX5_init 58 = .ok (.getfield 12, 3) := by decide +kernel
theorem dX5_init_61 : decode cX5_init 61 = .ok (.invokespecial 39, 3) := by decide +kernel
theorem dX5_init_64 : decode cX5_init 64 = .ok (.putfield 42, 3) := by decide +kernel
theorem dX5_init_67 : decode cX5_init 67 = .ok (.aload_n 0, 1) := by decide +kernel
theorem dX5_init_68 : decode cX5_init 68 = .ok (.new 9, 3) := by decide +kernel
theorem dX5_init_71 : decode cX5_init 71 = .ok (.dup, 1) := by decide +kernel
theorem dX5_init_72 : decode cX5_init 72 = .ok (.invokespecial 11, 3) := by decide +kernel
theorem dX5_init_75 : decode cX5_init 75 = .ok (.putfield 46, 3) := by decide +kernel
theorem dX5_init_78 : decode cX5_init 78 = .ok (.aload_n 0, 1) := by decide +kernel
theorem dX5_init_79 : decode cX5_init 79 = .ok (.new 9, 3) := by decide +kernel
theorem dX5_init_82 : decode cX5_init 82 = .ok (.dup, 1) := by decide +kernel
theorem dX5_init_83 : decode cX5_init 83 = .ok (.invokespecial 11, 3) := by decide +kernel
theorem dX5_init_86 : decode cX5_init 86 = .ok (.putfield 49, 3) := by decide +kernel
theorem dX5_init_89 : decode cX5_init 89 = .ok (.aload_n 0, 1) := by decide +kernel
theorem dX5_init_90 : decode cX5_init 90 = .ok (.bipush 6, 2) := by decide +kernel
theorem dX5_init_92 : decode cX5_init 92 = .ok (.newarray .int, 2) := by decide +kernel
theorem dX5_init_94 : decode cX5_init 94 = .ok (.putfield 52, 3) := by decide +kernel
theorem dX5_init_97 : decode cX5_init 97 = .ok (.aload_n 0, 1) := by decide +kernel
theorem dX5_init_98 : decode cX5_init 98 = .ok (.bipush 6, 2) := by decide +kernel
theorem dX5_init_100 : decode cX5_init 100 = .ok (.newarray .long, 2) := by decide +kernel
theorem dX5_init_102 : decode cX5_init 102 = .ok (.putfield 56, 3) := by decide +kernel
theorem dX5_init_105 : decode cX5_init 105 = .ok (.aload_n 0, 1) := by decide +kernel
theorem dX5_init_106 : decode cX5_init 106 = .ok (.bipush 6, 2) := by decide +kernel
theorem dX5_init_108 : decode cX5_init 108 = .ok (.newarray .long, 2) := by decide +kernel
theorem dX5_init_110 : decode cX5_init 110 = .ok (.putfield 60, 3) := by decide +kernel
theorem dX5_init_113 : decode cX5_init 113 = .ok (.aload_n 0, 1) := by decide +kernel
theorem dX5_init_114 : decode cX5_init 114 = .ok (.bipush 6, 2) := by decide +kernel
theorem dX5_init_116 : decode cX5_init 116 = .ok (.newarray .long, 2) := by decide +kernel
theorem dX5_init_118 : decode cX5_init 118 = .ok (.putfield 63, 3) := by decide +kernel
theorem dX5_init_121 : decode cX5_init 121 = .ok (.return_, 1) := by decide +kernel
theorem dX5_type_0 : decode cX5_type 0 = .ok (.iload_n 1, 1) := by decide +kernel
theorem dX5_type_1 : decode cX5_type 1 = .ok (.ifCond .lt 10, 3) := by decide +kernel
theorem dX5_type_4 : decode cX5_type 4 = .ok (.iload_n 1, 1) := by decide +kernel
theorem dX5_type_5 : decode cX5_type 5 = .ok (.sipush 255, 3) := by decide +kernel
theorem dX5_type_8 : decode cX5_type 8 = .ok (.if_icmp .le 5, 3) := by decide +kernel
theorem dX5_type_11 : decode cX5_type 11 = .ok (.iconst (-1), 1) := by decide +kernel
theorem dX5_type_12 : decode cX5_type 12 = .ok (.ireturn, 1) := by decide +kernel
theorem dX5_type_13 : decode cX5_type 13 = .ok (.aload_n 0, 1) := by decide +kernel
theorem dX5_type_14 : decode cX5_type 14 = .ok (.getfield 26, 3) := by decide +kernel
theorem dX5_type_17 : decode cX5_type 17 = .ok (.iload_n 1, 1) := by decide +kernel
theorem dX5_type_18 : decode cX5_type 18 = .ok (.invokevirtual 66, 3) := by decide +kernel
theorem dX5_type_21 : decode cX5_type 21 = .ok (.ifCond .eq 13, 3) := by decide +kernel
theorem dX5_type_24 : decode cX5_type 24 = .ok (.aload_n 0, 1) := by decide +kernel
theorem dX5_type_25 : decode cX5_type 25 = .ok (.getfield 26, 3) := by decide +kernel
theorem dX5_type_28 : decode cX5_type 28 = .ok (.invokevirtual 70, 3) := by decide +kernel
theorem dX5_type_31 : decode cX5_type 31 = .ok (.goto 5, 3) := by decide +kernel
theorem dX5_type_34 : decode cX5_type 34 = .ok (.bipush (-3), 2) := by decide +kernel
theorem dX5_type_36 : decode cX5_type 36 = .ok (.ireturn, 1) := by decide +kernel
theorem dX5_clear_0 : decode cX5_clear 0 = .ok (.aload_n 0, 1) := by decide +kernel
theorem dX5_clear_1 : decode cX5_clear 1 = .ok (.getfield 26, 3) := by decide +kernel
theorem dX5_clear_4 : decode cX5_clear 4 = .ok (.invokevirtual 70, 3) := by decide +kernel
theorem dX5_clear_7 : decode cX5_clear 7 = .ok (.istore_n 1, 1) := by decide +kernel
theorem dX5_clear_8 : decode cX5_clear 8 = .ok (.aload_n 0, 1) := by decide +kernel
theorem dX5_clear_9 : decode cX5_clear 9 = .ok (.getfield 26, 3) := by decide +kernel
theorem dX5_clear_12 : decode cX5_clear 12 = .ok (.invokevirtual 74, 3) := by decide +kernel
theorem dX5_clear_15 : decode cX5_clear 15 = .ok (.iload_n 1, 1) := by decide +kernel
theorem dX5_clear_16 : decode cX5_clear 16 = .ok (.ireturn, 1) := by decide +kernel
theorem dX5_desk_0 : decode cX5_desk 0 = .ok (.aload_n 0, 1) := by decide +kernel
theorem dX5_desk_1 : decode cX5_desk 1 = .ok (.getfield 26, 3) := by decide +kernel
theorem dX5_desk_4 : decode cX5_desk 4 = .ok (.invokevirtual 77, 3) := by decide +kernel
theorem dX5_desk_7 : decode cX5_desk 7 = .ok (.istore_n 1, 1) := by decide +kernel
theorem dX5_desk_8 : decode cX5_desk 8 = .ok (.iload_n 1, 1) := by decide +kernel
theorem dX5_desk_9 : decode cX5_desk 9 = .ok (.ifCond .ge 5, 3) := by decide +kernel
theorem dX5_desk_12 : decode cX5_desk 12 = .ok (.iload_n 1, 1) := by decide +kernel
theorem dX5_desk_13 : decode cX5_desk 13 = .ok (.ireturn, 1) := by decide +kernel
theorem dX5_desk_14 : decode cX5_desk 14 = .ok (.aload_n 0, 1) := by decide +kernel
theorem dX5_desk_15 : decode cX5_desk 15 = .ok (.getfield 12, 3) := by decide +kernel
theorem dX5_desk_18 : decode cX5_desk 18 = .ok (.aload_n 0, 1) := by decide +kernel
theorem dX5_desk_19 : decode cX5_desk 19 = .ok (.getfield 26, 3) := by decide +kernel
theorem dX5_desk_22 : decode cX5_desk 22 = .ok (.getfield 80, 3) := by decide +kernel
theorem dX5_desk_25 : decode cX5_desk 25 = .ok (.invokevirtual 81, 3) := by decide +kernel
theorem dX5_desk_28 : decode cX5_desk 28 = .ok (.aload_n 0, 1) := by decide +kernel
theorem dX5_desk_29 : decode cX5_desk 29 = .ok (.getfield 19, 3) := by decide +kernel
theorem dX5_desk_32 : decode cX5_desk 32 = .ok (.aload_n 0, 1) := by decide +kernel
theorem dX5_desk_33 : decode cX5_desk 33 = .ok (.getfield 26, 3) := by decide +kernel
theorem dX5_desk_36 : decode cX5_desk 36 = .ok (.getfield 85, 3) := by decide +kernel
theorem dX5_desk_39 : decode cX5_desk 39 = .ok (.invokevirtual 86, 3) := by decide +kernel
theorem dX5_desk_42 : decode cX5_desk 42 = .ok (.aload_n 0, 1) := by decide +kernel
theorem dX5_desk_43 : decode cX5_desk 43 = .ok (.getfield 26, 3) := by decide +kernel
theorem dX5_desk_46 : decode cX5_desk 46 = .ok (.invokevirtual 74, 3) := by decide +kernel
theorem dX5_desk_49 : decode cX5_desk 49 = .ok (.aload_n 0, 1) := by decide +kernel
theorem dX5_desk_50 : decode cX5_desk 50 = .ok (.getfield 33, 3) := by decide +kernel
theorem dX5_desk_53 : decode cX5_desk 53 = .ok (.invokevirtual 89, 3) := by decide +kernel
theorem dX5_desk_56 : decode cX5_desk 56 = .ok (.aload_n 0, 1) := by decide +kernel
theorem dX5_desk_57 : decode cX5_desk 57 = .ok (.iconst 0, 1) := by decide +kernel
theorem dX5_desk_58 : decode cX5_desk 58 = .ok (.putfield 92, 3) := by decide +kernel
theorem dX5_desk_61 : decode cX5_desk 61 = .ok (.aload_n 0, 1) := by decide +kernel
theorem dX5_desk_62 : decode cX5_desk 62 = .ok (.iconst 0, 1) := by decide +kernel
theorem dX5_desk_63 : decode cX5_desk 63 = .ok (.putfield 96, 3) := by decide +kernel
theorem dX5_desk_66 : decode cX5_desk 66 = .ok (.aload_n 0, 1) := by decide +kernel
theorem dX5_desk_67 : decode cX5_desk 67 = .ok (.iconst 0, 1) := by decide +kernel
theorem dX5_desk_68 : decode cX5_desk 68 = .ok (.putfield 100, 3) := by decide +kernel
theorem dX5_desk_71 : decode cX5_desk 71 = .ok (.iload_n 1, 1) := by decide +kernel
theorem dX5_desk_72 : decode cX5_desk 72 = .ok (.ireturn, 1) := by decide +kernel
theorem dX5_source_0 : decode cX5_source 0 = .ok (.iload_n 1, 1) := by decide +kernel
theorem dX5_source_1 : decode cX5_source 1 = .ok (.invokestatic 103, 3) := by decide +kernel
theorem dX5_source_4 : decode cX5_source 4 = .ok (.ifCond .eq 12, 3) := by decide +kernel
theorem dX5_source_7 : decode cX5_source 7 = .ok (.iload_n 2, 1) := by decide +kernel
theorem dX5_source_8 : decode cX5_source 8 = .ok (.ifCond .lt 8, 3) := by decide +kernel
theorem dX5_source_11 : decode cX5_source 11 = .ok (.iload_n 2, 1) := by decide +kernel
theorem dX5_source_12 : decode cX5_source 12 = .ok (.iconst 1, 1) := by decide +kernel
theorem dX5_source_13 : decode cX5_source 13 = .ok (.if_icmp .le 7, 3) := by decide +kernel
theorem dX5_source_16 : decode cX5_source 16 = .ok (.ldc2_w 106, 3) := by decide +kernel
theorem dX5_source_19 : decode cX5_source 19 = .ok (.lreturn, 1) := by decide +kernel
theorem dX5_source_20 : decode cX5_source 20 = .ok (.iload_n 2, 1) := by decide +kernel
theorem dX5_source_21 : decode cX5_source 21 = .ok (.ifCond .ne 15, 3) := by decide +kernel
theorem dX5_source_24 : decode cX5_source 24 = .ok (.aload_n 0, 1) := by decide +kernel
theorem dX5_source_25 : decode cX5_source 25 = .ok (.getfield 12, 3) := by decide +kernel
theorem dX5_source_28 : decode cX5_source 28 = .ok (.iload_n 1, 1) := by decide +kernel
theorem dX5_source_29 : decode cX5_source 29 = .ok (.invokevirtual 108, 3) := by decide +kernel
theorem dX5_source_32 : decode cX5_source 32 = .ok (.i2l, 1) := by decide +kernel
theorem dX5_source_33 : decode cX5_source 33 = .ok (.goto 13, 3) := by decide +kernel
theorem dX5_source_36 : decode cX5_source 36 = .ok (.aload_n 0, 1) := by decide +kernel
theorem dX5_source_37 : decode cX5_source 37 = .ok (.getfield 12, 3) := by decide +kernel
theorem dX5_source_40 : decode cX5_source 40 = .ok (.iload_n 1, 1) := by decide +kernel
theorem dX5_source_41 : decode cX5_source 41 = .ok (.iload_n 1, 1) := by decide +kernel
theorem dX5_source_42 : decode cX5_source 42 = .ok (.invokevirtual 112, 3) := by decide +kernel
theorem dX5_source_45 : decode cX5_source 45 = .ok (.i2l, 1) := by decide +kernel
theorem dX5_source_46 : decode cX5_source 46 = .ok (.lreturn, 1) := by decide +kernel
theorem dX5_joint_0 : decode cX5_joint 0 = .ok (.iload_n 1, 1) := by decide +kernel
theorem dX5_joint_1 : decode cX5_joint 1 = .ok (.invokestatic 103, 3) := by decide +kernel
theorem dX5_joint_4 : decode cX5_joint 4 = .ok (.ifCond .eq 23, 3) := by decide +kernel
theorem dX5_joint_7 : decode cX5_joint 7 = .ok (.iload_n 2, 1) := by decide +kernel
theorem dX5_joint_8 : decode cX5_joint 8 = .ok (.invokestatic 103, 3) := by decide +kernel
theorem dX5_joint_11 : decode cX5_joint 11 = .ok (.ifCond .eq 16, 3) := by decide +kernel
theorem dX5_joint_14 : decode cX5_joint 14 = .ok (.aload_n 0, 1) := by decide +kernel
theorem dX5_joint_15 : decode cX5_joint 15 = .ok (.getfield 12, 3) := by decide +kernel
theorem dX5_joint_18 : decode cX5_joint 18 = .ok (.iload_n 1, 1) := by decide +kernel
theorem dX5_joint_19 : decode cX5_joint 19 = .ok (.iload_n 2, 1) := by decide +kernel
theorem dX5_joint_20 : decode cX5_joint 20 = .ok (.invokevirtual 112, 3) := by decide +kernel
theorem dX5_joint_23 : decode cX5_joint 23 = .ok (.i2l, 1) := by decide +kernel
theorem dX5_joint_24 : decode cX5_joint 24 = .ok (.goto 6, 3) := by decide +kernel
theorem dX5_joint_27 : decode cX5_joint 27 = .ok (.ldc2_w 106, 3) := by decide +kernel
theorem dX5_joint_30 : decode cX5_joint 30 = .ok (.lreturn, 1) := by decide +kernel
theorem dX5_values_0 : decode cX5_values 0 = .ok (.iload_n 1, 1) := by decide +kernel
theorem dX5_values_1 : decode cX5_values 1 = .ok (.invokestatic 103, 3) := by decide +kernel
theorem dX5_values_4 : decode cX5_values 4 = .ok (.ifCond .eq 15, 3) := by decide +kernel
theorem dX5_values_7 : decode cX5_values 7 = .ok (.iload_n 2, 1) := by decide +kernel
theorem dX5_values_8 : decode cX5_values 8 = .ok (.bipush (-99), 2) := by decide +kernel
theorem dX5_values_10 : decode cX5_values 10 = .ok (.if_icmp .lt 9, 3) := by decide +kernel
theorem dX5_values_13 : decode cX5_values 13 = .ok (.iload_n 2, 1) := by decide +kernel
theorem dX5_values_14 : decode cX5_values 14 = .ok (.bipush 99, 2) := by decide +kernel
theorem dX5_values_16 : decode cX5_values 16 = .ok (.if_icmp .le 5, 3) := by decide +kernel
theorem dX5_values_19 : decode cX5_values 19 = .ok (.iconst (-1), 1) := by decide +kernel
theorem dX5_values_20 : decode cX5_values 20 = .ok (.ireturn, 1) := by decide +kernel
theorem dX5_values_21 : decode cX5_values 21 = .ok (.aload_n 0, 1) := by decide +kernel
theorem dX5_values_22 : decode cX5_values 22 = .ok (.getfield 12, 3) := by decide +kernel
theorem dX5_values_25 : decode cX5_values 25 = .ok (.iload_n 1, 1) := by decide +kernel
theorem dX5_values_26 : decode cX5_values 26 = .ok (.invokevirtual 108, 3) := by decide +kernel
theorem dX5_values_29 : decode cX5_values 29 = .ok (.istore_n 3, 1) := by decide +kernel
theorem dX5_values_30 : decode cX5_values 30 = .ok (.iload_n 3, 1) := by decide +kernel
theorem dX5_values_31 : decode cX5_values 31 = .ok (.iload_n 2, 1) := by decide +kernel
theorem dX5_values_32 : decode cX5_values 32 = .ok (.if_icmp .ne 6, 3) := by decide +kernel
theorem dX5_values_35 : decode cX5_values 35 = .ok (.bipush (-2), 2) := by decide +kernel
theorem dX5_values_37 : decode cX5_values 37 = .ok (.ireturn, 1) := by decide +kernel
theorem dX5_values_38 : decode cX5_values 38 = .ok (.aload_n 0, 1) := by decide +kernel
theorem dX5_values_39 : decode cX5_values 39 = .ok (.getfield 33, 3) := by decide +kernel
theorem dX5_values_42 : decode cX5_values 42 = .ok (.iload_n 1, 1) := by decide +kernel
theorem dX5_values_43 : decode cX5_values 43 = .ok (.iconst (-1), 1) := by decide +kernel
theorem dX5_values_44 : decode cX5_values 44 = .ok (.iload_n 3, 1) := by decide +kernel
theorem dX5_values_45 : decode cX5_values 45 = .ok (.invokevirtual 116, 3) := by decide +kernel
theorem dX5_values_48 : decode cX5_values 48 = .ok (.aload_n 0, 1) := by decide +kernel
theorem dX5_values_49 : decode cX5_values 49 = .ok (.getfield 12, 3) := by decide +kernel
theorem dX5_values_52 : decode cX5_values 52 = .ok (.iload_n 1, 1) := by decide +kernel
theorem dX5_values_53 : decode cX5_values 53 = .ok (.iload_n 2, 1) := by decide +kernel
theorem dX5_values_54 : decode cX5_values 54 = .ok (.invokevirtual 119, 3) := by decide +kernel
theorem dX5_values_57 : decode cX5_values 57 = .ok (.iconst 1, 1) := by decide +kernel
theorem dX5_values_58 : decode cX5_values 58 = .ok (.ireturn, 1) := by decide +kernel
theorem dX5_spreads_0 : decode cX5_spreads 0 = .ok (.iload_n 1, 1) := by decide +kernel
theorem dX5_spreads_1 : decode cX5_spreads 1 = .ok (.invokestatic 103, 3) := by decide +kernel
theorem dX5_spreads_4 : decode cX5_spreads 4 = .ok (.ifCond .eq 13, 3) := by decide +kernel
theorem dX5_spreads_7 : decode cX5_spreads 7 = .ok (.iload_n 2, 1) := by decide +kernel
theorem dX5_spreads_8 : decode cX5_spreads 8 = .ok (.ifCond .lt 9, 3) := by decide +kernel
theorem dX5_spreads_11 : decode cX5_spreads 11 = .ok (.iload_n 2, 1) := by decide +kernel
theorem dX5_spreads_12 : decode cX5_spreads 12 = .ok (.bipush 99, 2) := by decide +kernel
theorem dX5_spreads_14 : decode cX5_spreads 14 = .ok (.if_icmp .le 5, 3) := by decide +kernel
theorem dX5_spreads_17 : decode cX5_spreads 17 = .ok (.iconst (-1), 1) := by decide +kernel
theorem dX5_spreads_18 : decode cX5_spreads 18 = .ok (.ireturn, 1) := by decide +kernel
theorem dX5_spreads_19 : decode cX5_spreads 19 = .ok (.aload_n 0, 1) := by decide +kernel
theorem dX5_spreads_20 : decode cX5_spreads 20 = .ok (.getfield 12, 3) := by decide +kernel
theorem dX5_spreads_23 : decode cX5_spreads 23 = .ok (.iload_n 1, 1) := by decide +kernel
theorem dX5_spreads_24 : decode cX5_spreads 24 = .ok (.iload_n 1, 1) := by decide +kernel
theorem dX5_spreads_25 : decode cX5_spreads 25 = .ok (.invokevirtual 112, 3) := by decide +kernel
theorem dX5_spreads_28 : decode cX5_spreads 28 = .ok (.istore_n 3, 1) := by decide +kernel
theorem dX5_spreads_29 : decode cX5_spreads 29 = .ok (.aload_n 0, 1) := by decide +kernel
theorem dX5_spreads_30 : decode cX5_spreads 30 = .ok (.getfield 33, 3) := by decide +kernel
theorem dX5_spreads_33 : decode cX5_spreads 33 = .ok (.iload_n 1, 1) := by decide +kernel
theorem dX5_spreads_34 : decode cX5_spreads 34 = .ok (.iload_n 1, 1) := by decide +kernel
theorem dX5_spreads_35 : decode cX5_spreads 35 = .ok (.iload_n 3, 1) := by decide +kernel
theorem dX5_spreads_36 : decode cX5_spreads 36 = .ok (.invokevirtual 116, 3) := by decide +kernel
theorem dX5_spreads_39 : decode cX5_spreads 39 = .ok (.aload_n 0, 1) := by decide +kernel
theorem dX5_spreads_40 : decode cX5_spreads 40 = .ok (.getfield 12, 3) := by decide +kernel
theorem dX5_spreads_43 : decode cX5_spreads 43 = .ok (.iload_n 1, 1) := by decide +kernel
theorem dX5_spreads_44 : decode cX5_spreads 44 = .ok (.iload_n 1, 1) := by decide +kernel
theorem dX5_spreads_45 : decode cX5_spreads 45 = .ok (.iload_n 2, 1) := by decide +kernel
theorem dX5_spreads_46 : decode cX5_spreads 46 = .ok (.invokevirtual 123, 3) := by decide +kernel
theorem dX5_spreads_49 : decode cX5_spreads 49 = .ok (.iload_n 3, 1) := by decide +kernel
theorem dX5_spreads_50 : decode cX5_spreads 50 = .ok (.ireturn, 1) := by decide +kernel
theorem dX5_joints_0 : decode cX5_joints 0 = .ok (.iload_n 1, 1) := by decide +kernel
theorem dX5_joints_1 : decode cX5_joints 1 = .ok (.invokestatic 103, 3) := by decide +kernel
theorem dX5_joints_4 : decode cX5_joints 4 = .ok (.ifCond .eq 27, 3) := by decide +kernel
theorem dX5_joints_7 : decode cX5_joints 7 = .ok (.iload_n 2, 1) := by decide +kernel
theorem dX5_joints_8 : decode cX5_joints 8 = .ok (.invokestatic 103, 3) := by decide +kernel
theorem dX5_joints_11 : decode cX5_joints 11 = .ok (.ifCond .eq 20, 3) := by decide +kernel
theorem dX5_joints_14 : decode cX5_joints 14 = .ok (.iload_n 1, 1) := by decide +kernel
theorem dX5_joints_15 : decode cX5_joints 15 = .ok (.iload_n 2, 1) := by decide +kernel
theorem dX5_joints_16 : decode cX5_joints 16 = .ok (.if_icmp .eq 15, 3) := by decide +kernel
theorem dX5_joints_19 : decode cX5_joints 19 = .ok (.iload_n 3, 1) := by decide +kernel
theorem dX5_joints_20 : decode cX5_joints 20 = .ok (.bipush (-99), 2) := by decide +kernel
theorem dX5_joints_22 : decode cX5_joints 22 = .ok (.if_icmp .lt 9, 3) := by decide +kernel
theorem dX5_joints_25 : decode cX5_joints 25 = .ok (.iload_n 3, 1) := by decide +kernel
theorem dX5_joints_26 : decode cX5_joints 26 = .ok (.bipush 99, 2) := by decide +kernel
theorem dX5_joints_28 : decode cX5_joints 28 = .ok (.if_icmp .le 5, 3) := by decide +kernel
theorem dX5_joints_31 : decode cX5_joints 31 = .ok (.iconst (-1), 1) := by decide +kernel
theorem dX5_joints_32 : decode cX5_joints 32 = .ok (.ireturn, 1) := by decide +kernel
theorem dX5_joints_33 : decode cX5_joints 33 = .ok (.aload_n 0, 1) := by decide +kernel
theorem dX5_joints_34 : decode cX5_joints 34 = .ok (.getfield 12, 3) := by decide +kernel
theorem dX5_joints_37 : decode cX5_joints 37 = .ok (.iload_n 1, 1) := by decide +kernel
theorem dX5_joints_38 : decode cX5_joints 38 = .ok (.iload_n 2, 1) := by decide +kernel
theorem dX5_joints_39 : decode cX5_joints 39 = .ok (.invokevirtual 112, 3) := by decide +kernel
theorem dX5_joints_42 : decode cX5_joints 42 = .ok (.istore 4, 2) := by decide +kernel
theorem dX5_joints_44 : decode cX5_joints 44 = .ok (.iload 4, 2) := by decide +kernel
theorem dX5_joints_46 : decode cX5_joints 46 = .ok (.iload_n 3, 1) := by decide +kernel
theorem dX5_joints_47 : decode cX5_joints 47 = .ok (.if_icmp .ne 6, 3) := by decide +kernel
theorem dX5_joints_50 : decode cX5_joints 50 = .ok (.bipush (-2), 2) := by decide +kernel
theorem dX5_joints_52 : decode cX5_joints 52 = .ok (.ireturn, 1) := by decide +kernel
theorem dX5_joints_53 : decode cX5_joints 53 = .ok (.aload_n 0, 1) := by decide +kernel
theorem dX5_joints_54 : decode cX5_joints 54 = .ok (.getfield 33, 3) := by decide +kernel
theorem dX5_joints_57 : decode cX5_joints 57 = .ok (.iload_n 1, 1) := by decide +kernel
theorem dX5_joints_58 : decode cX5_joints 58 = .ok (.iload_n 2, 1) := by decide +kernel
theorem dX5_joints_59 : decode cX5_joints 59 = .ok (.iload 4, 2) := by decide +kernel
theorem dX5_joints_61 : decode cX5_joints 61 = .ok (.invokevirtual 116, 3) := by decide +kernel
theorem dX5_joints_64 : decode cX5_joints 64 = .ok (.aload_n 0, 1) := by decide +kernel
theorem dX5_joints_65 : decode cX5_joints 65 = .ok (.getfield 12, 3) := by decide +kernel
theorem dX5_joints_68 : decode cX5_joints 68 = .ok (.iload_n 1, 1) := by decide +kernel
theorem dX5_joints_69 : decode cX5_joints 69 = .ok (.iload_n 2, 1) := by decide +kernel
theorem dX5_joints_70 : decode cX5_joints 70 = .ok (.iload_n 3, 1) := by decide +kernel
theorem dX5_joints_71 : decode cX5_joints 71 = .ok (.invokevirtual 123, 3) := by decide +kernel
theorem dX5_joints_74 : decode cX5_joints 74 = .ok (.iconst 1, 1) := by decide +kernel
theorem dX5_joints_75 : decode cX5_joints 75 = .ok (.ireturn, 1) := by decide +kernel
theorem dX5_undo_0 : decode cX5_undo 0 = .ok (.aload_n 0, 1) := by decide +kernel
theorem dX5_undo_1 : decode cX5_undo 1 = .ok (.getfield 33, 3) := by decide +kernel
theorem dX5_undo_4 : decode cX5_undo 4 = .ok (.aload_n 0, 1) := by decide +kernel
theorem dX5_undo_5 : decode cX5_undo 5 = .ok (.getfield 12, 3) := by decide +kernel
theorem dX5_undo_8 : decode cX5_undo 8 = .ok (.invokevirtual 126, 3) := by decide +kernel
theorem dX5_undo_11 : decode cX5_undo 11 = .ok (.ifCond .eq 13, 3) := by decide +kernel
theorem dX5_undo_14 : decode cX5_undo 14 = .ok (.aload_n 0, 1) := by decide +kernel
theorem dX5_undo_15 : decode cX5_undo 15 = .ok (.getfield 33, 3) := by decide +kernel
theorem dX5_undo_18 : decode cX5_undo 18 = .ok (.invokevirtual 130, 3) := by decide +kernel
theorem dX5_undo_21 : decode cX5_undo 21 = .ok (.goto 5, 3) := by decide +kernel
theorem dX5_undo_24 : decode cX5_undo 24 = .ok (.bipush (-2), 2) := by decide +kernel
theorem dX5_undo_26 : decode cX5_undo 26 = .ok (.ireturn, 1) := by decide +kernel
theorem dX5_value_0 : decode cX5_value 0 = .ok (.aload_n 0, 1) := by decide +kernel
theorem dX5_value_1 : decode cX5_value 1 = .ok (.iload_n 1, 1) := by decide +kernel
theorem dX5_value_2 : decode cX5_value 2 = .ok (.invokevirtual 133, 3) := by decide +kernel
theorem dX5_value_5 : decode cX5_value 5 = .ok (.ifCond .eq 16, 3) := by decide +kernel
theorem dX5_value_8 : decode cX5_value 8 = .ok (.aload_n 0, 1) := by decide +kernel
theorem dX5_value_9 : decode cX5_value 9 = .ok (.getfield 42, 3) := by decide +kernel
theorem dX5_value_12 : decode cX5_value 12 = .ok (.iload_n 1, 1) := by decide +kernel
theorem dX5_value_13 : decode cX5_value 13 = .ok (.iconst 0, 1) := by decide +kernel
theorem dX5_value_14 : decode cX5_value 14 = .ok (.iconst 0, 1) := by decide +kernel
theorem dX5_value_15 : decode cX5_value 15 = .ok (.invokevirtual 136, 3) := by decide +kernel
theorem dX5_value_18 : decode cX5_value 18 = .ok (.goto 6, 3) := by decide +kernel
theorem dX5_value_21 : decode cX5_value 21 = .ok (.ldc2_w 106, 3) := by decide +kernel
theorem dX5_value_24 : decode cX5_value 24 = .ok (.lreturn, 1) := by decide +kernel
theorem dX5_slope_0 : decode cX5_slope 0 = .ok (.aload_n 0, 1) := by decide +kernel
theorem dX5_slope_1 : decode cX5_slope 1 = .ok (.iload_n 1, 1) := by decide +kernel
theorem dX5_slope_2 : decode cX5_slope 2 = .ok (.invokevirtual 133, 3) := by decide +kernel
theorem dX5_slope_5 : decode cX5_slope 5 = .ok (.ifCond .eq 22, 3) := by decide +kernel
theorem dX5_slope_8 : decode cX5_slope 8 = .ok (.iload_n 2, 1) := by decide +kernel
theorem dX5_slope_9 : decode cX5_slope 9 = .ok (.invokestatic 103, 3) := by decide +kernel
theorem dX5_slope_12 : decode cX5_slope 12 = .ok (.ifCond .eq 15, 3) := by decide +kernel
theorem dX5_slope_15 : decode cX5_slope 15 = .ok (.aload_n 0, 1) := by decide +kernel
theorem dX5_slope_16 : decode cX5_slope 16 = .ok (.getfield 42, 3) := by decide +kernel
theorem dX5_slope_19 : decode cX5_slope 19 = .ok (.iload_n 1, 1) := by decide +kernel
theorem dX5_slope_20 : decode cX5_slope 20 = .ok (.iload_n 2, 1) := by decide +kernel
theorem dX5_slope_21 : decode cX5_slope 21 = .ok (.invokevirtual 139, 3) := by decide +kernel
theorem dX5_slope_24 : decode cX5_slope 24 = .ok (.goto 6, 3) := by decide +kernel
theorem dX5_slope_27 : decode cX5_slope 27 = .ok (.ldc2_w 106, 3) := by decide +kernel
theorem dX5_slope_30 : decode cX5_slope 30 = .ok (.lreturn, 1) := by decide +kernel
theorem dX5_bend_0 : decode cX5_bend 0 = .ok (.aload_n 0, 1) := by decide +kernel
theorem dX5_bend_1 : decode cX5_bend 1 = .ok (.iload_n 1, 1) := by decide +kernel
theorem dX5_bend_2 : decode cX5_bend 2 = .ok (.invokevirtual 133, 3) := by decide +kernel
theorem dX5_bend_5 : decode cX5_bend 5 = .ok (.ifCond .eq 30, 3) := by decide +kernel
theorem dX5_bend_8 : decode cX5_bend 8 = .ok (.iload_n 2, 1) := by decide +kernel
theorem dX5_bend_9 : decode cX5_bend 9 = .ok (.invokestatic 103, 3) := by decide +kernel
theorem dX5_bend_12 : decode cX5_bend 12 = .ok (.ifCond .eq 23, 3) := by decide +kernel
theorem dX5_bend_15 : decode cX5_bend 15 = .ok (.iload_n 3, 1) := by decide +kernel
theorem dX5_bend_16 : decode cX5_bend 16 = .ok (.invokestatic 103, 3) := by decide +kernel
theorem dX5_bend_19 : decode cX5_bend 19 = .ok (.ifCond .eq 16, 3) := by decide +kernel
theorem dX5_bend_22 : decode cX5_bend 22 = .ok (.aload_n 0, 1) := by decide +kernel
theorem dX5_bend_23 : decode cX5_bend 23 = .ok (.getfield 42, 3) := by decide +kernel
theorem dX5_bend_26 : decode cX5_bend 26 = .ok (.iload_n 1, 1) := by decide +kernel
theorem dX5_bend_27 : decode cX5_bend 27 = .ok (.iload_n 2, 1) := by decide +kernel
theorem dX5_bend_28 : decode cX5_bend 28 = .ok (.iload_n 3, 1) := by decide +kernel
theorem dX5_bend_29 : decode cX5_bend 29 = .ok (.invokevirtual 143, 3) := by decide +kernel
theorem dX5_bend_32 : decode cX5_bend 32 = .ok (.goto 6, 3) := by decide +kernel
theorem dX5_bend_35 : decode cX5_bend 35 = .ok (.ldc2_w 106, 3) := by decide +kernel
theorem dX5_bend_38 : decode cX5_bend 38 = .ok (.lreturn, 1) := by decide +kernel
theorem dX5_whole_0 : decode cX5_whole 0 = .ok (.aload_n 0, 1) := by decide +kernel
theorem dX5_whole_1 : decode cX5_whole 1 = .ok (.iload_n 1, 1) := by decide +kernel
theorem dX5_whole_2 : decode cX5_whole 2 = .ok (.invokevirtual 133, 3) := by decide +kernel
theorem dX5_whole_5 : decode cX5_whole 5 = .ok (.ifCond .eq 12, 3) := by decide +kernel
theorem dX5_whole_8 : decode cX5_whole 8 = .ok (.aload_n 0, 1) := by decide +kernel
theorem dX5_whole_9 : decode cX5_whole 9 = .ok (.iload_n 1, 1) := by decide +kernel
theorem dX5_whole_10 : decode cX5_whole 10 = .ok (.iconst 0, 1) := by decide +kernel
theorem dX5_whole_11 : decode cX5_whole 11 = .ok (.invokevirtual 146, 3) := by decide +kernel
theorem dX5_whole_14 : decode cX5_whole 14 = .ok (.goto 6, 3) := by decide +kernel
theorem dX5_whole_17 : decode cX5_whole 17 = .ok (.ldc2_w 106, 3) := by decide +kernel
theorem dX5_whole_20 : decode cX5_whole 20 = .ok (.lreturn, 1) := by decide +kernel
theorem dX5_together_0 : decode cX5_together 0 = .ok (.aload_n 0, 1) := by decide +kernel
theorem dX5_together_1 : decode cX5_together 1 = .ok (.iload_n 1, 1) := by decide +kernel
theorem dX5_together_2 : decode cX5_together 2 = .ok (.invokevirtual 133, 3) := by decide +kernel
theorem dX5_together_5 : decode cX5_together 5 = .ok (.ifCond .eq 11, 3) := by decide +kernel
theorem dX5_together_8 : decode cX5_together 8 = .ok (.aload_n 0, 1) := by decide +kernel
theorem dX5_together_9 : decode cX5_together 9 = .ok (.iload_n 2, 1) := by decide +kernel
theorem dX5_together_10 : decode cX5_together 10 = .ok (.invokevirtual 133, 3) := by decide +kernel
theorem dX5_together_13 : decode cX5_together 13 = .ok (.ifCond .ne 7, 3) := by decide +kernel
theorem dX5_together_16 : decode cX5_together 16 = .ok (.ldc2_w 106, 3) := by decide +kernel
theorem dX5_together_19 : decode cX5_together 19 = .ok (.lreturn, 1) := by decide +kernel
theorem dX5_together_20 : decode cX5_together 20 = .ok (.aload_n 0, 1) := by decide +kernel
theorem dX5_together_21 : decode cX5_together 21 = .ok (.getfield 42, 3) := by decide +kernel
theorem dX5_together_24 : decode cX5_together 24 = .ok (.aload_n 0, 1) := by decide +kernel
theorem dX5_together_25 : decode cX5_together 25 = .ok (.getfield 60, 3) := by decide +kernel
theorem dX5_together_28 : decode cX5_together 28 = .ok (.iload_n 1, 1) := by decide +kernel
theorem dX5_together_29 : decode cX5_together 29 = .ok (.invokevirtual 149, 3) := by decide +kernel
theorem dX5_together_32 : decode cX5_together 32 = .ok (.aload_n 0, 1) := by decide +kernel
theorem dX5_together_33 : decode cX5_together 33 = .ok (.getfield 42, 3) := by decide +kernel
theorem dX5_together_36 : decode cX5_together 36 = .ok (.aload_n 0, 1) := by decide +kernel
theorem dX5_together_37 : decode cX5_together 37 = .ok (.getfield 63, 3) := by decide +kernel
theorem dX5_together_40 : decode cX5_together 40 = .ok (.iload_n 2, 1) := by decide +kernel
theorem dX5_together_41 : decode cX5_together 41 = .ok (.invokevirtual 149, 3) := by decide +kernel
theorem dX5_together_44 : decode cX5_together 44 = .ok (.aload_n 0, 1) := by decide +kernel
theorem dX5_together_45 : decode cX5_together 45 = .ok (.aload_n 0, 1) := by decide +kernel
theorem dX5_together_46 : decode cX5_together 46 = .ok (.getfield 60, 3) := by decide +kernel
theorem dX5_together_49 : decode cX5_together 49 = .ok (.aload_n 0, 1) := by decide +kernel
theorem dX5_together_50 : decode cX5_together 50 = .ok (.getfield 63, 3) := by decide +kernel
theorem dX5_together_53 : decode cX5_together 53 = .ok (.iconst 0, 1) := by decide +kernel
theorem dX5_together_54 : decode cX5_together 54 = .ok (.invokevirtual 153, 3) := by decide +kernel
theorem dX5_together_57 : decode cX5_together 57 = .ok (.lreturn, 1) := by decide +kernel
theorem dX5_share_0 : decode cX5_share 0 = .ok (.aload_n 0, 1) := by decide +kernel
theorem dX5_share_1 : decode cX5_share 1 = .ok (.iload_n 1, 1) := by decide +kernel
theorem dX5_share_2 : decode cX5_share 2 = .ok (.invokevirtual 133, 3) := by decide +kernel
theorem dX5_share_5 : decode cX5_share 5 = .ok (.ifCond .eq 10, 3) := by decide +kernel
theorem dX5_share_8 : decode cX5_share 8 = .ok (.iload_n 2, 1) := by decide +kernel
theorem dX5_share_9 : decode cX5_share 9 = .ok (.invokestatic 103, 3) := by decide +kernel
theorem dX5_share_12 : decode cX5_share 12 = .ok (.ifCond .ne 7, 3) := by decide +kernel
theorem dX5_share_15 : decode cX5_share 15 = .ok (.ldc2_w 106, 3) := by decide +kernel
theorem dX5_share_18 : decode cX5_share 18 = .ok (.lreturn, 1) := by decide +kernel
theorem dX5_share_19 : decode cX5_share 19 = .ok (.aload_n 0, 1) := by decide +kernel
theorem dX5_share_20 : decode cX5_share 20 = .ok (.getfield 42, 3) := by decide +kernel
theorem dX5_share_23 : decode cX5_share 23 = .ok (.aload_n 0, 1) := by decide +kernel
theorem dX5_share_24 : decode cX5_share 24 = .ok (.getfield 60, 3) := by decide +kernel
theorem dX5_share_27 : decode cX5_share 27 = .ok (.iload_n 1, 1) := by decide +kernel
theorem dX5_share_28 : decode cX5_share 28 = .ok (.invokevirtual 149, 3) := by decide +kernel
theorem dX5_share_31 : decode cX5_share 31 = .ok (.aload_n 0, 1) := by decide +kernel
theorem dX5_share_32 : decode cX5_share 32 = .ok (.aload_n 0, 1) := by decide +kernel
theorem dX5_share_33 : decode cX5_share 33 = .ok (.getfield 60, 3) := by decide +kernel
theorem dX5_share_36 : decode cX5_share 36 = .ok (.aload_n 0, 1) := by decide +kernel
theorem dX5_share_37 : decode cX5_share 37 = .ok (.getfield 60, 3) := by decide +kernel
theorem dX5_share_40 : decode cX5_share 40 = .ok (.iload_n 2, 1) := by decide +kernel
theorem dX5_share_41 : decode cX5_share 41 = .ok (.iconst 0, 1) := by decide +kernel
theorem dX5_share_42 : decode cX5_share 42 = .ok (.invokevirtual 157, 3) := by decide +kernel
theorem dX5_share_45 : decode cX5_share 45 = .ok (.lreturn, 1) := by decide +kernel
theorem dX5_left_0 : decode cX5_left 0 = .ok (.aload_n 0, 1) := by decide +kernel
theorem dX5_left_1 : decode cX5_left 1 = .ok (.iload_n 1, 1) := by decide +kernel
theorem dX5_left_2 : decode cX5_left 2 = .ok (.invokevirtual 133, 3) := by decide +kernel
theorem dX5_left_5 : decode cX5_left 5 = .ok (.ifCond .eq 22, 3) := by decide +kernel
theorem dX5_left_8 : decode cX5_left 8 = .ok (.iload_n 2, 1) := by decide +kernel
theorem dX5_left_9 : decode cX5_left 9 = .ok (.ifCond .lt 18, 3) := by decide +kernel
theorem dX5_left_12 : decode cX5_left 12 = .ok (.iload_n 2, 1) := by decide +kernel
theorem dX5_left_13 : decode cX5_left 13 = .ok (.bipush 64, 2) := by decide +kernel
theorem dX5_left_15 : decode cX5_left 15 = .ok (.if_icmp .ge 12, 3) := by decide +kernel
theorem dX5_left_18 : decode cX5_left 18 = .ok (.aload_n 0, 1) := by decide +kernel
theorem dX5_left_19 : decode cX5_left 19 = .ok (.iload_n 1, 1) := by decide +kernel
theorem dX5_left_20 : decode cX5_left 20 = .ok (.iload_n 2, 1) := by decide +kernel
theorem dX5_left_21 : decode cX5_left 21 = .ok (.invokevirtual 146, 3) := by decide +kernel
theorem dX5_left_24 : decode cX5_left 24 = .ok (.goto 6, 3) := by decide +kernel
theorem dX5_left_27 : decode cX5_left 27 = .ok (.ldc2_w 106, 3) := by decide +kernel
theorem dX5_left_30 : decode cX5_left 30 = .ok (.lreturn, 1) := by decide +kernel
theorem dX5_fewest_0 : decode cX5_fewest 0 = .ok (.aload_n 0, 1) := by decide +kernel
theorem dX5_fewest_1 : decode cX5_fewest 1 = .ok (.iload_n 1, 1) := by decide +kernel
theorem dX5_fewest_2 : decode cX5_fewest 2 = .ok (.invokevirtual 133, 3) := by decide +kernel
theorem dX5_fewest_5 : decode cX5_fewest 5 = .ok (.ifCond .ne 5, 3) := by decide +kernel
theorem dX5_fewest_8 : decode cX5_fewest 8 = .ok (.iconst (-1), 1) := by decide +kernel
theorem dX5_fewest_9 : decode cX5_fewest 9 = .ok (.ireturn, 1) := by decide +kernel
theorem dX5_fewest_10 : decode cX5_fewest 10 = .ok (.aload_n 0, 1) := by decide +kernel
theorem dX5_fewest_11 : decode cX5_fewest 11 = .ok (.getfield 42, 3) := by decide +kernel
theorem dX5_fewest_14 : decode cX5_fewest 14 = .ok (.aload_n 0, 1) := by decide +kernel
theorem dX5_fewest_15 : decode cX5_fewest 15 = .ok (.getfield 60, 3) := by decide +kernel
theorem dX5_fewest_18 : decode cX5_fewest 18 = .ok (.iload_n 1, 1) := by decide +kernel
theorem dX5_fewest_19 : decode cX5_fewest 19 = .ok (.invokevirtual 149, 3) := by decide +kernel
theorem dX5_fewest_22 : decode cX5_fewest 22 = .ok (.bipush (-9), 2) := by decide +kernel
theorem dX5_fewest_24 : decode cX5_fewest 24 = .ok (.istore 4, 2) := by decide +kernel
theorem dX5_fewest_26 : decode cX5_fewest 26 = .ok (.iconst 0, 1) := by decide +kernel
theorem dX5_fewest_27 : decode cX5_fewest 27 = .ok (.istore 5, 2) := by decide +kernel
theorem dX5_fewest_29 : decode cX5_fewest 29 = .ok (.iload 5, 2) := by decide +kernel
theorem dX5_fewest_31 : decode cX5_fewest 31 = .ok (.bipush 64, 2) := by decide +kernel
theorem dX5_fewest_33 : decode cX5_fewest 33 = .ok (.if_icmp .ge 64, 3) := by decide +kernel
theorem dX5_fewest_36 : decode cX5_fewest 36 = .ok (.iload 4, 2) := by decide +kernel
theorem dX5_fewest_38 : decode cX5_fewest 38 = .ok (.bipush (-9), 2) := by decide +kernel
theorem dX5_fewest_40 : decode cX5_fewest 40 = .ok (.if_icmp .eq 16, 3) := by decide +kernel
theorem dX5_fewest_43 : decode cX5_fewest 43 = .ok (.iload 5, 2) := by decide +kernel
theorem dX5_fewest_45 : decode cX5_fewest 45 = .ok (.invokestatic 161, 3) := by decide +kernel
theorem dX5_fewest_48 : decode cX5_fewest 48 = .ok (.iload 4, 2) := by decide +kernel
theorem dX5_fewest_50 : decode cX5_fewest 50 = .ok (.invokestatic 161, 3) := by decide +kernel
theorem dX5_fewest_53 : decode cX5_fewest 53 = .ok (.if_icmp .ge 7, 3) := by decide +kernel
theorem dX5_fewest_56 : decode cX5_fewest 56 = .ok (.iconst 1, 1) := by decide +kernel
theorem dX5_fewest_57 : decode cX5_fewest 57 = .ok (.goto 4, 3) := by decide +kernel
theorem dX5_fewest_60 : decode cX5_fewest 60 = .ok (.iconst 0, 1) := by decide +kernel
theorem dX5_fewest_61 : decode cX5_fewest 61 = .ok (.istore 6, 2) := by decide +kernel
theorem dX5_fewest_63 : decode cX5_fewest 63 = .ok (.iload 6, 2) := by decide +kernel
theorem dX5_fewest_65 : decode cX5_fewest 65 = .ok (.ifCond .eq 26, 3) := by decide +kernel
theorem dX5_fewest_68 : decode cX5_fewest 68 = .ok (.aload_n 0, 1) := by decide +kernel
theorem dX5_fewest_69 : decode cX5_fewest 69 = .ok (.aload_n 0, 1) := by decide +kernel
theorem dX5_fewest_70 : decode cX5_fewest 70 = .ok (.getfield 60, 3) := by decide +kernel
theorem dX5_fewest_73 : decode cX5_fewest 73 = .ok (.aload_n 0, 1) := by decide +kernel
theorem dX5_fewest_74 : decode cX5_fewest 74 = .ok (.getfield 60, 3) := by decide +kernel
theorem dX5_fewest_77 : decode cX5_fewest 77 = .ok (.iload 5, 2) := by decide +kernel
theorem dX5_fewest_79 : decode cX5_fewest 79 = .ok (.invokevirtual 153, 3) := by decide +kernel
theorem dX5_fewest_82 : decode cX5_fewest 82 = .ok (.lload_n 2, 1) := by decide +kernel
theorem dX5_fewest_83 : decode cX5_fewest 83 = .ok (.lcmp, 1) := by decide +kernel
theorem dX5_fewest_84 : decode cX5_fewest 84 = .ok (.ifCond .gt 7, 3) := by decide +kernel
theorem dX5_fewest_87 : decode cX5_fewest 87 = .ok (.iload 5, 2) := by decide +kernel
theorem dX5_fewest_89 : decode cX5_fewest 89 = .ok (.istore 4, 2) := by decide +kernel
theorem dX5_fewest_91 : decode cX5_fewest 91 = .ok (.iinc 5 1, 3) := by decide +kernel
theorem dX5_fewest_94 : decode cX5_fewest 94 = .ok (.goto (-65), 3) := by decide +kernel
theorem dX5_fewest_97 : decode cX5_fewest 97 = .ok (.iload 4, 2) := by decide +kernel
theorem dX5_fewest_99 : decode cX5_fewest 99 = .ok (.ireturn, 1) := by decide +kernel
theorem dX5_takes_0 : decode cX5_takes 0 = .ok (.aload_n 0, 1) := by decide +kernel
theorem dX5_takes_1 : decode cX5_takes 1 = .ok (.iload_n 1, 1) := by decide +kernel
theorem dX5_takes_2 : decode cX5_takes 2 = .ok (.invokevirtual 133, 3) := by decide +kernel
theorem dX5_takes_5 : decode cX5_takes 5 = .ok (.ifCond .eq 10, 3) := by decide +kernel
theorem dX5_takes_8 : decode cX5_takes 8 = .ok (.iload_n 2, 1) := by decide +kernel
theorem dX5_takes_9 : decode cX5_takes 9 = .ok (.invokestatic 103, 3) := by decide +kernel
theorem dX5_takes_12 : decode cX5_takes 12 = .ok (.ifCond .ne 7, 3) := by decide +kernel
theorem dX5_takes_15 : decode cX5_takes 15 = .ok (.ldc2_w 106, 3) := by decide +kernel
theorem dX5_takes_18 : decode cX5_takes 18 = .ok (.lreturn, 1) := by decide +kernel
theorem dX5_takes_19 : decode cX5_takes 19 = .ok (.aload_n 0, 1) := by decide +kernel
theorem dX5_takes_20 : decode cX5_takes 20 = .ok (.getfield 42, 3) := by decide +kernel
theorem dX5_takes_23 : decode cX5_takes 23 = .ok (.aload_n 0, 1) := by decide +kernel
theorem dX5_takes_24 : decode cX5_takes 24 = .ok (.getfield 60, 3) := by decide +kernel
theorem dX5_takes_27 : decode cX5_takes 27 = .ok (.iload_n 1, 1) := by decide +kernel
theorem dX5_takes_28 : decode cX5_takes 28 = .ok (.invokevirtual 149, 3) := by decide +kernel
theorem dX5_takes_31 : decode cX5_takes 31 = .ok (.aload_n 0, 1) := by decide +kernel
theorem dX5_takes_32 : decode cX5_takes 32 = .ok (.iload_n 2, 1) := by decide +kernel
theorem dX5_takes_33 : decode cX5_takes 33 = .ok (.invokevirtual 166, 3) := by decide +kernel
theorem dX5_takes_36 : decode cX5_takes 36 = .ok (.lreturn, 1) := by decide +kernel
theorem dX5_first_0 : decode cX5_first 0 = .ok (.aload_n 0, 1) := by decide +kernel
theorem dX5_first_1 : decode cX5_first 1 = .ok (.iload_n 1, 1) := by decide +kernel
theorem dX5_first_2 : decode cX5_first 2 = .ok (.invokevirtual 133, 3) := by decide +kernel
theorem dX5_first_5 : decode cX5_first 5 = .ok (.ifCond .eq 12, 3) := by decide +kernel
theorem dX5_first_8 : decode cX5_first 8 = .ok (.iload_n 2, 1) := by decide +kernel
theorem dX5_first_9 : decode cX5_first 9 = .ok (.ifCond .lt 8, 3) := by decide +kernel
theorem dX5_first_12 : decode cX5_first 12 = .ok (.iload_n 2, 1) := by decide +kernel
theorem dX5_first_13 : decode cX5_first 13 = .ok (.iconst 1, 1) := by decide +kernel
theorem dX5_first_14 : decode cX5_first 14 = .ok (.if_icmp .le 5, 3) := by decide +kernel
theorem dX5_first_17 : decode cX5_first 17 = .ok (.iconst (-1), 1) := by decide +kernel
theorem dX5_first_18 : decode cX5_first 18 = .ok (.ireturn, 1) := by decide +kernel
theorem dX5_first_19 : decode cX5_first 19 = .ok (.aload_n 0, 1) := by decide +kernel
theorem dX5_first_20 : decode cX5_first 20 = .ok (.getfield 42, 3) := by decide +kernel
theorem dX5_first_23 : decode cX5_first 23 = .ok (.aload_n 0, 1) := by decide +kernel
theorem dX5_first_24 : decode cX5_first 24 = .ok (.getfield 60, 3) := by decide +kernel
theorem dX5_first_27 : decode cX5_first 27 = .ok (.iload_n 1, 1) := by decide +kernel
theorem dX5_first_28 : decode cX5_first 28 = .ok (.invokevirtual 149, 3) := by decide +kernel
theorem dX5_first_31 : decode cX5_first 31 = .ok (.iconst 0, 1) := by decide +kernel
theorem dX5_first_32 : decode cX5_first 32 = .ok (.istore_n 3, 1) := by decide +kernel
theorem dX5_first_33 : decode cX5_first 33 = .ok (.lconst 0, 1) := by decide +kernel
theorem dX5_first_34 : decode cX5_first 34 = .ok (.lstore 4, 2) := by decide +kernel
theorem dX5_first_36 : decode cX5_first 36 = .ok (.iconst 0, 1) := by decide +kernel
theorem dX5_first_37 : decode cX5_first 37 = .ok (.istore 6, 2) := by decide +kernel
theorem dX5_first_39 : decode cX5_first 39 = .ok (.iload 6, 2) := by decide +kernel
theorem dX5_first_41 : decode cX5_first 41 = .ok (.bipush 6, 2) := by decide +kernel
theorem dX5_first_43 : decode cX5_first 43 = .ok (.if_icmp .ge 59, 3) := by decide +kernel
theorem dX5_first_46 : decode cX5_first 46 = .ok (.iload_n 2, 1) := by decide +kernel
theorem dX5_first_47 : decode cX5_first 47 = .ok (.ifCond .ne 12, 3) := by decide +kernel
theorem dX5_first_50 : decode cX5_first 50 = .ok (.aload_n 0, 1) := by decide +kernel
theorem dX5_first_51 : decode cX5_first 51 = .ok (.iload 6, 2) := by decide +kernel
theorem dX5_first_53 : decode cX5_first 53 = .ok (.invokevirtual 166, 3) := by decide +kernel
theorem dX5_first_56 : decode cX5_first 56 = .ok (.goto 18, 3) := by decide +kernel
theorem dX5_first_59 : decode cX5_first 59 = .ok (.aload_n 0, 1) := by decide +kernel
theorem dX5_first_60 : decode cX5_first 60 = .ok (.aload_n 0, 1) := by decide +kernel
theorem dX5_first_61 : decode cX5_first 61 = .ok (.getfield 60, 3) := by decide +kernel
theorem dX5_first_64 : decode cX5_first 64 = .ok (.aload_n 0, 1) := by decide +kernel
theorem dX5_first_65 : decode cX5_first 65 = .ok (.getfield 60, 3) := by decide +kernel
theorem dX5_first_68 : decode cX5_first 68 = .ok (.iload 6, 2) := by decide +kernel
theorem dX5_first_70 : decode cX5_first 70 = .ok (.iconst 0, 1) := by decide +kernel
theorem dX5_first_71 : decode cX5_first 71 = .ok (.invokevirtual 157, 3) := by decide +kernel
theorem dX5_first_74 : decode cX5_first 74 = .ok (.lstore 7, 2) := by decide +kernel
theorem dX5_first_76 : decode cX5_first 76 = .ok (.iload 6, 2) := by decide +kernel
theorem dX5_first_78 : decode cX5_first 78 = .ok (.ifCond .eq 11, 3) := by decide +kernel
theorem dX5_first_81 : decode cX5_first 81 = .ok (.lload 7, 2) := by decide +kernel
theorem dX5_first_83 : decode cX5_first 83 = .ok (.lload 4, 2) := by decide +kernel
theorem dX5_first_85 : decode cX5_first 85 = .ok (.lcmp, 1) := by decide +kernel
theorem dX5_first_86 : decode cX5_first 86 = .ok (.ifCond .le 10, 3) := by decide +kernel
theorem dX5_first_89 : decode cX5_first 89 = .ok (.iload 6, 2) := by decide +kernel
theorem dX5_first_91 : decode cX5_first 91 = .ok (.istore_n 3, 1) := by decide +kernel
theorem dX5_first_92 : decode cX5_first 92 = .ok (.lload 7, 2) := by decide +kernel
theorem dX5_first_94 : decode cX5_first 94 = .ok (.lstore 4, 2) := by decide +kernel
theorem dX5_first_96 : decode cX5_first 96 = .ok (.iinc 6 1, 3) := by decide +kernel
theorem dX5_first_99 : decode cX5_first 99 = .ok (.goto (-60), 3) := by decide +kernel
theorem dX5_first_102 : decode cX5_first 102 = .ok (.iload_n 3, 1) := by decide +kernel
theorem dX5_first_103 : decode cX5_first 103 = .ok (.ireturn, 1) := by decide +kernel
theorem dX5_off_0 : decode cX5_off 0 = .ok (.aload_n 0, 1) := by decide +kernel
theorem dX5_off_1 : decode cX5_off 1 = .ok (.iload_n 1, 1) := by decide +kernel
theorem dX5_off_2 : decode cX5_off 2 = .ok (.invokevirtual 133, 3) := by decide +kernel
theorem dX5_off_5 : decode cX5_off 5 = .ok (.ifCond .eq 17, 3) := by decide +kernel
theorem dX5_off_8 : decode cX5_off 8 = .ok (.iload_n 2, 1) := by decide +kernel
theorem dX5_off_9 : decode cX5_off 9 = .ok (.invokestatic 103, 3) := by decide +kernel
theorem dX5_off_12 : decode cX5_off 12 = .ok (.ifCond .eq 10, 3) := by decide +kernel
theorem dX5_off_15 : decode cX5_off 15 = .ok (.iload_n 3, 1) := by decide +kernel
theorem dX5_off_16 : decode cX5_off 16 = .ok (.invokestatic 170, 3) := by decide +kernel
theorem dX5_off_19 : decode cX5_off 19 = .ok (.ifCond .ne 7, 3) := by decide +kernel
theorem dX5_off_22 : decode cX5_off 22 = .ok (.ldc2_w 106, 3) := by decide +kernel
theorem dX5_off_25 : decode cX5_off 25 = .ok (.lreturn, 1) := by decide +kernel
theorem dX5_off_26 : decode cX5_off 26 = .ok (.aload_n 0, 1) := by decide +kernel
theorem dX5_off_27 : decode cX5_off 27 = .ok (.getfield 42, 3) := by decide +kernel
theorem dX5_off_30 : decode cX5_off 30 = .ok (.iload_n 1, 1) := by decide +kernel
theorem dX5_off_31 : decode cX5_off 31 = .ok (.iload_n 2, 1) := by decide +kernel
theorem dX5_off_32 : decode cX5_off 32 = .ok (.iload_n 3, 1) := by decide +kernel
theorem dX5_off_33 : decode cX5_off 33 = .ok (.invokevirtual 136, 3) := by decide +kernel
theorem dX5_off_36 : decode cX5_off 36 = .ok (.lstore 4, 2) := by decide +kernel
theorem dX5_off_38 : decode cX5_off 38 = .ok (.aload_n 0, 1) := by decide +kernel
theorem dX5_off_39 : decode cX5_off 39 = .ok (.getfield 42, 3) := by decide +kernel
theorem dX5_off_42 : decode cX5_off 42 = .ok (.iload_n 1, 1) := by decide +kernel
theorem dX5_off_43 : decode cX5_off 43 = .ok (.iload_n 2, 1) := by decide +kernel
theorem dX5_off_44 : decode cX5_off 44 = .ok (.invokevirtual 139, 3) := by decide +kernel
theorem dX5_off_47 : decode cX5_off 47 = .ok (.lstore 6, 2) := by decide +kernel
theorem dX5_off_49 : decode cX5_off 49 = .ok (.lload 4, 2) := by decide +kernel
theorem dX5_off_51 : decode cX5_off 51 = .ok (.aload_n 0, 1) := by decide +kernel
theorem dX5_off_52 : decode cX5_off 52 = .ok (.getfield 42, 3) := by decide +kernel
theorem dX5_off_55 : decode cX5_off 55 = .ok (.iload_n 1, 1) := by decide +kernel
theorem dX5_off_56 : decode cX5_off 56 = .ok (.iload_n 2, 1) := by decide +kernel
theorem dX5_off_57 : decode cX5_off 57 = .ok (.iconst 0, 1) := by decide +kernel
theorem dX5_off_58 : decode cX5_off 58 = .ok (.invokevirtual 136, 3) := by decide +kernel
theorem dX5_off_61 : decode cX5_off 61 = .ok (.lsub, 1) := by decide +kernel
theorem dX5_off_62 : decode cX5_off 62 = .ok (.iload_n 3, 1) := by decide +kernel
theorem dX5_off_63 : decode cX5_off 63 = .ok (.i2l, 1) := by decide +kernel
theorem dX5_off_64 : decode cX5_off 64 = .ok (.lload 6, 2) := by decide +kernel
theorem dX5_off_66 : decode cX5_off 66 = .ok (.lmul, 1) := by decide +kernel
theorem dX5_off_67 : decode cX5_off 67 = .ok (.lsub, 1) := by decide +kernel
theorem dX5_off_68 : decode cX5_off 68 = .ok (.lreturn, 1) := by decide +kernel
theorem dX5_sees_0 : decode cX5_sees 0 = .ok (.aload_n 0, 1) := by decide +kernel
theorem dX5_sees_1 : decode cX5_sees 1 = .ok (.iload_n 1, 1) := by decide +kernel
theorem dX5_sees_2 : decode cX5_sees 2 = .ok (.invokevirtual 133, 3) := by decide +kernel
theorem dX5_sees_5 : decode cX5_sees 5 = .ok (.ifCond .ne 5, 3) := by decide +kernel
theorem dX5_sees_8 : decode cX5_sees 8 = .ok (.iconst (-1), 1) := by decide +kernel
theorem dX5_sees_9 : decode cX5_sees 9 = .ok (.ireturn, 1) := by decide +kernel
theorem dX5_sees_10 : decode cX5_sees 10 = .ok (.aload_n 0, 1) := by decide +kernel
theorem dX5_sees_11 : decode cX5_sees 11 = .ok (.getfield 92, 3) := by decide +kernel
theorem dX5_sees_14 : decode cX5_sees 14 = .ok (.ifCond .lt 12, 3) := by decide +kernel
theorem dX5_sees_17 : decode cX5_sees 17 = .ok (.aload_n 0, 1) := by decide +kernel
theorem dX5_sees_18 : decode cX5_sees 18 = .ok (.getfield 92, 3) := by decide +kernel
theorem dX5_sees_21 : decode cX5_sees 21 = .ok (.bipush 6, 2) := by decide +kernel
theorem dX5_sees_23 : decode cX5_sees 23 = .ok (.if_icmp .lt 6, 3) := by decide +kernel
theorem dX5_sees_26 : decode cX5_sees 26 = .ok (.bipush (-3), 2) := by decide +kernel
theorem dX5_sees_28 : decode cX5_sees 28 = .ok (.ireturn, 1) := by decide +kernel
theorem dX5_sees_29 : decode cX5_sees 29 = .ok (.aload_n 0, 1) := by decide +kernel
theorem dX5_sees_30 : decode cX5_sees 30 = .ok (.getfield 52, 3) := by decide +kernel
theorem dX5_sees_33 : decode cX5_sees 33 = .ok (.aload_n 0, 1) := by decide +kernel
theorem dX5_sees_34 : decode cX5_sees 34 = .ok (.getfield 92, 3) := by decide +kernel
theorem dX5_sees_37 : decode cX5_sees 37 = .ok (.iload_n 1, 1) := by decide +kernel
theorem dX5_sees_38 : decode cX5_sees 38 = .ok (.iastore, 1) := by decide +kernel
theorem dX5_sees_39 : decode cX5_sees 39 = .ok (.aload_n 0, 1) := by decide +kernel
theorem dX5_sees_40 : decode cX5_sees 40 = .ok (.getfield 56, 3) := by decide +kernel
theorem dX5_sees_43 : decode cX5_sees 43 = .ok (.aload_n 0, 1) := by decide +kernel
theorem dX5_sees_44 : decode cX5_sees 44 = .ok (.getfield 92, 3) := by decide +kernel
theorem dX5_sees_47 : decode cX5_sees 47 = .ok (.lload_n 2, 1) := by decide +kernel
theorem dX5_sees_48 : decode cX5_sees 48 = .ok (.lastore, 1) := by decide +kernel
theorem dX5_sees_49 : decode cX5_sees 49 = .ok (.aload_n 0, 1) := by decide +kernel
theorem dX5_sees_50 : decode cX5_sees 50 = .ok (.dup, 1) := by decide +kernel
theorem dX5_sees_51 : decode cX5_sees 51 = .ok (.getfield 92, 3) := by decide +kernel
theorem dX5_sees_54 : decode cX5_sees 54 = .ok (.iconst 1, 1) := by decide +kernel
theorem dX5_sees_55 : decode cX5_sees 55 = .ok (.iadd, 1) := by decide +kernel
theorem dX5_sees_56 : decode cX5_sees 56 = .ok (.putfield 92, 3) := by decide +kernel
theorem dX5_sees_59 : decode cX5_sees 59 = .ok (.aload_n 0, 1) := by decide +kernel
theorem dX5_sees_60 : decode cX5_sees 60 = .ok (.getfield 92, 3) := by decide +kernel
theorem dX5_sees_63 : decode cX5_sees 63 = .ok (.ireturn, 1) := by decide +kernel
theorem dX5_forget_0 : decode cX5_forget 0 = .ok (.aload_n 0, 1) := by decide +kernel
theorem dX5_forget_1 : decode cX5_forget 1 = .ok (.getfield 92, 3) := by decide +kernel
theorem dX5_forget_4 : decode cX5_forget 4 = .ok (.istore_n 1, 1) := by decide +kernel
theorem dX5_forget_5 : decode cX5_forget 5 = .ok (.aload_n 0, 1) := by decide +kernel
theorem dX5_forget_6 : decode cX5_forget 6 = .ok (.iconst 0, 1) := by decide +kernel
theorem dX5_forget_7 : decode cX5_forget 7 = .ok (.putfield 92, 3) := by decide +kernel
theorem dX5_forget_10 : decode cX5_forget 10 = .ok (.iload_n 1, 1) := by decide +kernel
theorem dX5_forget_11 : decode cX5_forget 11 = .ok (.ireturn, 1) := by decide +kernel
theorem dX5_unseen_0 : decode cX5_unseen 0 = .ok (.iload_n 1, 1) := by decide +kernel
theorem dX5_unseen_1 : decode cX5_unseen 1 = .ok (.invokestatic 170, 3) := by decide +kernel
theorem dX5_unseen_4 : decode cX5_unseen 4 = .ok (.ifCond .ne 5, 3) := by decide +kernel
theorem dX5_unseen_7 : decode cX5_unseen 7 = .ok (.iconst (-1), 1) := by decide +kernel
theorem dX5_unseen_8 : decode cX5_unseen 8 = .ok (.ireturn, 1) := by decide +kernel
theorem dX5_unseen_9 : decode cX5_unseen 9 = .ok (.iconst 0, 1) := by decide +kernel
theorem dX5_unseen_10 : decode cX5_unseen 10 = .ok (.istore_n 2, 1) := by decide +kernel
theorem dX5_unseen_11 : decode cX5_unseen 11 = .ok (.iconst 0, 1) := by decide +kernel
theorem dX5_unseen_12 : decode cX5_unseen 12 = .ok (.istore_n 3, 1) := by decide +kernel
theorem dX5_unseen_13 : decode cX5_unseen 13 = .ok (.iload_n 3, 1) := by decide +kernel
theorem dX5_unseen_14 : decode cX5_unseen 14 = .ok (.bipush 6, 2) := by decide +kernel
theorem dX5_unseen_16 : decode cX5_unseen 16 = .ok (.if_icmp .ge 24, 3) := by decide +kernel
theorem dX5_unseen_19 : decode cX5_unseen 19 = .ok (.aload_n 0, 1) := by decide +kernel
theorem dX5_unseen_20 : decode cX5_unseen 20 = .ok (.iload_n 3, 1) := by decide +kernel
theorem dX5_unseen_21 : decode cX5_unseen 21 = .ok (.iload_n 1, 1) := by decide +kernel
theorem dX5_unseen_22 : decode cX5_unseen 22 = .ok (.invokevirtual 173, 3) := by decide +kernel
theorem dX5_unseen_25 : decode cX5_unseen 25 = .ok (.ifCond .eq 9, 3) := by decide +kernel
theorem dX5_unseen_28 : decode cX5_unseen 28 = .ok (.iload_n 2, 1) := by decide +kernel
theorem dX5_unseen_29 : decode cX5_unseen 29 = .ok (.iconst 1, 1) := by decide +kernel
theorem dX5_unseen_30 : decode cX5_unseen 30 = .ok (.iload_n 3, 1) := by decide +kernel
theorem dX5_unseen_31 : decode cX5_unseen 31 = .ok (.ishl, 1) := by decide +kernel
theorem dX5_unseen_32 : decode cX5_unseen 32 = .ok (.ior, 1) := by decide +kernel
theorem dX5_unseen_33 : decode cX5_unseen 33 = .ok (.istore_n 2, 1) := by decide +kernel
theorem dX5_unseen_34 : decode cX5_unseen 34 = .ok (.iinc 3 1, 3) := by decide +kernel
theorem dX5_unseen_37 : decode cX5_unseen 37 = .ok (.goto (-24), 3) := by decide +kernel
theorem dX5_unseen_40 : decode cX5_unseen 40 = .ok (.iload_n 2, 1) := by decide +kernel
theorem dX5_unseen_41 : decode cX5_unseen 41 = .ok (.ireturn, 1) := by decide +kernel
theorem dX5_keep_0 : decode cX5_keep 0 = .ok (.iload_n 1, 1) := by decide +kernel
theorem dX5_keep_1 : decode cX5_keep 1 = .ok (.ifCond .ne 27, 3) := by decide +kernel
theorem dX5_keep_4 : decode cX5_keep 4 = .ok (.aload_n 0, 1) := by decide +kernel
theorem dX5_keep_5 : decode cX5_keep 5 = .ok (.getfield 46, 3) := by decide +kernel
theorem dX5_keep_8 : decode cX5_keep 8 = .ok (.aload_n 0, 1) := by decide +kernel
theorem dX5_keep_9 : decode cX5_keep 9 = .ok (.getfield 12, 3) := by decide +kernel
theorem dX5_keep_12 : decode cX5_keep 12 = .ok (.invokevirtual 81, 3) := by decide +kernel
theorem dX5_keep_15 : decode cX5_keep 15 = .ok (.aload_n 0, 1) := by decide +kernel
theorem dX5_keep_16 : decode cX5_keep 16 = .ok (.iconst 1, 1) := by decide +kernel
theorem dX5_keep_17 : decode cX5_keep 17 = .ok (.putfield 96, 3) := by decide +kernel
theorem dX5_keep_20 : decode cX5_keep 20 = .ok (.aload_n 0, 1) := by decide +kernel
theorem dX5_keep_21 : decode cX5_keep 21 = .ok (.getfield 19, 3) := by decide +kernel
theorem dX5_keep_24 : decode cX5_keep 24 = .ok (.invokevirtual 177, 3) := by decide +kernel
theorem dX5_keep_27 : decode cX5_keep 27 = .ok (.ireturn, 1) := by decide +kernel
theorem dX5_keep_28 : decode cX5_keep 28 = .ok (.iload_n 1, 1) := by decide +kernel
theorem dX5_keep_29 : decode cX5_keep 29 = .ok (.iconst 1, 1) := by decide +kernel
theorem dX5_keep_30 : decode cX5_keep 30 = .ok (.if_icmp .ne 27, 3) := by decide +kernel
theorem dX5_keep_33 : decode cX5_keep 33 = .ok (.aload_n 0, 1) := by decide +kernel
theorem dX5_keep_34 : decode cX5_keep 34 = .ok (.getfield 49, 3) := by decide +kernel
theorem dX5_keep_37 : decode cX5_keep 37 = .ok (.aload_n 0, 1) := by decide +kernel
theorem dX5_keep_38 : decode cX5_keep 38 = .ok (.getfield 12, 3) := by decide +kernel
theorem dX5_keep_41 : decode cX5_keep 41 = .ok (.invokevirtual 81, 3) := by decide +kernel
theorem dX5_keep_44 : decode cX5_keep 44 = .ok (.aload_n 0, 1) := by decide +kernel
theorem dX5_keep_45 : decode cX5_keep 45 = .ok (.iconst 1, 1) := by decide +kernel
theorem dX5_keep_46 : decode cX5_keep 46 = .ok (.putfield 100, 3) := by decide +kernel
theorem dX5_keep_49 : decode cX5_keep 49 = .ok (.aload_n 0, 1) := by decide +kernel
theorem dX5_keep_50 : decode cX5_keep 50 = .ok (.getfield 19, 3) := by decide +kernel
theorem dX5_keep_53 : decode cX5_keep 53 = .ok (.invokevirtual 177, 3) := by decide +kernel
theorem dX5_keep_56 : decode cX5_keep 56 = .ok (.ireturn, 1) := by decide +kernel
theorem dX5_keep_57 : decode cX5_keep 57 = .ok (.iconst (-1), 1) := by decide +kernel
theorem dX5_keep_58 : decode cX5_keep 58 = .ok (.ireturn, 1) := by decide +kernel
theorem dX5_back_0 : decode cX5_back 0 = .ok (.iload_n 1, 1) := by decide +kernel
theorem dX5_back_1 : decode cX5_back 1 = .ok (.ifCond .lt 8, 3) := by decide +kernel
theorem dX5_back_4 : decode cX5_back 4 = .ok (.iload_n 1, 1) := by decide +kernel
theorem dX5_back_5 : decode cX5_back 5 = .ok (.iconst 1, 1) := by decide +kernel
theorem dX5_back_6 : decode cX5_back 6 = .ok (.if_icmp .le 5, 3) := by decide +kernel
theorem dX5_back_9 : decode cX5_back 9 = .ok (.iconst (-1), 1) := by decide +kernel
theorem dX5_back_10 : decode cX5_back 10 = .ok (.ireturn, 1) := by decide +kernel
theorem dX5_back_11 : decode cX5_back 11 = .ok (.iload_n 1, 1) := by decide +kernel
theorem dX5_back_12 : decode cX5_back 12 = .ok (.ifCond .ne 13, 3) := by decide +kernel
theorem dX5_back_15 : decode cX5_back 15 = .ok (.aload_n 0, 1) := by decide +kernel
theorem dX5_back_16 : decode cX5_back 16 = .ok (.getfield 96, 3) := by decide +kernel
theorem dX5_back_19 : decode cX5_back 19 = .ok (.ifCond .ne 16, 3) := by decide +kernel
theorem dX5_back_22 : decode cX5_back 22 = .ok (.goto 10, 3) := by decide +kernel
theorem dX5_back_25 : decode cX5_back 25 = .ok (.aload_n 0, 1) := by decide +kernel
theorem dX5_back_26 : decode cX5_back 26 = .ok (.getfield 100, 3) := by decide +kernel
theorem dX5_back_29 : decode cX5_back 29 = .ok (.ifCond .ne 6, 3) := by decide +kernel
theorem dX5_back_32 : decode cX5_back 32 = .ok (.bipush (-2), 2) := by decide +kernel
theorem dX5_back_34 : decode cX5_back 34 = .ok (.ireturn, 1) := by decide +kernel
theorem dX5_back_35 : decode cX5_back 35 = .ok (.aload_n 0, 1) := by decide +kernel
theorem dX5_back_36 : decode cX5_back 36 = .ok (.getfield 12, 3) := by decide +kernel
theorem dX5_back_39 : decode cX5_back 39 = .ok (.iload_n 1, 1) := by decide +kernel
theorem dX5_back_40 : decode cX5_back 40 = .ok (.ifCond .ne 10, 3) := by decide +kernel
theorem dX5_back_43 : decode cX5_back 43 = .ok (.aload_n 0, 1) := by decide +kernel
theorem dX5_back_44 : decode cX5_back 44 = .ok (.getfield 46, 3) := by decide +kernel
theorem dX5_back_47 : decode cX5_back 47 = .ok (.goto 7, 3) := by decide +kernel
theorem dX5_back_50 : decode cX5_back 50 = .ok (.aload_n 0, 1) := by decide +kernel
theorem dX5_back_51 : decode cX5_back 51 = .ok (.getfield 49, 3) := by decide +kernel
theorem dX5_back_54 : decode cX5_back 54 = .ok (.invokevirtual 81, 3) := by decide +kernel
theorem dX5_back_57 : decode cX5_back 57 = .ok (.aload_n 0, 1) := by decide +kernel
theorem dX5_back_58 : decode cX5_back 58 = .ok (.getfield 33, 3) := by decide +kernel
theorem dX5_back_61 : decode cX5_back 61 = .ok (.invokevirtual 89, 3) := by decide +kernel
theorem dX5_back_64 : decode cX5_back 64 = .ok (.aload_n 0, 1) := by decide +kernel
theorem dX5_back_65 : decode cX5_back 65 = .ok (.getfield 19, 3) := by decide +kernel
theorem dX5_back_68 : decode cX5_back 68 = .ok (.invokevirtual 177, 3) := by decide +kernel
theorem dX5_back_71 : decode cX5_back 71 = .ok (.ireturn, 1) := by decide +kernel
theorem dX5_formula_0 : decode cX5_formula 0 = .ok (.aload_n 0, 1) := by decide +kernel
theorem dX5_formula_1 : decode cX5_formula 1 = .ok (.iload_n 1, 1) := by decide +kernel
theorem dX5_formula_2 : decode cX5_formula 2 = .ok (.invokevirtual 133, 3) := by decide +kernel
theorem dX5_formula_5 : decode cX5_formula 5 = .ok (.ifCond .ne 5, 3) := by decide +kernel
theorem dX5_formula_8 : decode cX5_formula 8 = .ok (.iconst (-1), 1) := by decide +kernel
theorem dX5_formula_9 : decode cX5_formula 9 = .ok (.ireturn, 1) := by decide +kernel
theorem dX5_formula_10 : decode cX5_formula 10 = .ok (.iload_n 2, 1) := by decide +kernel
theorem dX5_formula_11 : decode cX5_formula 11 = .ok (.tableswitch 75 0 2 #[25, 43, 59], 25) := by decide +kernel
theorem dX5_formula_36 : decode cX5_formula 36 = .ok (.aload_n 0, 1) := by decide +kernel
theorem dX5_formula_37 : decode cX5_formula 37 = .ok (.getfield 19, 3) := by decide +kernel
theorem dX5_formula_40 : decode cX5_formula 40 = .ok (.iload_n 1, 1) := by decide +kernel
theorem dX5_formula_41 : decode cX5_formula 41 = .ok (.invokevirtual 180, 3) := by decide +kernel
theorem dX5_formula_44 : decode cX5_formula 44 = .ok (.aload_n 0, 1) := by decide +kernel
theorem dX5_formula_45 : decode cX5_formula 45 = .ok (.getfield 19, 3) := by decide +kernel
theorem dX5_formula_48 : decode cX5_formula 48 = .ok (.iload_n 1, 1) := by decide +kernel
theorem dX5_formula_49 : decode cX5_formula 49 = .ok (.invokevirtual 183, 3) := by decide +kernel
theorem dX5_formula_52 : decode cX5_formula 52 = .ok (.isub, 1) := by decide +kernel
theorem dX5_formula_53 : decode cX5_formula 53 = .ok (.ireturn, 1) := by decide +kernel
theorem dX5_formula_54 : decode cX5_formula 54 = .ok (.aload_n 0, 1) := by decide +kernel
theorem dX5_formula_55 : decode cX5_formula 55 = .ok (.getfield 19, 3) := by decide +kernel
theorem dX5_formula_58 : decode cX5_formula 58 = .ok (.aload_n 0, 1) := by decide +kernel
theorem dX5_formula_59 : decode cX5_formula 59 = .ok (.getfield 19, 3) := by decide +kernel
theorem dX5_formula_62 : decode cX5_formula 62 = .ok (.iload_n 1, 1) := by decide +kernel
theorem dX5_formula_63 : decode cX5_formula 63 = .ok (.invokevirtual 186, 3) := by decide +kernel
theorem dX5_formula_66 : decode cX5_formula 66 = .ok (.invokevirtual 189, 3) := by decide +kernel
theorem dX5_formula_69 : decode cX5_formula 69 = .ok (.ireturn, 1) := by decide +kernel
theorem dX5_formula_70 : decode cX5_formula 70 = .ok (.aload_n 0, 1) := by decide +kernel
theorem dX5_formula_71 : decode cX5_formula 71 = .ok (.getfield 19, 3) := by decide +kernel
theorem dX5_formula_74 : decode cX5_formula 74 = .ok (.aload_n 0, 1) := by decide +kernel
theorem dX5_formula_75 : decode cX5_formula 75 = .ok (.getfield 19, 3) := by decide +kernel
theorem dX5_formula_78 : decode cX5_formula 78 = .ok (.iload_n 1, 1) := by decide +kernel
theorem dX5_formula_79 : decode cX5_formula 79 = .ok (.invokevirtual 186, 3) := by decide +kernel
theorem dX5_formula_82 : decode cX5_formula 82 = .ok (.invokevirtual 192, 3) := by decide +kernel
theorem dX5_formula_85 : decode cX5_formula 85 = .ok (.ireturn, 1) := by decide +kernel
theorem dX5_formula_86 : decode cX5_formula 86 = .ok (.iconst (-1), 1) := by decide +kernel
theorem dX5_formula_87 : decode cX5_formula 87 = .ok (.ireturn, 1) := by decide +kernel
theorem dX5_count_0 : decode cX5_count 0 = .ok (.iload_n 1, 1) := by decide +kernel
theorem dX5_count_1 : decode cX5_count 1 = .ok (.tableswitch 60 0 3 #[31, 39, 44, 52], 31) := by decide +kernel
theorem dX5_count_32 : decode cX5_count 32 = .ok (.aload_n 0, 1) := by decide +kernel
theorem dX5_count_33 : decode cX5_count 33 = .ok (.getfield 19, 3) := by decide +kernel
theorem dX5_count_36 : decode cX5_count 36 = .ok (.invokevirtual 177, 3) := by decide +kernel
theorem dX5_count_39 : decode cX5_count 39 = .ok (.ireturn, 1) := by decide +kernel
theorem dX5_count_40 : decode cX5_count 40 = .ok (.aload_n 0, 1) := by decide +kernel
theorem dX5_count_41 : decode cX5_count 41 = .ok (.getfield 92, 3) := by decide +kernel
theorem dX5_count_44 : decode cX5_count 44 = .ok (.ireturn, 1) := by decide +kernel
theorem dX5_count_45 : decode cX5_count 45 = .ok (.aload_n 0, 1) := by decide +kernel
theorem dX5_count_46 : decode cX5_count 46 = .ok (.getfield 26, 3) := by decide +kernel
theorem dX5_count_49 : decode cX5_count 49 = .ok (.invokevirtual 70, 3) := by decide +kernel
theorem dX5_count_52 : decode cX5_count 52 = .ok (.ireturn, 1) := by decide +kernel
theorem dX5_count_53 : decode cX5_count 53 = .ok (.aload_n 0, 1) := by decide +kernel
theorem dX5_count_54 : decode cX5_count 54 = .ok (.getfield 33, 3) := by decide +kernel
theorem dX5_count_57 : decode cX5_count 57 = .ok (.invokevirtual 130, 3) := by decide +kernel
theorem dX5_count_60 : decode cX5_count 60 = .ok (.ireturn, 1) := by decide +kernel
theorem dX5_count_61 : decode cX5_count 61 = .ok (.iconst (-1), 1) := by decide +kernel
theorem dX5_count_62 : decode cX5_count 62 = .ok (.ireturn, 1) := by decide +kernel
theorem dX5_isSource_0 : decode cX5_isSource 0 = .ok (.iload_n 0, 1) := by decide +kernel
theorem dX5_isSource_1 : decode cX5_isSource 1 = .ok (.ifCond .lt 13, 3) := by decide +kernel
theorem dX5_isSource_4 : decode cX5_isSource 4 = .ok (.iload_n 0, 1) := by decide +kernel
theorem dX5_isSource_5 : decode cX5_isSource 5 = .ok (.bipush 6, 2) := by decide +kernel
theorem dX5_isSource_7 : decode cX5_isSource 7 = .ok (.if_icmp .ge 7, 3) := by decide +kernel
theorem dX5_isSource_10 : decode cX5_isSource 10 = .ok (.iconst 1, 1) := by decide +kernel
theorem dX5_isSource_11 : decode cX5_isSource 11 = .ok (.goto 4, 3) := by decide +kernel
theorem dX5_isSource_14 : decode cX5_isSource 14 = .ok (.iconst 0, 1) := by decide +kernel
theorem dX5_isSource_15 : decode cX5_isSource 15 = .ok (.ireturn, 1) := by decide +kernel
theorem dX5_isMove_0 : decode cX5_isMove 0 = .ok (.iload_n 0, 1) := by decide +kernel
theorem dX5_isMove_1 : decode cX5_isMove 1 = .ok (.bipush (-20), 2) := by decide +kernel
theorem dX5_isMove_3 : decode cX5_isMove 3 = .ok (.if_icmp .lt 13, 3) := by decide +kernel
theorem dX5_isMove_6 : decode cX5_isMove 6 = .ok (.iload_n 0, 1) := by decide +kernel
theorem dX5_isMove_7 : decode cX5_isMove 7 = .ok (.bipush 20, 2) := by decide +kernel
theorem dX5_isMove_9 : decode cX5_isMove 9 = .ok (.if_icmp .gt 7, 3) := by decide +kernel
theorem dX5_isMove_12 : decode cX5_isMove 12 = .ok (.iconst 1, 1) := by decide +kernel
theorem dX5_isMove_13 : decode cX5_isMove 13 = .ok (.goto 4, 3) := by decide +kernel
theorem dX5_isMove_16 : decode cX5_isMove 16 = .ok (.iconst 0, 1) := by decide +kernel
theorem dX5_isMove_17 : decode cX5_isMove 17 = .ok (.ireturn, 1) := by decide +kernel
theorem dX5_isTold_0 : decode cX5_isTold 0 = .ok (.iload_n 1, 1) := by decide +kernel
theorem dX5_isTold_1 : decode cX5_isTold 1 = .ok (.ifCond .lt 18, 3) := by decide +kernel
theorem dX5_isTold_4 : decode cX5_isTold 4 = .ok (.iload_n 1, 1) := by decide +kernel
theorem dX5_isTold_5 : decode cX5_isTold 5 = .ok (.aload_n 0, 1) := by decide +kernel
theorem dX5_isTold_6 : decode cX5_isTold 6 = .ok (.getfield 19, 3) := by decide +kernel
theorem dX5_isTold_9 : decode cX5_isTold 9 = .ok (.invokevirtual 177, 3) := by decide +kernel
theorem dX5_isTold_12 : decode cX5_isTold 12 = .ok (.if_icmp .ge 7, 3) := by decide +kernel
theorem dX5_isTold_15 : decode cX5_isTold 15 = .ok (.iconst 1, 1) := by decide +kernel
theorem dX5_isTold_16 : decode cX5_isTold 16 = .ok (.goto 4, 3) := by decide +kernel
theorem dX5_isTold_19 : decode cX5_isTold 19 = .ok (.iconst 0, 1) := by decide +kernel
theorem dX5_isTold_20 : decode cX5_isTold 20 = .ok (.ireturn, 1) := by decide +kernel
theorem dX5_remains_0 : decode cX5_remains 0 = .ok (.aload_n 0, 1) := by decide +kernel
theorem dX5_remains_1 : decode cX5_remains 1 = .ok (.getfield 42, 3) := by decide +kernel
theorem dX5_remains_4 : decode cX5_remains 4 = .ok (.aload_n 0, 1) := by decide +kernel
theorem dX5_remains_5 : decode cX5_remains 5 = .ok (.getfield 60, 3) := by decide +kernel
theorem dX5_remains_8 : decode cX5_remains 8 = .ok (.iload_n 1, 1) := by decide +kernel
theorem dX5_remains_9 : decode cX5_remains 9 = .ok (.invokevirtual 149, 3) := by decide +kernel
theorem dX5_remains_12 : decode cX5_remains 12 = .ok (.aload_n 0, 1) := by decide +kernel
theorem dX5_remains_13 : decode cX5_remains 13 = .ok (.aload_n 0, 1) := by decide +kernel
theorem dX5_remains_14 : decode cX5_remains 14 = .ok (.getfield 60, 3) := by decide +kernel
theorem dX5_remains_17 : decode cX5_remains 17 = .ok (.aload_n 0, 1) := by decide +kernel
theorem dX5_remains_18 : decode cX5_remains 18 = .ok (.getfield 60, 3) := by decide +kernel
theorem dX5_remains_21 : decode cX5_remains 21 = .ok (.iload_n 2, 1) := by decide +kernel
theorem dX5_remains_22 : decode cX5_remains 22 = .ok (.invokevirtual 153, 3) := by decide +kernel
theorem dX5_remains_25 : decode cX5_remains 25 = .ok (.lreturn, 1) := by decide +kernel
theorem dX5_taken_0 : decode cX5_taken 0 = .ok (.aload_n 0, 1) := by decide +kernel
theorem dX5_taken_1 : decode cX5_taken 1 = .ok (.aload_n 0, 1) := by decide +kernel
theorem dX5_taken_2 : decode cX5_taken 2 = .ok (.getfield 60, 3) := by decide +kernel
theorem dX5_taken_5 : decode cX5_taken 5 = .ok (.aload_n 0, 1) := by decide +kernel
theorem dX5_taken_6 : decode cX5_taken 6 = .ok (.getfield 60, 3) := by decide +kernel
theorem dX5_taken_9 : decode cX5_taken 9 = .ok (.iconst 0, 1) := by decide +kernel
theorem dX5_taken_10 : decode cX5_taken 10 = .ok (.invokevirtual 153, 3) := by decide +kernel
theorem dX5_taken_13 : decode cX5_taken 13 = .ok (.aload_n 0, 1) := by decide +kernel
theorem dX5_taken_14 : decode cX5_taken 14 = .ok (.aload_n 0, 1) := by decide +kernel
theorem dX5_taken_15 : decode cX5_taken 15 = .ok (.getfield 60, 3) := by decide +kernel
theorem dX5_taken_18 : decode cX5_taken 18 = .ok (.aload_n 0, 1) := by decide +kernel
theorem dX5_taken_19 : decode cX5_taken 19 = .ok (.getfield 60, 3) := by decide +kernel
theorem dX5_taken_22 : decode cX5_taken 22 = .ok (.iconst 1, 1) := by decide +kernel
theorem dX5_taken_23 : decode cX5_taken 23 = .ok (.iload_n 1, 1) := by decide +kernel
theorem dX5_taken_24 : decode cX5_taken 24 = .ok (.ishl, 1) := by decide +kernel
theorem dX5_taken_25 : decode cX5_taken 25 = .ok (.invokevirtual 153, 3) := by decide +kernel
theorem dX5_taken_28 : decode cX5_taken 28 = .ok (.lsub, 1) := by decide +kernel
theorem dX5_taken_29 : decode cX5_taken 29 = .ok (.lreturn, 1) := by decide +kernel
theorem dX5_product_0 : decode cX5_product 0 = .ok (.lconst 0, 1) := by decide +kernel
theorem dX5_product_1 : decode cX5_product 1 = .ok (.lstore 4, 2) := by decide +kernel
theorem dX5_product_3 : decode cX5_product 3 = .ok (.iconst 0, 1) := by decide +kernel
theorem dX5_product_4 : decode cX5_product 4 = .ok (.istore 6, 2) := by decide +kernel
theorem dX5_product_6 : decode cX5_product 6 = .ok (.iload 6, 2) := by decide +kernel
theorem dX5_product_8 : decode cX5_product 8 = .ok (.bipush 6, 2) := by decide +kernel
theorem dX5_product_10 : decode cX5_product 10 = .ok (.if_icmp .ge 32, 3) := by decide +kernel
theorem dX5_product_13 : decode cX5_product 13 = .ok (.iload_n 3, 1) := by decide +kernel
theorem dX5_product_14 : decode cX5_product 14 = .ok (.iload 6, 2) := by decide +kernel
theorem dX5_product_16 : decode cX5_product 16 = .ok (.ishr, 1) := by decide +kernel
theorem dX5_product_17 : decode cX5_product 17 = .ok (.iconst 1, 1) := by decide +kernel
theorem dX5_product_18 : decode cX5_product 18 = .ok (.iand, 1) := by decide +kernel
theorem dX5_product_19 : decode cX5_product 19 = .ok (.ifCond .ne 17, 3) := by decide +kernel
theorem dX5_product_22 : decode cX5_product 22 = .ok (.lload 4, 2) := by decide +kernel
theorem dX5_product_24 : decode cX5_product 24 = .ok (.aload_n 0, 1) := by decide +kernel
theorem dX5_product_25 : decode cX5_product 25 = .ok (.aload_n 1, 1) := by decide +kernel
theorem dX5_product_26 : decode cX5_product 26 = .ok (.aload_n 2, 1) := by decide +kernel
theorem dX5_product_27 : decode cX5_product 27 = .ok (.iload 6, 2) := by decide +kernel
theorem dX5_product_29 : decode cX5_product 29 = .ok (.iload_n 3, 1) := by decide +kernel
theorem dX5_product_30 : decode cX5_product 30 = .ok (.invokevirtual 157, 3) := by decide +kernel
theorem dX5_product_33 : decode cX5_product 33 = .ok (.ladd, 1) := by decide +kernel
theorem dX5_product_34 : decode cX5_product 34 = .ok (.lstore 4, 2) := by decide +kernel
theorem dX5_product_36 : decode cX5_product 36 = .ok (.iinc 6 1, 3) := by decide +kernel
theorem dX5_product_39 : decode cX5_product 39 = .ok (.goto (-33), 3) := by decide +kernel
theorem dX5_product_42 : decode cX5_product 42 = .ok (.lload 4, 2) := by decide +kernel
theorem dX5_product_44 : decode cX5_product 44 = .ok (.lreturn, 1) := by decide +kernel
theorem dX5_part_0 : decode cX5_part 0 = .ok (.iload_n 3, 1) := by decide +kernel
theorem dX5_part_1 : decode cX5_part 1 = .ok (.ifCond .lt 9, 3) := by decide +kernel
theorem dX5_part_4 : decode cX5_part 4 = .ok (.iload_n 3, 1) := by decide +kernel
theorem dX5_part_5 : decode cX5_part 5 = .ok (.aload_n 1, 1) := by decide +kernel
theorem dX5_part_6 : decode cX5_part 6 = .ok (.arraylength, 1) := by decide +kernel
theorem dX5_part_7 : decode cX5_part 7 = .ok (.if_icmp .lt 5, 3) := by decide +kernel
theorem dX5_part_10 : decode cX5_part 10 = .ok (.lconst 0, 1) := by decide +kernel
theorem dX5_part_11 : decode cX5_part 11 = .ok (.lreturn, 1) := by decide +kernel
theorem dX5_part_12 : decode cX5_part 12 = .ok (.lconst 0, 1) := by decide +kernel
theorem dX5_part_13 : decode cX5_part 13 = .ok (.lstore 5, 2) := by decide +kernel
theorem dX5_part_15 : decode cX5_part 15 = .ok (.iconst 0, 1) := by decide +kernel
theorem dX5_part_16 : decode cX5_part 16 = .ok (.istore 7, 2) := by decide +kernel
theorem dX5_part_18 : decode cX5_part 18 = .ok (.iload 7, 2) := by decide +kernel
theorem dX5_part_20 : decode cX5_part 20 = .ok (.bipush 6, 2) := by decide +kernel
theorem dX5_part_22 : decode cX5_part 22 = .ok (.if_icmp .ge 51, 3) := by decide +kernel
theorem dX5_part_25 : decode cX5_part 25 = .ok (.iload 7, 2) := by decide +kernel
theorem dX5_part_27 : decode cX5_part 27 = .ok (.aload_n 2, 1) := by decide +kernel
theorem dX5_part_28 : decode cX5_part 28 = .ok (.arraylength, 1) := by decide +kernel
theorem dX5_part_29 : decode cX5_part 29 = .ok (.if_icmp .ge 44, 3) := by decide +kernel
theorem dX5_part_32 : decode cX5_part 32 = .ok (.iload 4, 2) := by decide +kernel
theorem dX5_part_34 : decode cX5_part 34 = .ok (.iload 7, 2) := by decide +kernel
theorem dX5_part_36 : decode cX5_part 36 = .ok (.ishr, 1) := by decide +kernel
theorem dX5_part_37 : decode cX5_part 37 = .ok (.iconst 1, 1) := by decide +kernel
theorem dX5_part_38 : decode cX5_part 38 = .ok (.iand, 1) := by decide +kernel
theorem dX5_part_39 : decode cX5_part 39 = .ok (.ifCond .ne 28, 3) := by decide +kernel
theorem dX5_part_42 : decode cX5_part 42 = .ok (.lload 5, 2) := by decide +kernel
theorem dX5_part_44 : decode cX5_part 44 = .ok (.aload_n 1, 1) := by decide +kernel
theorem dX5_part_45 : decode cX5_part 45 = .ok (.iload_n 3, 1) := by decide +kernel
theorem dX5_part_46 : decode cX5_part 46 = .ok (.laload, 1) := by decide +kernel
theorem dX5_part_47 : decode cX5_part 47 = .ok (.aload_n 2, 1) := by decide +kernel
theorem dX5_part_48 : decode cX5_part 48 = .ok (.iload 7, 2) := by decide +kernel
theorem dX5_part_50 : decode cX5_part 50 = .ok (.laload, 1) := by decide +kernel
theorem dX5_part_51 : decode cX5_part 51 = .ok (.lmul, 1) := by decide +kernel
theorem dX5_part_52 : decode cX5_part 52 = .ok (.aload_n 0, 1) := by decide +kernel
theorem dX5_part_53 : decode cX5_part 53 = .ok (.getfield 12, 3) := by decide +kernel
theorem dX5_part_56 : decode cX5_part 56 = .ok (.iload_n 3, 1) := by decide +kernel
theorem dX5_part_57 : decode cX5_part 57 = .ok (.iload 7, 2) := by decide +kernel
theorem dX5_part_59 : decode cX5_part 59 = .ok (.invokevirtual 112, 3) := by decide +kernel
theorem dX5_part_62 : decode cX5_part 62 = .ok (.i2l, 1) := by decide +kernel
theorem dX5_part_63 : decode cX5_part 63 = .ok (.lmul, 1) := by decide +kernel
theorem dX5_part_64 : decode cX5_part 64 = .ok (.ladd, 1) := by decide +kernel
theorem dX5_part_65 : decode cX5_part 65 = .ok (.lstore 5, 2) := by decide +kernel
theorem dX5_part_67 : decode cX5_part 67 = .ok (.iinc 7 1, 3) := by decide +kernel
theorem dX5_part_70 : decode cX5_part 70 = .ok (.goto (-52), 3) := by decide +kernel
theorem dX5_part_73 : decode cX5_part 73 = .ok (.lload 5, 2) := by decide +kernel
theorem dX5_part_75 : decode cX5_part 75 = .ok (.lreturn, 1) := by decide +kernel
theorem dX5_explains_0 : decode cX5_explains 0 = .ok (.iconst 0, 1) := by decide +kernel
theorem dX5_explains_1 : decode cX5_explains 1 = .ok (.istore_n 3, 1) := by decide +kernel
theorem dX5_explains_2 : decode cX5_explains 2 = .ok (.iload_n 3, 1) := by decide +kernel
theorem dX5_explains_3 : decode cX5_explains 3 = .ok (.aload_n 0, 1) := by decide +kernel
theorem dX5_explains_4 : decode cX5_explains 4 = .ok (.getfield 92, 3) := by decide +kernel
theorem dX5_explains_7 : decode cX5_explains 7 = .ok (.if_icmp .ge 42, 3) := by decide +kernel
theorem dX5_explains_10 : decode cX5_explains 10 = .ok (.iload_n 3, 1) := by decide +kernel
theorem dX5_explains_11 : decode cX5_explains 11 = .ok (.bipush 6, 2) := by decide +kernel
theorem dX5_explains_13 : decode cX5_explains 13 = .ok (.if_icmp .ge 36, 3) := by decide +kernel
theorem dX5_explains_16 : decode cX5_explains 16 = .ok (.aload_n 0, 1) := by decide +kernel
theorem dX5_explains_17 : decode cX5_explains 17 = .ok (.getfield 42, 3) := by decide +kernel
theorem dX5_explains_20 : decode cX5_explains 20 = .ok (.aload_n 0, 1) := by decide +kernel
theorem dX5_explains_21 : decode cX5_explains 21 = .ok (.getfield 52, 3) := by decide +kernel
theorem dX5_explains_24 : decode cX5_explains 24 = .ok (.iload_n 3, 1) := by decide +kernel
theorem dX5_explains_25 : decode cX5_explains 25 = .ok (.iaload, 1) := by decide +kernel
theorem dX5_explains_26 : decode cX5_explains 26 = .ok (.iload_n 1, 1) := by decide +kernel
theorem dX5_explains_27 : decode cX5_explains 27 = .ok (.iload_n 2, 1) := by decide +kernel
theorem dX5_explains_28 : decode cX5_explains 28 = .ok (.invokevirtual 136, 3) := by decide +kernel
theorem dX5_explains_31 : decode cX5_explains 31 = .ok (.aload_n 0, 1) := by decide +kernel
theorem dX5_explains_32 : decode cX5_explains 32 = .ok (.getfield 56, 3) := by decide +kernel
theorem dX5_explains_35 : decode cX5_explains 35 = .ok (.iload_n 3, 1) := by decide +kernel
theorem dX5_explains_36 : decode cX5_explains 36 = .ok (.laload, 1) := by decide +kernel
theorem dX5_explains_37 : decode cX5_explains 37 = .ok (.lcmp, 1) := by decide +kernel
theorem dX5_explains_38 : decode cX5_explains 38 = .ok (.ifCond .eq 5, 3) := by decide +kernel
theorem dX5_explains_41 : decode cX5_explains 41 = .ok (.iconst 0, 1) := by decide +kernel
theorem dX5_explains_42 : decode cX5_explains 42 = .ok (.ireturn, 1) := by decide +kernel
theorem dX5_explains_43 : decode cX5_explains 43 = .ok (.iinc 3 1, 3) := by decide +kernel
theorem dX5_explains_46 : decode cX5_explains 46 = .ok (.goto (-44), 3) := by decide +kernel
theorem dX5_explains_49 : decode cX5_explains 49 = .ok (.iconst 1, 1) := by decide +kernel
theorem dX5_explains_50 : decode cX5_explains 50 = .ok (.ireturn, 1) := by decide +kernel
theorem dJ6_bitCount_0f7a4_0 : decode cJ6_bitCount_0f7a4 0 = .ok (.iload_n 0, 1) := by decide +kernel
theorem dJ6_bitCount_0f7a4_1 : decode cJ6_bitCount_0f7a4 1 = .ok (.iload_n 0, 1) := by decide +kernel
theorem dJ6_bitCount_0f7a4_2 : decode cJ6_bitCount_0f7a4 2 = .ok (.iconst 1, 1) := by decide +kernel
theorem dJ6_bitCount_0f7a4_3 : decode cJ6_bitCount_0f7a4 3 = .ok (.iushr, 1) := by decide +kernel
theorem dJ6_bitCount_0f7a4_4 : decode cJ6_bitCount_0f7a4 4 = .ok (.ldc_w 265, 3) := by decide +kernel
theorem dJ6_bitCount_0f7a4_7 : decode cJ6_bitCount_0f7a4 7 = .ok (.iand, 1) := by decide +kernel
theorem dJ6_bitCount_0f7a4_8 : decode cJ6_bitCount_0f7a4 8 = .ok (.isub, 1) := by decide +kernel
theorem dJ6_bitCount_0f7a4_9 : decode cJ6_bitCount_0f7a4 9 = .ok (.istore_n 0, 1) := by decide +kernel
theorem dJ6_bitCount_0f7a4_10 : decode cJ6_bitCount_0f7a4 10 = .ok (.iload_n 0, 1) := by decide +kernel
theorem dJ6_bitCount_0f7a4_11 : decode cJ6_bitCount_0f7a4 11 = .ok (.ldc_w 266, 3) := by decide +kernel
theorem dJ6_bitCount_0f7a4_14 : decode cJ6_bitCount_0f7a4 14 = .ok (.iand, 1) := by decide +kernel
theorem dJ6_bitCount_0f7a4_15 : decode cJ6_bitCount_0f7a4 15 = .ok (.iload_n 0, 1) := by decide +kernel
theorem dJ6_bitCount_0f7a4_16 : decode cJ6_bitCount_0f7a4 16 = .ok (.iconst 2, 1) := by decide +kernel
theorem dJ6_bitCount_0f7a4_17 : decode cJ6_bitCount_0f7a4 17 = .ok (.iushr, 1) := by decide +kernel
theorem dJ6_bitCount_0f7a4_18 : decode cJ6_bitCount_0f7a4 18 = .ok (.ldc_w 266, 3) := by decide +kernel
theorem dJ6_bitCount_0f7a4_21 : decode cJ6_bitCount_0f7a4 21 = .ok (.iand, 1) := by decide +kernel
theorem dJ6_bitCount_0f7a4_22 : decode cJ6_bitCount_0f7a4 22 = .ok (.iadd, 1) := by decide +kernel
theorem dJ6_bitCount_0f7a4_23 : decode cJ6_bitCount_0f7a4 23 = .ok (.istore_n 0, 1) := by decide +kernel
theorem dJ6_bitCount_0f7a4_24 : decode cJ6_bitCount_0f7a4 24 = .ok (.iload_n 0, 1) := by decide +kernel
theorem dJ6_bitCount_0f7a4_25 : decode cJ6_bitCount_0f7a4 25 = .ok (.iload_n 0, 1) := by decide +kernel
theorem dJ6_bitCount_0f7a4_26 : decode cJ6_bitCount_0f7a4 26 = .ok (.iconst 4, 1) := by decide +kernel
theorem dJ6_bitCount_0f7a4_27 : decode cJ6_bitCount_0f7a4 27 = .ok (.iushr, 1) := by decide +kernel
theorem dJ6_bitCount_0f7a4_28 : decode cJ6_bitCount_0f7a4 28 = .ok (.iadd, 1) := by decide +kernel
theorem dJ6_bitCount_0f7a4_29 : decode cJ6_bitCount_0f7a4 29 = .ok (.ldc_w 267, 3) := by decide +kernel
theorem dJ6_bitCount_0f7a4_32 : decode cJ6_bitCount_0f7a4 32 = .ok (.iand, 1) := by decide +kernel
theorem dJ6_bitCount_0f7a4_33 : decode cJ6_bitCount_0f7a4 33 = .ok (.istore_n 0, 1) := by decide +kernel
theorem dJ6_bitCount_0f7a4_34 : decode cJ6_bitCount_0f7a4 34 = .ok (.iload_n 0, 1) := by decide +kernel
theorem dJ6_bitCount_0f7a4_35 : decode cJ6_bitCount_0f7a4 35 = .ok (.iload_n 0, 1) := by decide +kernel
theorem dJ6_bitCount_0f7a4_36 : decode cJ6_bitCount_0f7a4 36 = .ok (.bipush 8, 2) := by decide +kernel
theorem dJ6_bitCount_0f7a4_38 : decode cJ6_bitCount_0f7a4 38 = .ok (.iushr, 1) := by decide +kernel
theorem dJ6_bitCount_0f7a4_39 : decode cJ6_bitCount_0f7a4 39 = .ok (.iadd, 1) := by decide +kernel
theorem dJ6_bitCount_0f7a4_40 : decode cJ6_bitCount_0f7a4 40 = .ok (.istore_n 0, 1) := by decide +kernel
theorem dJ6_bitCount_0f7a4_41 : decode cJ6_bitCount_0f7a4 41 = .ok (.iload_n 0, 1) := by decide +kernel
theorem dJ6_bitCount_0f7a4_42 : decode cJ6_bitCount_0f7a4 42 = .ok (.iload_n 0, 1) := by decide +kernel
theorem dJ6_bitCount_0f7a4_43 : decode cJ6_bitCount_0f7a4 43 = .ok (.bipush 16, 2) := by decide +kernel
theorem dJ6_bitCount_0f7a4_45 : decode cJ6_bitCount_0f7a4 45 = .ok (.iushr, 1) := by decide +kernel
theorem dJ6_bitCount_0f7a4_46 : decode cJ6_bitCount_0f7a4 46 = .ok (.iadd, 1) := by decide +kernel
theorem dJ6_bitCount_0f7a4_47 : decode cJ6_bitCount_0f7a4 47 = .ok (.istore_n 0, 1) := by decide +kernel
theorem dJ6_bitCount_0f7a4_48 : decode cJ6_bitCount_0f7a4 48 = .ok (.iload_n 0, 1) := by decide +kernel
theorem dJ6_bitCount_0f7a4_49 : decode cJ6_bitCount_0f7a4 49 = .ok (.bipush 63, 2) := by decide +kernel
theorem dJ6_bitCount_0f7a4_51 : decode cJ6_bitCount_0f7a4 51 = .ok (.iand, 1) := by decide +kernel
theorem dJ6_bitCount_0f7a4_52 : decode cJ6_bitCount_0f7a4 52 = .ok (.ireturn, 1) := by decide +kernel
end
section
theorem dX6_init_0 : decode cX6_init 0 = .ok (.aload_n 0, 1) := by decide +kernel
theorem dX6_init_1 : decode cX6_init 1 = .ok (.invokespecial 1, 3) := by decide +kernel
theorem dX6_init_4 : decode cX6_init 4 = .ok (.aload_n 0, 1) := by decide +kernel
theorem dX6_init_5 : decode cX6_init 5 = .ok (.bipush 100, 2) := by decide +kernel
theorem dX6_init_7 : decode cX6_init 7 = .ok (.newarray .int, 2) := by decide +kernel
theorem dX6_init_9 : decode cX6_init 9 = .ok (.putfield 7, 3) := by decide +kernel
theorem dX6_init_12 : decode cX6_init 12 = .ok (.aload_n 0, 1) := by decide +kernel
theorem dX6_init_13 : decode cX6_init 13 = .ok (.iconst 4, 1) := by decide +kernel
theorem dX6_init_14 : decode cX6_init 14 = .ok (.newarray .int, 2) := by decide +kernel
theorem dX6_init_16 : decode cX6_init 16 = .ok (.putfield 13, 3) := by decide +kernel
theorem dX6_init_19 : decode cX6_init 19 = .ok (.aload_n 0, 1) := by decide +kernel
theorem dX6_init_20 : decode cX6_init 20 = .ok (.bipush 80, 2) := by decide +kernel
theorem dX6_init_22 : decode cX6_init 22 = .ok (.newarray .int, 2) := by decide +kernel
theorem dX6_init_24 : decode cX6_init 24 = .ok (.putfield 16, 3) := by decide +kernel
theorem dX6_init_27 : decode cX6_init 27 = .ok (.aload_n 0, 1) := by decide +kernel
theorem dX6_init_28 : decode cX6_init 28 = .ok (.bipush 80, 2) := by decide +kernel
theorem dX6_init_30 : decode cX6_init 30 = .ok (.newarray .int, 2) := by decide +kernel
theorem dX6_init_32 : decode cX6_init 32 = .ok (.putfield 19, 3) := by decide +kernel
theorem dX6_init_35 : decode cX6_init 35 = .ok (.aload_n 0, 1) := by decide +kernel
theorem dX6_init_36 : decode cX6_init 36 = .ok (.bipush 80, 2) := by decide +kernel
theorem dX6_init_38 : decode cX6_init 38 = .ok (.newarray .int, 2) := by decide +kernel
theorem dX6_init_40 : decode cX6_init 40 = .ok (.putfield 22, 3) := by decide +kernel
theorem dX6_init_43 : decode cX6_init 43 = .ok (.aload_n 0, 1) := by decide +kernel
theorem dX6_init_44 : decode cX6_init 44 = .ok (.bipush 80, 2) := by decide +kernel
theorem dX6_init_46 : decode cX6_init 46 = .ok (.newarray .int, 2) := by decide +kernel
theorem dX6_init_48 : decode cX6_init 48 = .ok (.putfield 25, 3) := by decide +kernel
theorem dX6_init_51 : decode cX6_init 51 = .ok (.aload_n 0, 1) := by decide +kernel
theorem dX6_init_52 : decode cX6_init 52 = .ok (.iconst 4, 1) := by decide +kernel
theorem dX6_init_53 : decode cX6_init 53 = .ok (.newarray .int, 2) := by decide +kernel
theorem dX6_init_55 : decode cX6_init 55 = .ok (.putfield 28, 3) := by decide +kernel
theorem dX6_init_58 : decode cX6_init 58 = .ok (.aload_n 0, 1) := by decide +kernel
theorem dX6_init_59 : decode cX6_init 59 = .ok (.bipush 80, 2) := by decide +kernel
theorem dX6_init_61 : decode cX6_init 61 = .ok (.newarray .int, 2) := by decide +kernel
theorem dX6_init_63 : decode cX6_init 63 = .ok (.putfield 31, 3) := by decide +kernel
theorem dX6_init_66 : decode cX6_init 66 = .ok (.aload_n 0, 1) := by decide +kernel
theorem dX6_init_67 : decode cX6_init 67 = .ok (.bipush 80, 2) := by decide +kernel
theorem dX6_init_69 : decode cX6_init 69 = .ok (.newarray .int, 2) := by decide +kernel
theorem dX6_init_71 : decode cX6_init 71 = .ok (.putfield 34, 3) := by decide +kernel
theorem dX6_init_74 : decode cX6_init 74 = .ok (.aload_n 0, 1) := by decide +kernel
theorem dX6_init_75 : decode cX6_init 75 = .ok (.bipush 80, 2) := by decide +kernel
theorem dX6_init_77 : decode cX6_init 77 = .ok (.newarray .int, 2) := by decide +kernel
theorem dX6_init_79 : decode cX6_init 79 = .ok (.putfield 37, 3) := by decide +kernel
theorem dX6_init_82 : decode cX6_init 82 = .ok (.aload_n 0, 1) := by decide +kernel
theorem dX6_init_83 : decode cX6_init 83 = .ok (.bipush 80, 2) := by decide +kernel
theorem dX6_init_85 : decode cX6_init 85 = .ok (.newarray .int, 2) := by decide +kernel
theorem dX6_init_87 : decode cX6_init 87 = .ok (.putfield 40, 3) := by decide +kernel
theorem dX6_init_90 : decode cX6_init 90 = .ok (.aload_n 0, 1) := by decide +kernel
theorem dX6_init_91 : decode cX6_init 91 = .ok (.bipush 48, 2) := by decide +kernel
theorem dX6_init_93 : decode cX6_init 93 = .ok (.newarray .int, 2) := by decide +kernel
theorem dX6_init_95 : decode cX6_init 95 = .ok (.putfield 43, 3) := by decide +kernel
theorem dX6_init_98 : decode cX6_init 98 = .ok (.aload_n 0, 1) := by decide +kernel
theorem dX6_init_99 : decode cX6_init 99 = .ok (.bipush 48, 2) := by decide +kernel
theorem dX6_init_101 : decode cX6_init 101 = .ok (.newarray .int, 2) := by decide +kernel
theorem dX6_init_103 : decode cX6_init 103 = .ok (.putfield 46, 3) := by decide +kernel
theorem dX6_init_106 : decode cX6_init 106 = .ok (.aload_n 0, 1) := by decide +kernel
theorem dX6_init_107 : decode cX6_init 107 = .ok (.sipush 480, 3) := by decide +kernel
theorem dX6_init_110 : decode cX6_init 110 = .ok (.newarray .int, 2) := by decide +kernel
theorem dX6_init_112 : decode cX6_init 112 = .ok (.putfield 49, 3) := by decide +kernel
theorem dX6_init_115 : decode cX6_init 115 = .ok (.aload_n 0, 1) := by decide +kernel
theorem dX6_init_116 : decode cX6_init 116 = .ok (.bipush 96, 2) := by decide +kernel
theorem dX6_init_118 : decode cX6_init 118 = .ok (.newarray .int, 2) := by decide +kernel
theorem dX6_init_120 : decode cX6_init 120 = .ok (.putfield 52, 3) := by decide +kernel
theorem dX6_init_123 : decode cX6_init 123 = .ok (.aload_n 0, 1) := by decide +kernel
theorem dX6_init_124 : decode cX6_init 124 = .ok (.iconst 2, 1) := by decide +kernel
theorem dX6_init_125 : decode cX6_init 125 = .ok (.newarray .boolean, 2) := by decide +kernel
theorem dX6_init_127 : decode cX6_init 127 = .ok (.putfield 55, 3) := by decide +kernel
theorem dX6_init_130 : decode cX6_init 130 = .ok (.aload_n 0, 1) := by decide +kernel
theorem dX6_init_131 : decode cX6_init 131 = .ok (.bipush 6, 2) := by decide +kernel
theorem dX6_init_133 : decode cX6_init 133 = .ok (.newarray .int, 2) := by decide +kernel
theorem dX6_init_135 : decode cX6_init 135 = .ok (.putfield 59, 3) := by decide +kernel
theorem dX6_init_138 : decode cX6_init 138 = .ok (.aload_n 0, 1) := by decide +kernel
theorem dX6_init_139 : decode cX6_init 139 = .ok (.bipush 6, 2) := by decide +kernel
theorem dX6_init_141 : decode cX6_init 141 = .ok (.newarray .long, 2) := by decide +kernel
theorem dX6_init_143 : decode cX6_init 143 = .ok (.putfield 62, 3) := by decide +kernel
theorem dX6_init_146 : decode cX6_init 146 = .ok (.aload_n 0, 1) := by decide +kernel
theorem dX6_init_147 : decode cX6_init 147 = .ok (.bipush 32, 2) := by decide +kernel
theorem dX6_init_149 : decode cX6_init 149 = .ok (.newarray .int, 2) := by decide +kernel
theorem dX6_init_151 : decode cX6_init 151 = .ok (.putfield 66, 3) := by decide +kernel
theorem dX6_init_154 : decode cX6_init 154 = .ok (.aload_n 0, 1) := by decide +kernel
theorem dX6_init_155 : decode cX6_init 155 = .ok (.sipush 128, 3) := by decide +kernel
theorem dX6_init_158 : decode cX6_init 158 = .ok (.newarray .int, 2) := by decide +kernel
theorem dX6_init_160 : decode cX6_init 160 = .ok (.putfield 69, 3) := by decide +kernel
theorem dX6_init_163 : decode cX6_init 163 = .ok (.aload_n 0, 1) := by decide +kernel
theorem dX6_init_164 : decode cX6_init 164 = .ok (.bipush 80, 2) := by decide +kernel
theorem dX6_init_166 : decode cX6_init 166 = .ok (.newarray .long, 2) := by decide +kernel
theorem dX6_init_168 : decode cX6_init 168 = .ok (.putfield 72, 3) := by decide +kernel
theorem dX6_init_171 : decode cX6_init 171 = .ok (.aload_n 0, 1) := by decide +kernel
theorem dX6_init_172 : decode cX6_init 172 = .ok (.sipush 480, 3) := by decide +kernel
theorem dX6_init_175 : decode cX6_init 175 = .ok (.newarray .long, 2) := by decide +kernel
theorem dX6_init_177 : decode cX6_init 177 = .ok (.putfield 75, 3) := by decide +kernel
theorem dX6_init_180 : decode cX6_init 180 = .ok (.aload_n 0, 1) := by decide +kernel
theorem dX6_init_181 : decode cX6_init 181 = .ok (.sipush 2880, 3) := by decide +kernel
theorem dX6_init_184 : decode cX6_init 184 = .ok (.newarray .long, 2) := by decide +kernel
theorem dX6_init_186 : decode cX6_init 186 = .ok (.putfield 78, 3) := by decide +kernel
theorem dX6_init_189 : decode cX6_init 189 = .ok (.aload_n 0, 1) := by decide +kernel
theorem dX6_init_190 : decode cX6_init 190 = .ok (.iconst 4, 1) := by decide +kernel
theorem dX6_init_191 : decode cX6_init 191 = .ok (.newarray .int, 2) := by decide +kernel
theorem dX6_init_193 : decode cX6_init 193 = .ok (.putfield 81, 3) := by decide +kernel
theorem dX6_init_196 : decode cX6_init 196 = .ok (.aload_n 0, 1) := by decide +kernel
theorem dX6_init_197 : decode cX6_init 197 = .ok (.iconst 4, 1) := by decide +kernel
theorem dX6_init_198 : decode cX6_init 198 = .ok (.newarray .int, 2) := by decide +kernel
theorem dX6_init_200 : decode cX6_init 200 = .ok (.putfield 84, 3) := by decide +kernel
theorem dX6_init_203 : decode cX6_init 203 = .ok (.aload_n 0, 1) := by decide +kernel
theorem dX6_init_204 : decode cX6_init 204 = .ok (.invokevirtual 87, 3) := by decide +kernel
theorem dX6_init_207 : decode cX6_init 207 = .ok (.aload_n 0, 1) := by decide +kernel
theorem dX6_init_208 : decode cX6_init 208 = .ok (.invokevirtual 90, 3) := by decide +kernel
theorem dX6_init_211 : decode cX6_init 211 = .ok (.return_, 1) := by decide +kernel
theorem dX6_in_0 : decode cX6_in 0 = .ok (.iload_n 0, 1) := by decide +kernel
theorem dX6_in_1 : decode cX6_in 1 = .ok (.iload_n 1, 1) := by decide +kernel
theorem dX6_in_2 : decode cX6_in 2 = .ok (.if_icmp .lt 12, 3) := by decide +kernel
theorem dX6_in_5 : decode cX6_in 5 = .ok (.iload_n 0, 1) := by decide +kernel
theorem dX6_in_6 : decode cX6_in 6 = .ok (.iload_n 2, 1) := by decide +kernel
theorem dX6_in_7 : decode cX6_in 7 = .ok (.if_icmp .gt 7, 3) := by decide +kernel
theorem dX6_in_10 : decode cX6_in 10 = .ok (.iconst 1, 1) := by decide +kernel
theorem dX6_in_11 : decode cX6_in 11 = .ok (.goto 4, 3) := by decide +kernel
theorem dX6_in_14 : decode cX6_in 14 = .ok (.iconst 0, 1) := by decide +kernel
theorem dX6_in_15 : decode cX6_in 15 = .ok (.ireturn, 1) := by decide +kernel
theorem dX6_has_0 : decode cX6_has 0 = .ok (.iload_n 0, 1) := by decide +kernel
theorem dX6_has_1 : decode cX6_has 1 = .ok (.iload_n 1, 1) := by decide +kernel
theorem dX6_has_2 : decode cX6_has 2 = .ok (.ishr, 1) := by decide +kernel
theorem dX6_has_3 : decode cX6_has 3 = .ok (.iconst 1, 1) := by decide +kernel
theorem dX6_has_4 : decode cX6_has 4 = .ok (.iand, 1) := by decide +kernel
theorem dX6_has_5 : decode cX6_has 5 = .ok (.iconst 1, 1) := by decide +kernel
theorem dX6_has_6 : decode cX6_has 6 = .ok (.if_icmp .ne 7, 3) := by decide +kernel
theorem dX6_has_9 : decode cX6_has 9 = .ok (.iconst 1, 1) := by decide +kernel
theorem dX6_has_10 : decode cX6_has 10 = .ok (.goto 4, 3) := by decide +kernel
theorem dX6_has_13 : decode cX6_has 13 = .ok (.iconst 0, 1) := by decide +kernel
theorem dX6_has_14 : decode cX6_has 14 = .ok (.ireturn, 1) := by decide +kernel
theorem dX6_ones_0 : decode cX6_ones 0 = .ok (.iconst 0, 1) := by decide +kernel
theorem dX6_ones_1 : decode cX6_ones 1 = .ok (.istore_n 1, 1) := by decide +kernel
theorem dX6_ones_2 : decode cX6_ones 2 = .ok (.iload_n 0, 1) := by decide +kernel
theorem dX6_ones_3 : decode cX6_ones 3 = .ok (.istore_n 2, 1) := by decide +kernel
theorem dX6_ones_4 : decode cX6_ones 4 = .ok (.iload_n 2, 1) := by decide +kernel
theorem dX6_ones_5 : decode cX6_ones 5 = .ok (.ifCond .eq 15, 3) := by decide +kernel
theorem dX6_ones_8 : decode cX6_ones 8 = .ok (.iinc 1 1, 3) := by decide +kernel
theorem dX6_ones_11 : decode cX6_ones 11 = .ok (.iload_n 2, 1) := by decide +kernel
theorem dX6_ones_12 : decode cX6_ones 12 = .ok (.iload_n 2, 1) := by decide +kernel
theorem dX6_ones_13 : decode cX6_ones 13 = .ok (.iconst 1, 1) := by decide +kernel
theorem dX6_ones_14 : decode cX6_ones 14 = .ok (.isub, 1) := by decide +kernel
theorem dX6_ones_15 : decode cX6_ones 15 = .ok (.iand, 1) := by decide +kernel
theorem dX6_ones_16 : decode cX6_ones 16 = .ok (.istore_n 2, 1) := by decide +kernel
theorem dX6_ones_17 : decode cX6_ones 17 = .ok (.goto (-13), 3) := by decide +kernel
theorem dX6_ones_20 : decode cX6_ones 20 = .ok (.iload_n 1, 1) := by decide +kernel
theorem dX6_ones_21 : decode cX6_ones 21 = .ok (.ireturn, 1) := by decide +kernel
theorem dX6_type_0 : decode cX6_type 0 = .ok (.aload_n 0, 1) := by decide +kernel
theorem dX6_type_1 : decode cX6_type 1 = .ok (.iconst 0, 1) := by decide +kernel
theorem dX6_type_2 : decode cX6_type 2 = .ok (.putfield 93, 3) := by decide +kernel
theorem dX6_type_5 : decode cX6_type 5 = .ok (.iload_n 1, 1) := by decide +kernel
theorem dX6_type_6 : decode cX6_type 6 = .ok (.iconst 0, 1) := by decide +kernel
theorem dX6_type_7 : decode cX6_type 7 = .ok (.sipush 255, 3) := by decide +kernel
theorem dX6_type_10 : decode cX6_type 10 = .ok (.invokestatic 97, 3) := by decide +kernel
theorem dX6_type_13 : decode cX6_type 13 = .ok (.ifCond .ne 5, 3) := by decide +kernel
theorem dX6_type_16 : decode cX6_type 16 = .ok (.iconst (-1), 1) := by decide +kernel
theorem dX6_type_17 : decode cX6_type 17 = .ok (.ireturn, 1) := by decide +kernel
theorem dX6_type_18 : decode cX6_type 18 = .ok (.aload_n 0, 1) := by decide +kernel
theorem dX6_type_19 : decode cX6_type 19 = .ok (.getfield 101, 3) := by decide +kernel
theorem dX6_type_22 : decode cX6_type 22 = .ok (.bipush 100, 2) := by decide +kernel
theorem dX6_type_24 : decode cX6_type 24 = .ok (.if_icmp .ne 6, 3) := by decide +kernel
theorem dX6_type_27 : decode cX6_type 27 = .ok (.bipush (-3), 2) := by decide +kernel
theorem dX6_type_29 : decode cX6_type 29 = .ok (.ireturn, 1) := by decide +kernel
theorem dX6_type_30 : decode cX6_type 30 = .ok (.aload_n 0, 1) := by decide +kernel
theorem dX6_type_31 : decode cX6_type 31 = .ok (.getfield 7, 3) := by decide +kernel
theorem dX6_type_34 : decode cX6_type 34 = .ok (.aload_n 0, 1) := by decide +kernel
theorem dX6_type_35 : decode cX6_type 35 = .ok (.getfield 101, 3) := by decide +kernel
theorem dX6_type_38 : decode cX6_type 38 = .ok (.iload_n 1, 1) := by decide +kernel
theorem dX6_type_39 : decode cX6_type 39 = .ok (.iastore, 1) := by decide +kernel
theorem dX6_type_40 : decode cX6_type 40 = .ok (.aload_n 0, 1) := by decide +kernel
theorem dX6_type_41 : decode cX6_type 41 = .ok (.dup, 1) := by decide +kernel
theorem dX6_type_42 : decode cX6_type 42 = .ok (.getfield 101, 3) := by decide +kernel
theorem dX6_type_45 : decode cX6_type 45 = .ok (.iconst 1, 1) := by decide +kernel
theorem dX6_type_46 : decode cX6_type 46 = .ok (.iadd, 1) := by decide +kernel
theorem dX6_type_47 : decode cX6_type 47 = .ok (.putfield 101, 3) := by decide +kernel
theorem dX6_type_50 : decode cX6_type 50 = .ok (.aload_n 0, 1) := by decide +kernel
theorem dX6_type_51 : decode cX6_type 51 = .ok (.getfield 101, 3) := by decide +kernel
theorem dX6_type_54 : decode cX6_type 54 = .ok (.ireturn, 1) := by decide +kernel
theorem dX6_clear_0 : decode cX6_clear 0 = .ok (.aload_n 0, 1) := by decide +kernel
theorem dX6_clear_1 : decode cX6_clear 1 = .ok (.iconst 0, 1) := by decide +kernel
theorem dX6_clear_2 : decode cX6_clear 2 = .ok (.putfield 93, 3) := by decide +kernel
theorem dX6_clear_5 : decode cX6_clear 5 = .ok (.aload_n 0, 1) := by decide +kernel
theorem dX6_clear_6 : decode cX6_clear 6 = .ok (.getfield 101, 3) := by decide +kernel
theorem dX6_clear_9 : decode cX6_clear 9 = .ok (.istore_n 1, 1) := by decide +kernel
theorem dX6_clear_10 : decode cX6_clear 10 = .ok (.aload_n 0, 1) := by decide +kernel
theorem dX6_clear_11 : decode cX6_clear 11 = .ok (.iconst 0, 1) := by decide +kernel
theorem dX6_clear_12 : decode cX6_clear 12 = .ok (.putfield 101, 3) := by decide +kernel
theorem dX6_clear_15 : decode cX6_clear 15 = .ok (.iload_n 1, 1) := by decide +kernel
theorem dX6_clear_16 : decode cX6_clear 16 = .ok (.ireturn, 1) := by decide +kernel
theorem dX6_letterAt_0 : decode cX6_letterAt 0 = .ok (.iload_n 1, 1) := by decide +kernel
theorem dX6_letterAt_1 : decode cX6_letterAt 1 = .ok (.aload_n 0, 1) := by decide +kernel
theorem dX6_letterAt_2 : decode cX6_letterAt 2 = .ok (.getfield 101, 3) := by decide +kernel
theorem dX6_letterAt_5 : decode cX6_letterAt 5 = .ok (.if_icmp .ge 12, 3) := by decide +kernel
theorem dX6_letterAt_8 : decode cX6_letterAt 8 = .ok (.aload_n 0, 1) := by decide +kernel
theorem dX6_letterAt_9 : decode cX6_letterAt 9 = .ok (.getfield 7, 3) := by decide +kernel
theorem dX6_letterAt_12 : decode cX6_letterAt 12 = .ok (.iload_n 1, 1) := by decide +kernel
theorem dX6_letterAt_13 : decode cX6_letterAt 13 = .ok (.iaload, 1) := by decide +kernel
theorem dX6_letterAt_14 : decode cX6_letterAt 14 = .ok (.goto 4, 3) := by decide +kernel
theorem dX6_letterAt_17 : decode cX6_letterAt 17 = .ok (.iconst (-1), 1) := by decide +kernel
theorem dX6_letterAt_18 : decode cX6_letterAt 18 = .ok (.ireturn, 1) := by decide +kernel
theorem dX6_isSign_0 : decode cX6_isSign 0 = .ok (.iload_n 0, 1) := by decide +kernel
theorem dX6_isSign_1 : decode cX6_isSign 1 = .ok (.bipush 83, 2) := by decide +kernel
theorem dX6_isSign_3 : decode cX6_isSign 3 = .ok (.if_icmp .eq 74, 3) := by decide +kernel
theorem dX6_isSign_6 : decode cX6_isSign 6 = .ok (.iload_n 0, 1) := by decide +kernel
theorem dX6_isSign_7 : decode cX6_isSign 7 = .ok (.bipush 67, 2) := by decide +kernel
theorem dX6_isSign_9 : decode cX6_isSign 9 = .ok (.if_icmp .eq 68, 3) := by decide +kernel
theorem dX6_isSign_12 : decode cX6_isSign 12 = .ok (.iload_n 0, 1) := by decide +kernel
theorem dX6_isSign_13 : decode cX6_isSign 13 = .ok (.bipush 70, 2) := by decide +kernel
theorem dX6_isSign_15 : decode cX6_isSign 15 = .ok (.if_icmp .eq 62, 3) := by decide +kernel
theorem dX6_isSign_18 : decode cX6_isSign 18 = .ok (.iload_n 0, 1) := by decide +kernel
theorem dX6_isSign_19 : decode cX6_isSign 19 = .ok (.bipush 97, 2) := by decide +kernel
theorem dX6_isSign_21 : decode cX6_isSign 21 = .ok (.bipush 102, 2) := by decide +kernel
theorem dX6_isSign_23 : decode cX6_isSign 23 = .ok (.invokestatic 97, 3) := by decide +kernel
theorem dX6_isSign_26 : decode cX6_isSign 26 = .ok (.ifCond .ne 51, 3) := by decide +kernel
theorem dX6_isSign_29 : decode cX6_isSign 29 = .ok (.iload_n 0, 1) := by decide +kernel
theorem dX6_isSign_30 : decode cX6_isSign 30 = .ok (.bipush 43, 2) := by decide +kernel
theorem dX6_isSign_32 : decode cX6_isSign 32 = .ok (.if_icmp .eq 45, 3) := by decide +kernel
theorem dX6_isSign_35 : decode cX6_isSign 35 = .ok (.iload_n 0, 1) := by decide +kernel
theorem dX6_isSign_36 : decode cX6_isSign 36 = .ok (.bipush 45, 2) := by decide +kernel
theorem dX6_isSign_38 : decode cX6_isSign 38 = .ok (.if_icmp .eq 39, 3) := by decide +kernel
theorem dX6_isSign_41 : decode cX6_isSign 41 = .ok (.iload_n 0, 1) := by decide +kernel
theorem dX6_isSign_42 : decode cX6_isSign 42 = .ok (.bipush 42, 2) := by decide +kernel
theorem dX6_isSign_44 : decode cX6_isSign 44 = .ok (.if_icmp .eq 33, 3) := by decide +kernel
theorem dX6_isSign_47 : decode cX6_isSign 47 = .ok (.iload_n 0, 1) := by decide +kernel
theorem dX6_isSign_48 : decode cX6_isSign 48 = .ok (.bipush 94, 2) := by decide +kernel
theorem dX6_isSign_50 : decode cX6_isSign 50 = .ok (.if_icmp .eq 27, 3) := by decide +kernel
theorem dX6_isSign_53 : decode cX6_isSign 53 = .ok (.iload_n 0, 1) := by decide +kernel
theorem dX6_isSign_54 : decode cX6_isSign 54 = .ok (.bipush 40, 2) := by decide +kernel
theorem dX6_isSign_56 : decode cX6_isSign 56 = .ok (.if_icmp .eq 21, 3) := by decide +kernel
theorem dX6_isSign_59 : decode cX6_isSign 59 = .ok (.iload_n 0, 1) := by decide +kernel
theorem dX6_isSign_60 : decode cX6_isSign 60 = .ok (.bipush 41, 2) := by decide +kernel
theorem dX6_isSign_62 : decode cX6_isSign 62 = .ok (.if_icmp .eq 15, 3) := by decide +kernel
theorem dX6_isSign_65 : decode cX6_isSign 65 = .ok (.iload_n 0, 1) := by decide +kernel
theorem dX6_isSign_66 : decode cX6_isSign 66 = .ok (.bipush 64, 2) := by decide +kernel
theorem dX6_isSign_68 : decode cX6_isSign 68 = .ok (.if_icmp .eq 9, 3) := by decide +kernel
theorem dX6_isSign_71 : decode cX6_isSign 71 = .ok (.iload_n 0, 1) := by decide +kernel
theorem dX6_isSign_72 : decode cX6_isSign 72 = .ok (.bipush 59, 2) := by decide +kernel
theorem dX6_isSign_74 : decode cX6_isSign 74 = .ok (.if_icmp .ne 7, 3) := by decide +kernel
theorem dX6_isSign_77 : decode cX6_isSign 77 = .ok (.iconst 1, 1) := by decide +kernel
theorem dX6_isSign_78 : decode cX6_isSign 78 = .ok (.goto 4, 3) := by decide +kernel
theorem dX6_isSign_81 : decode cX6_isSign 81 = .ok (.iconst 0, 1) := by decide +kernel
theorem dX6_isSign_82 : decode cX6_isSign 82 = .ok (.ireturn, 1) := by decide +kernel
theorem dX6_advances_0 : decode cX6_advances 0 = .ok (.aload_n 0, 1) := by decide +kernel
theorem dX6_advances_1 : decode cX6_advances 1 = .ok (.aload_n 0, 1) := by decide +kernel
theorem dX6_advances_2 : decode cX6_advances 2 = .ok (.getfield 104, 3) := by decide +kernel
theorem dX6_advances_5 : decode cX6_advances 5 = .ok (.invokevirtual 107, 3) := by decide +kernel
theorem dX6_advances_8 : decode cX6_advances 8 = .ok (.bipush 32, 2) := by decide +kernel
theorem dX6_advances_10 : decode cX6_advances 10 = .ok (.if_icmp .ne 16, 3) := by decide +kernel
theorem dX6_advances_13 : decode cX6_advances 13 = .ok (.aload_n 0, 1) := by decide +kernel
theorem dX6_advances_14 : decode cX6_advances 14 = .ok (.dup, 1) := by decide +kernel
theorem dX6_advances_15 : decode cX6_advances 15 = .ok (.getfield 104, 3) := by decide +kernel
theorem dX6_advances_18 : decode cX6_advances 18 = .ok (.iconst 1, 1) := by decide +kernel
theorem dX6_advances_19 : decode cX6_advances 19 = .ok (.iadd, 1) := by decide +kernel
theorem dX6_advances_20 : decode cX6_advances 20 = .ok (.putfield 104, 3) := by decide +kernel
theorem dX6_advances_23 : decode cX6_advances 23 = .ok (.goto (-23), 3) := by decide +kernel
theorem dX6_advances_26 : decode cX6_advances 26 = .ok (.aload_n 0, 1) := by decide +kernel
theorem dX6_advances_27 : decode cX6_advances 27 = .ok (.aload_n 0, 1) := by decide +kernel
theorem dX6_advances_28 : decode cX6_advances 28 = .ok (.getfield 104, 3) := by decide +kernel
theorem dX6_advances_31 : decode cX6_advances 31 = .ok (.putfield 111, 3) := by decide +kernel
theorem dX6_advances_34 : decode cX6_advances 34 = .ok (.aload_n 0, 1) := by decide +kernel
theorem dX6_advances_35 : decode cX6_advances 35 = .ok (.aload_n 0, 1) := by decide +kernel
theorem dX6_advances_36 : decode cX6_advances 36 = .ok (.getfield 104, 3) := by decide +kernel
theorem dX6_advances_39 : decode cX6_advances 39 = .ok (.invokevirtual 107, 3) := by decide +kernel
theorem dX6_advances_42 : decode cX6_advances 42 = .ok (.istore_n 1, 1) := by decide +kernel
theorem dX6_advances_43 : decode cX6_advances 43 = .ok (.iload_n 1, 1) := by decide +kernel
theorem dX6_advances_44 : decode cX6_advances 44 = .ok (.ifCond .ge 11, 3) := by decide +kernel
theorem dX6_advances_47 : decode cX6_advances 47 = .ok (.aload_n 0, 1) := by decide +kernel
theorem dX6_advances_48 : decode cX6_advances 48 = .ok (.iconst 0, 1) := by decide +kernel
theorem dX6_advances_49 : decode cX6_advances 49 = .ok (.putfield 114, 3) := by decide +kernel
theorem dX6_advances_52 : decode cX6_advances 52 = .ok (.goto 160, 3) := by decide +kernel
theorem dX6_advances_55 : decode cX6_advances 55 = .ok (.iload_n 1, 1) := by decide +kernel
theorem dX6_advances_56 : decode cX6_advances 56 = .ok (.bipush 48, 2) := by decide +kernel
theorem dX6_advances_58 : decode cX6_advances 58 = .ok (.bipush 57, 2) := by decide +kernel
theorem dX6_advances_60 : decode cX6_advances 60 = .ok (.invokestatic 97, 3) := by decide +kernel
theorem dX6_advances_63 : decode cX6_advances 63 = .ok (.ifCond .eq 118, 3) := by decide +kernel
theorem dX6_advances_66 : decode cX6_advances 66 = .ok (.aload_n 0, 1) := by decide +kernel
theorem dX6_advances_67 : decode cX6_advances 67 = .ok (.iconst 0, 1) := by decide +kernel
theorem dX6_advances_68 : decode cX6_advances 68 = .ok (.putfield 117, 3) := by decide +kernel
theorem dX6_advances_71 : decode cX6_advances 71 = .ok (.aload_n 0, 1) := by decide +kernel
theorem dX6_advances_72 : decode cX6_advances 72 = .ok (.aload_n 0, 1) := by decide +kernel
theorem dX6_advances_73 : decode cX6_advances 73 = .ok (.getfield 104, 3) := by decide +kernel
theorem dX6_advances_76 : decode cX6_advances 76 = .ok (.invokevirtual 107, 3) := by decide +kernel
theorem dX6_advances_79 : decode cX6_advances 79 = .ok (.bipush 48, 2) := by decide +kernel
theorem dX6_advances_81 : decode cX6_advances 81 = .ok (.bipush 57, 2) := by decide +kernel
theorem dX6_advances_83 : decode cX6_advances 83 = .ok (.invokestatic 97, 3) := by decide +kernel
theorem dX6_advances_86 : decode cX6_advances 86 = .ok (.ifCond .eq 55, 3) := by decide +kernel
theorem dX6_advances_89 : decode cX6_advances 89 = .ok (.aload_n 0, 1) := by decide +kernel
theorem dX6_advances_90 : decode cX6_advances 90 = .ok (.aload_n 0, 1) := by decide +kernel
theorem dX6_advances_91 : decode cX6_advances 91 = .ok (.getfield 117, 3) := by decide +kernel
theorem dX6_advances_94 : decode cX6_advances 94 = .ok (.bipush 99, 2) := by decide +kernel
theorem dX6_advances_96 : decode cX6_advances 96 = .ok (.if_icmp .le 10, 3) := by decide +kernel
theorem dX6_advances_99 : decode cX6_advances 99 = .ok (.aload_n 0, 1) := by decide +kernel
theorem dX6_advances_100 : decode cX6_advances 100 = .ok (.getfield 117, 3) := by decide +kernel
theorem dX6_advances_103 : decode cX6_advances 103 = .ok (.goto 22, 3) := by decide +kernel
theorem dX6_advances_106 : decode cX6_advances 106 = .ok (.bipush 10, 2) := by decide +kernel
theorem dX6_advances_108 : decode cX6_advances 108 = .ok (.aload_n 0, 1) := by decide +kernel
theorem dX6_advances_109 : decode cX6_advances 109 = .ok (.getfield 117, 3) := by decide +kernel
theorem dX6_advances_112 : decode cX6_advances 112 = .ok (.imul, 1) := by decide +kernel
theorem dX6_advances_113 : decode cX6_advances 113 = .ok (.aload_n 0, 1) := by decide +kernel
theorem dX6_advances_114 : decode cX6_advances 114 = .ok (.aload_n 0, 1) := by decide +kernel
theorem dX6_advances_115 : decode cX6_advances 115 = .ok (.getfield 104, 3) := by decide +kernel
theorem dX6_advances_118 : decode cX6_advances 118 = .ok (.invokevirtual 107, 3) := by decide +kernel
theorem dX6_advances_121 : decode cX6_advances 121 = .ok (.iadd, 1) := by decide +kernel
theorem dX6_advances_122 : decode cX6_advances 122 = .ok (.bipush 48, 2) := by decide +kernel
theorem dX6_advances_124 : decode cX6_advances 124 = .ok (.isub, 1) := by decide +kernel
theorem dX6_advances_125 : decode cX6_advances 125 = .ok (.putfield 117, 3) := by decide +kernel
theorem dX6_advances_128 : decode cX6_advances 128 = .ok (.aload_n 0, 1) := by decide +kernel
theorem dX6_advances_129 : decode cX6_advances 129 = .ok (.dup, 1) := by decide +kernel
theorem dX6_advances_130 : decode cX6_advances 130 = .ok (.getfield 104, 3) := by decide +kernel
theorem dX6_advances_133 : decode cX6_advances 133 = .ok (.iconst 1, 1) := by decide +kernel
theorem dX6_advances_134 : decode cX6_advances 134 = .ok (.iadd, 1) := by decide +kernel
theorem dX6_advances_135 : decode cX6_advances 135 = .ok (.putfield 104, 3) := by decide +kernel
theorem dX6_advances_138 : decode cX6_advances 138 = .ok (.goto (-67), 3) := by decide +kernel
theorem dX6_advances_141 : decode cX6_advances 141 = .ok (.aload_n 0, 1) := by decide +kernel
theorem dX6_advances_142 : decode cX6_advances 142 = .ok (.aload_n 0, 1) := by decide +kernel
theorem dX6_advances_143 : decode cX6_advances 143 = .ok (.getfield 117, 3) := by decide +kernel
theorem dX6_advances_146 : decode cX6_advances 146 = .ok (.bipush 99, 2) := by decide +kernel
theorem dX6_advances_148 : decode cX6_advances 148 = .ok (.if_icmp .gt 22, 3) := by decide +kernel
theorem dX6_advances_151 : decode cX6_advances 151 = .ok (.iload_n 1, 1) := by decide +kernel
theorem dX6_advances_152 : decode cX6_advances 152 = .ok (.bipush 48, 2) := by decide +kernel
theorem dX6_advances_154 : decode cX6_advances 154 = .ok (.if_icmp .ne 20, 3) := by decide +kernel
theorem dX6_advances_157 : decode cX6_advances 157 = .ok (.aload_n 0, 1) := by decide +kernel
theorem dX6_advances_158 : decode cX6_advances 158 = .ok (.getfield 104, 3) := by decide +kernel
theorem dX6_advances_161 : decode cX6_advances 161 = .ok (.aload_n 0, 1) := by decide +kernel
theorem dX6_advances_162 : decode cX6_advances 162 = .ok (.getfield 111, 3) := by decide +kernel
theorem dX6_advances_165 : decode cX6_advances 165 = .ok (.isub, 1) := by decide +kernel
theorem dX6_advances_166 : decode cX6_advances 166 = .ok (.iconst 1, 1) := by decide +kernel
theorem dX6_advances_167 : decode cX6_advances 167 = .ok (.if_icmp .le 7, 3) := by decide +kernel
theorem dX6_advances_170 : decode cX6_advances 170 = .ok (.iconst 3, 1) := by decide +kernel
theorem dX6_advances_171 : decode cX6_advances 171 = .ok (.goto 4, 3) := by decide +kernel
theorem dX6_advances_174 : decode cX6_advances 174 = .ok (.iconst 2, 1) := by decide +kernel
theorem dX6_advances_175 : decode cX6_advances 175 = .ok (.putfield 114, 3) := by decide +kernel
theorem dX6_advances_178 : decode cX6_advances 178 = .ok (.goto 34, 3) := by decide +kernel
theorem dX6_advances_181 : decode cX6_advances 181 = .ok (.aload_n 0, 1) := by decide +kernel
theorem dX6_advances_182 : decode cX6_advances 182 = .ok (.dup, 1) := by decide +kernel
theorem dX6_advances_183 : decode cX6_advances 183 = .ok (.getfield 104, 3) := by decide +kernel
theorem dX6_advances_186 : decode cX6_advances 186 = .ok (.iconst 1, 1) := by decide +kernel
theorem dX6_advances_187 : decode cX6_advances 187 = .ok (.iadd, 1) := by decide +kernel
theorem dX6_advances_188 : decode cX6_advances 188 = .ok (.putfield 104, 3) := by decide +kernel
theorem dX6_advances_191 : decode cX6_advances 191 = .ok (.aload_n 0, 1) := by decide +kernel
theorem dX6_advances_192 : decode cX6_advances 192 = .ok (.iload_n 1, 1) := by decide +kernel
theorem dX6_advances_193 : decode cX6_advances 193 = .ok (.putfield 117, 3) := by decide +kernel
theorem dX6_advances_196 : decode cX6_advances 196 = .ok (.aload_n 0, 1) := by decide +kernel
theorem dX6_advances_197 : decode cX6_advances 197 = .ok (.iload_n 1, 1) := by decide +kernel
theorem dX6_advances_198 : decode cX6_advances 198 = .ok (.invokestatic 120, 3) := by decide +kernel
theorem dX6_advances_201 : decode cX6_advances 201 = .ok (.ifCond .eq 7, 3) := by decide +kernel
theorem dX6_advances_204 : decode cX6_advances 204 = .ok (.iconst 1, 1) := by decide +kernel
theorem dX6_advances_205 : decode cX6_advances 205 = .ok (.goto 4, 3) := by decide +kernel
theorem dX6_advances_208 : decode cX6_advances 208 = .ok (.iconst 3, 1) := by decide +kernel
theorem dX6_advances_209 : decode cX6_advances 209 = .ok (.putfield 114, 3) := by decide +kernel
theorem dX6_advances_212 : decode cX6_advances 212 = .ok (.return_, 1) := by decide +kernel
theorem dX6_isWell_0 : decode cX6_isWell 0 = .ok (.aload_n 0, 1) := by decide +kernel
theorem dX6_isWell_1 : decode cX6_isWell 1 = .ok (.getfield 124, 3) := by decide +kernel
theorem dX6_isWell_4 : decode cX6_isWell 4 = .ok (.ifCond .ge 7, 3) := by decide +kernel
theorem dX6_isWell_7 : decode cX6_isWell 7 = .ok (.iconst 1, 1) := by decide +kernel
theorem dX6_isWell_8 : decode cX6_isWell 8 = .ok (.goto 4, 3) := by decide +kernel
theorem dX6_isWell_11 : decode cX6_isWell 11 = .ok (.iconst 0, 1) := by decide +kernel
theorem dX6_isWell_12 : decode cX6_isWell 12 = .ok (.ireturn, 1) := by decide +kernel
theorem dX6_takes_0 : decode cX6_takes 0 = .ok (.aload_n 0, 1) := by decide +kernel
theorem dX6_takes_1 : decode cX6_takes 1 = .ok (.invokevirtual 127, 3) := by decide +kernel
theorem dX6_takes_4 : decode cX6_takes 4 = .ok (.ifCond .ne 5, 3) := by decide +kernel
theorem dX6_takes_7 : decode cX6_takes 7 = .ok (.iconst 0, 1) := by decide +kernel
theorem dX6_takes_8 : decode cX6_takes 8 = .ok (.ireturn, 1) := by decide +kernel
theorem dX6_takes_9 : decode cX6_takes 9 = .ok (.iload_n 1, 1) := by decide +kernel
theorem dX6_takes_10 : decode cX6_takes 10 = .ok (.ifCond .ne 13, 3) := by decide +kernel
theorem dX6_takes_13 : decode cX6_takes 13 = .ok (.aload_n 0, 1) := by decide +kernel
theorem dX6_takes_14 : decode cX6_takes 14 = .ok (.aload_n 0, 1) := by decide +kernel
theorem dX6_takes_15 : decode cX6_takes 15 = .ok (.getfield 111, 3) := by decide +kernel
theorem dX6_takes_18 : decode cX6_takes 18 = .ok (.putfield 124, 3) := by decide +kernel
theorem dX6_takes_21 : decode cX6_takes 21 = .ok (.iconst 0, 1) := by decide +kernel
theorem dX6_takes_22 : decode cX6_takes 22 = .ok (.ireturn, 1) := by decide +kernel
theorem dX6_takes_23 : decode cX6_takes 23 = .ok (.aload_n 0, 1) := by decide +kernel
theorem dX6_takes_24 : decode cX6_takes 24 = .ok (.getfield 117, 3) := by decide +kernel
theorem dX6_takes_27 : decode cX6_takes 27 = .ok (.istore_n 2, 1) := by decide +kernel
theorem dX6_takes_28 : decode cX6_takes 28 = .ok (.aload_n 0, 1) := by decide +kernel
theorem dX6_takes_29 : decode cX6_takes 29 = .ok (.invokevirtual 131, 3) := by decide +kernel
theorem dX6_takes_32 : decode cX6_takes 32 = .ok (.iload_n 2, 1) := by decide +kernel
theorem dX6_takes_33 : decode cX6_takes 33 = .ok (.ireturn, 1) := by decide +kernel
theorem dX6_isThis_0 : decode cX6_isThis 0 = .ok (.aload_n 0, 1) := by decide +kernel
theorem dX6_isThis_1 : decode cX6_isThis 1 = .ok (.invokevirtual 127, 3) := by decide +kernel
theorem dX6_isThis_4 : decode cX6_isThis 4 = .ok (.ifCond .eq 23, 3) := by decide +kernel
theorem dX6_isThis_7 : decode cX6_isThis 7 = .ok (.aload_n 0, 1) := by decide +kernel
theorem dX6_isThis_8 : decode cX6_isThis 8 = .ok (.getfield 114, 3) := by decide +kernel
theorem dX6_isThis_11 : decode cX6_isThis 11 = .ok (.iconst 1, 1) := by decide +kernel
theorem dX6_isThis_12 : decode cX6_isThis 12 = .ok (.if_icmp .ne 15, 3) := by decide +kernel
theorem dX6_isThis_15 : decode cX6_isThis 15 = .ok (.aload_n 0, 1) := by decide +kernel
theorem dX6_isThis_16 : decode cX6_isThis 16 = .ok (.getfield 117, 3) := by decide +kernel
theorem dX6_isThis_19 : decode cX6_isThis 19 = .ok (.iload_n 1, 1) := by decide +kernel
theorem dX6_isThis_20 : decode cX6_isThis 20 = .ok (.if_icmp .ne 7, 3) := by decide +kernel
theorem dX6_isThis_23 : decode cX6_isThis 23 = .ok (.iconst 1, 1) := by decide +kernel
theorem dX6_isThis_24 : decode cX6_isThis 24 = .ok (.goto 4, 3) := by decide +kernel
theorem dX6_isThis_27 : decode cX6_isThis 27 = .ok (.iconst 0, 1) := by decide +kernel
theorem dX6_isThis_28 : decode cX6_isThis 28 = .ok (.ireturn, 1) := by decide +kernel
theorem dX6_isSourceSign_0 : decode cX6_isSourceSign 0 = .ok (.aload_n 0, 1) := by decide +kernel
theorem dX6_isSourceSign_1 : decode cX6_isSourceSign 1 = .ok (.invokevirtual 127, 3) := by decide +kernel
theorem dX6_isSourceSign_4 : decode cX6_isSourceSign 4 = .ok (.ifCond .eq 29, 3) := by decide +kernel
theorem dX6_isSourceSign_7 : decode cX6_isSourceSign 7 = .ok (.aload_n 0, 1) := by decide +kernel
theorem dX6_isSourceSign_8 : decode cX6_isSourceSign 8 = .ok (.getfield 114, 3) := by decide +kernel
theorem dX6_isSourceSign_11 : decode cX6_isSourceSign 11 = .ok (.iconst 1, 1) := by decide +kernel
theorem dX6_isSourceSign_12 : decode cX6_isSourceSign 12 = .ok (.if_icmp .ne 21, 3) := by decide +kernel
theorem dX6_isSourceSign_15 : decode cX6_isSourceSign 15 = .ok (.aload_n 0, 1) := by decide +kernel
theorem dX6_isSourceSign_16 : decode cX6_isSourceSign 16 = .ok (.getfield 117, 3) := by decide +kernel
theorem dX6_isSourceSign_19 : decode cX6_isSourceSign 19 = .ok (.bipush 97, 2) := by decide +kernel
theorem dX6_isSourceSign_21 : decode cX6_isSourceSign 21 = .ok (.bipush 102, 2) := by decide +kernel
theorem dX6_isSourceSign_23 : decode cX6_isSourceSign 23 = .ok (.invokestatic 97, 3) := by decide +kernel
theorem dX6_isSourceSign_26 : decode cX6_isSourceSign 26 = .ok (.ifCond .eq 7, 3) := by decide +kernel
theorem dX6_isSourceSign_29 : decode cX6_isSourceSign 29 = .ok (.iconst 1, 1) := by decide +kernel
theorem dX6_isSourceSign_30 : decode cX6_isSourceSign 30 = .ok (.goto 4, 3) := by decide +kernel
theorem dX6_isSourceSign_33 : decode cX6_isSourceSign 33 = .ok (.iconst 0, 1) := by decide +kernel
theorem dX6_isSourceSign_34 : decode cX6_isSourceSign 34 = .ok (.ireturn, 1) := by decide +kernel
theorem dX6_isNumber_0 : decode cX6_isNumber 0 = .ok (.aload_n 0, 1) := by decide +kernel
theorem dX6_isNumber_1 : decode cX6_isNumber 1 = .ok (.invokevirtual 127, 3) := by decide +kernel
theorem dX6_isNumber_4 : decode cX6_isNumber 4 = .ok (.ifCond .eq 27, 3) := by decide +kernel
theorem dX6_isNumber_7 : decode cX6_isNumber 7 = .ok (.aload_n 0, 1) := by decide +kernel
theorem dX6_isNumber_8 : decode cX6_isNumber 8 = .ok (.getfield 114, 3) := by decide +kernel
theorem dX6_isNumber_11 : decode cX6_isNumber 11 = .ok (.iconst 2, 1) := by decide +kernel
theorem dX6_isNumber_12 : decode cX6_isNumber 12 = .ok (.if_icmp .ne 19, 3) := by decide +kernel
theorem dX6_isNumber_15 : decode cX6_isNumber 15 = .ok (.aload_n 0, 1) := by decide +kernel
theorem dX6_isNumber_16 : decode cX6_isNumber 16 = .ok (.getfield 117, 3) := by decide +kernel
theorem dX6_isNumber_19 : decode cX6_isNumber 19 = .ok (.iload_n 1, 1) := by decide +kernel
theorem dX6_isNumber_20 : decode cX6_isNumber 20 = .ok (.iload_n 2, 1) := by decide +kernel
theorem dX6_isNumber_21 : decode cX6_isNumber 21 = .ok (.invokestatic 97, 3) := by decide +kernel
theorem dX6_isNumber_24 : decode cX6_isNumber 24 = .ok (.ifCond .eq 7, 3) := by decide +kernel
theorem dX6_isNumber_27 : decode cX6_isNumber 27 = .ok (.iconst 1, 1) := by decide +kernel
theorem dX6_isNumber_28 : decode cX6_isNumber 28 = .ok (.goto 4, 3) := by decide +kernel
theorem dX6_isNumber_31 : decode cX6_isNumber 31 = .ok (.iconst 0, 1) := by decide +kernel
theorem dX6_isNumber_32 : decode cX6_isNumber 32 = .ok (.ireturn, 1) := by decide +kernel
theorem dX6_signed_0 : decode cX6_signed 0 = .ok (.aload_n 0, 1) := by decide +kernel
theorem dX6_signed_1 : decode cX6_signed 1 = .ok (.bipush 45, 2) := by decide +kernel
theorem dX6_signed_3 : decode cX6_signed 3 = .ok (.invokevirtual 134, 3) := by decide +kernel
theorem dX6_signed_6 : decode cX6_signed 6 = .ok (.istore_n 1, 1) := by decide +kernel
theorem dX6_signed_7 : decode cX6_signed 7 = .ok (.iload_n 1, 1) := by decide +kernel
theorem dX6_signed_8 : decode cX6_signed 8 = .ok (.ifCond .eq 9, 3) := by decide +kernel
theorem dX6_signed_11 : decode cX6_signed 11 = .ok (.aload_n 0, 1) := by decide +kernel
theorem dX6_signed_12 : decode cX6_signed 12 = .ok (.iconst 1, 1) := by decide +kernel
theorem dX6_signed_13 : decode cX6_signed 13 = .ok (.invokevirtual 137, 3) := by decide +kernel
theorem dX6_signed_16 : decode cX6_signed 16 = .ok (.pop, 1) := by decide +kernel
theorem dX6_signed_17 : decode cX6_signed 17 = .ok (.aload_n 0, 1) := by decide +kernel
theorem dX6_signed_18 : decode cX6_signed 18 = .ok (.aload_n 0, 1) := by decide +kernel
theorem dX6_signed_19 : decode cX6_signed 19 = .ok (.iconst 0, 1) := by decide +kernel
theorem dX6_signed_20 : decode cX6_signed 20 = .ok (.bipush 99, 2) := by decide +kernel
theorem dX6_signed_22 : decode cX6_signed 22 = .ok (.invokevirtual 141, 3) := by decide +kernel
theorem dX6_signed_25 : decode cX6_signed 25 = .ok (.invokevirtual 137, 3) := by decide +kernel
theorem dX6_signed_28 : decode cX6_signed 28 = .ok (.istore_n 2, 1) := by decide +kernel
theorem dX6_signed_29 : decode cX6_signed 29 = .ok (.iload_n 1, 1) := by decide +kernel
theorem dX6_signed_30 : decode cX6_signed 30 = .ok (.ifCond .eq 8, 3) := by decide +kernel
theorem dX6_signed_33 : decode cX6_signed 33 = .ok (.iload_n 2, 1) := by decide +kernel
theorem dX6_signed_34 : decode cX6_signed 34 = .ok (.ineg, 1) := by decide +kernel
theorem dX6_signed_35 : decode cX6_signed 35 = .ok (.goto 4, 3) := by decide +kernel
theorem dX6_signed_38 : decode cX6_signed 38 = .ok (.iload_n 2, 1) := by decide +kernel
theorem dX6_signed_39 : decode cX6_signed 39 = .ok (.ireturn, 1) := by decide +kernel
theorem dX6_begins_0 : decode cX6_begins 0 = .ok (.iconst 0, 1) := by decide +kernel
theorem dX6_begins_1 : decode cX6_begins 1 = .ok (.istore_n 1, 1) := by decide +kernel
theorem dX6_begins_2 : decode cX6_begins 2 = .ok (.iload_n 1, 1) := by decide +kernel
theorem dX6_begins_3 : decode cX6_begins 3 = .ok (.bipush 48, 2) := by decide +kernel
theorem dX6_begins_5 : decode cX6_begins 5 = .ok (.if_icmp .ge 16, 3) := by decide +kernel
theorem dX6_begins_8 : decode cX6_begins 8 = .ok (.aload_n 0, 1) := by decide +kernel
theorem dX6_begins_9 : decode cX6_begins 9 = .ok (.getfield 43, 3) := by decide +kernel
theorem dX6_begins_12 : decode cX6_begins 12 = .ok (.iload_n 1, 1) := by decide +kernel
theorem dX6_begins_13 : decode cX6_begins 13 = .ok (.iconst 0, 1) := by decide +kernel
theorem dX6_begins_14 : decode cX6_begins 14 = .ok (.iastore, 1) := by decide +kernel
theorem dX6_begins_15 : decode cX6_begins 15 = .ok (.iinc 1 1, 3) := by decide +kernel
theorem dX6_begins_18 : decode cX6_begins 18 = .ok (.goto (-16), 3) := by decide +kernel
theorem dX6_begins_21 : decode cX6_begins 21 = .ok (.aload_n 0, 1) := by decide +kernel
theorem dX6_begins_22 : decode cX6_begins 22 = .ok (.iconst 0, 1) := by decide +kernel
theorem dX6_begins_23 : decode cX6_begins 23 = .ok (.putfield 145, 3) := by decide +kernel
theorem dX6_begins_26 : decode cX6_begins 26 = .ok (.return_, 1) := by decide +kernel
theorem dX6_counts_0 : decode cX6_counts 0 = .ok (.aload_n 0, 1) := by decide +kernel
theorem dX6_counts_1 : decode cX6_counts 1 = .ok (.dup, 1) := by decide +kernel
theorem dX6_counts_2 : decode cX6_counts 2 = .ok (.getfield 148, 3) := by decide +kernel
theorem dX6_counts_5 : decode cX6_counts 5 = .ok (.iconst 1, 1) := by decide +kernel
theorem dX6_counts_6 : decode cX6_counts 6 = .ok (.iadd, 1) := by decide +kernel
theorem dX6_counts_7 : decode cX6_counts 7 = .ok (.putfield 148, 3) := by decide +kernel
theorem dX6_counts_10 : decode cX6_counts 10 = .ok (.aload_n 0, 1) := by decide +kernel
theorem dX6_counts_11 : decode cX6_counts 11 = .ok (.getfield 148, 3) := by decide +kernel
theorem dX6_counts_14 : decode cX6_counts 14 = .ok (.bipush 20, 2) := by decide +kernel
theorem dX6_counts_16 : decode cX6_counts 16 = .ok (.if_icmp .gt 7, 3) := by decide +kernel
theorem dX6_counts_19 : decode cX6_counts 19 = .ok (.iconst 1, 1) := by decide +kernel
theorem dX6_counts_20 : decode cX6_counts 20 = .ok (.goto 4, 3) := by decide +kernel
theorem dX6_counts_23 : decode cX6_counts 23 = .ok (.iconst 0, 1) := by decide +kernel
theorem dX6_counts_24 : decode cX6_counts 24 = .ok (.ireturn, 1) := by decide +kernel
theorem dX6_makes_0 : decode cX6_makes 0 = .ok (.aload_n 0, 1) := by decide +kernel
theorem dX6_makes_1 : decode cX6_makes 1 = .ok (.getfield 145, 3) := by decide +kernel
theorem dX6_makes_4 : decode cX6_makes 4 = .ok (.istore 5, 2) := by decide +kernel
theorem dX6_makes_6 : decode cX6_makes 6 = .ok (.bipush 20, 2) := by decide +kernel
theorem dX6_makes_8 : decode cX6_makes 8 = .ok (.iload 5, 2) := by decide +kernel
theorem dX6_makes_10 : decode cX6_makes 10 = .ok (.imul, 1) := by decide +kernel
theorem dX6_makes_11 : decode cX6_makes 11 = .ok (.aload_n 0, 1) := by decide +kernel
theorem dX6_makes_12 : decode cX6_makes 12 = .ok (.getfield 28, 3) := by decide +kernel
theorem dX6_makes_15 : decode cX6_makes 15 = .ok (.iload 5, 2) := by decide +kernel
theorem dX6_makes_17 : decode cX6_makes 17 = .ok (.iaload, 1) := by decide +kernel
theorem dX6_makes_18 : decode cX6_makes 18 = .ok (.iadd, 1) := by decide +kernel
theorem dX6_makes_19 : decode cX6_makes 19 = .ok (.istore 6, 2) := by decide +kernel
theorem dX6_makes_21 : decode cX6_makes 21 = .ok (.aload_n 0, 1) := by decide +kernel
theorem dX6_makes_22 : decode cX6_makes 22 = .ok (.getfield 31, 3) := by decide +kernel
theorem dX6_makes_25 : decode cX6_makes 25 = .ok (.iload 6, 2) := by decide +kernel
theorem dX6_makes_27 : decode cX6_makes 27 = .ok (.iload_n 1, 1) := by decide +kernel
theorem dX6_makes_28 : decode cX6_makes 28 = .ok (.iastore, 1) := by decide +kernel
theorem dX6_makes_29 : decode cX6_makes 29 = .ok (.aload_n 0, 1) := by decide +kernel
theorem dX6_makes_30 : decode cX6_makes 30 = .ok (.getfield 34, 3) := by decide +kernel
theorem dX6_makes_33 : decode cX6_makes 33 = .ok (.iload 6, 2) := by decide +kernel
theorem dX6_makes_35 : decode cX6_makes 35 = .ok (.iload_n 2, 1) := by decide +kernel
theorem dX6_makes_36 : decode cX6_makes 36 = .ok (.iastore, 1) := by decide +kernel
theorem dX6_makes_37 : decode cX6_makes 37 = .ok (.aload_n 0, 1) := by decide +kernel
theorem dX6_makes_38 : decode cX6_makes 38 = .ok (.getfield 37, 3) := by decide +kernel
theorem dX6_makes_41 : decode cX6_makes 41 = .ok (.iload 6, 2) := by decide +kernel
theorem dX6_makes_43 : decode cX6_makes 43 = .ok (.iload_n 3, 1) := by decide +kernel
theorem dX6_makes_44 : decode cX6_makes 44 = .ok (.iastore, 1) := by decide +kernel
theorem dX6_makes_45 : decode cX6_makes 45 = .ok (.aload_n 0, 1) := by decide +kernel
theorem dX6_makes_46 : decode cX6_makes 46 = .ok (.getfield 40, 3) := by decide +kernel
theorem dX6_makes_49 : decode cX6_makes 49 = .ok (.iload 6, 2) := by decide +kernel
theorem dX6_makes_51 : decode cX6_makes 51 = .ok (.iload 4, 2) := by decide +kernel
theorem dX6_makes_53 : decode cX6_makes 53 = .ok (.iastore, 1) := by decide +kernel
theorem dX6_makes_54 : decode cX6_makes 54 = .ok (.aload_n 0, 1) := by decide +kernel
theorem dX6_makes_55 : decode cX6_makes 55 = .ok (.getfield 66, 3) := by decide +kernel
theorem dX6_makes_58 : decode cX6_makes 58 = .ok (.aload_n 0, 1) := by decide +kernel
theorem dX6_makes_59 : decode cX6_makes 59 = .ok (.getfield 151, 3) := by decide +kernel
theorem dX6_makes_62 : decode cX6_makes 62 = .ok (.aload_n 0, 1) := by decide +kernel
theorem dX6_makes_63 : decode cX6_makes 63 = .ok (.getfield 28, 3) := by decide +kernel
theorem dX6_makes_66 : decode cX6_makes 66 = .ok (.iload 5, 2) := by decide +kernel
theorem dX6_makes_68 : decode cX6_makes 68 = .ok (.iaload, 1) := by decide +kernel
theorem dX6_makes_69 : decode cX6_makes 69 = .ok (.iastore, 1) := by decide +kernel
theorem dX6_makes_70 : decode cX6_makes 70 = .ok (.aload_n 0, 1) := by decide +kernel
theorem dX6_makes_71 : decode cX6_makes 71 = .ok (.dup, 1) := by decide +kernel
theorem dX6_makes_72 : decode cX6_makes 72 = .ok (.getfield 151, 3) := by decide +kernel
theorem dX6_makes_75 : decode cX6_makes 75 = .ok (.iconst 1, 1) := by decide +kernel
theorem dX6_makes_76 : decode cX6_makes 76 = .ok (.iadd, 1) := by decide +kernel
theorem dX6_makes_77 : decode cX6_makes 77 = .ok (.putfield 151, 3) := by decide +kernel
theorem dX6_makes_80 : decode cX6_makes 80 = .ok (.aload_n 0, 1) := by decide +kernel
theorem dX6_makes_81 : decode cX6_makes 81 = .ok (.getfield 28, 3) := by decide +kernel
theorem dX6_makes_84 : decode cX6_makes 84 = .ok (.iload 5, 2) := by decide +kernel
theorem dX6_makes_86 : decode cX6_makes 86 = .ok (.dup2, 1) := by decide +kernel
theorem dX6_makes_87 : decode cX6_makes 87 = .ok (.iaload, 1) := by decide +kernel
theorem dX6_makes_88 : decode cX6_makes 88 = .ok (.iconst 1, 1) := by decide +kernel
theorem dX6_makes_89 : decode cX6_makes 89 = .ok (.iadd, 1) := by decide +kernel
theorem dX6_makes_90 : decode cX6_makes 90 = .ok (.iastore, 1) := by decide +kernel
theorem dX6_makes_91 : decode cX6_makes 91 = .ok (.return_, 1) := by decide +kernel
theorem dX6_lastWaiting_0 : decode cX6_lastWaiting 0 = .ok (.aload_n 0, 1) := by decide +kernel
theorem dX6_lastWaiting_1 : decode cX6_lastWaiting 1 = .ok (.getfield 154, 3) := by decide +kernel
theorem dX6_lastWaiting_4 : decode cX6_lastWaiting 4 = .ok (.ifCond .ne 7, 3) := by decide +kernel
theorem dX6_lastWaiting_7 : decode cX6_lastWaiting 7 = .ok (.iconst 0, 1) := by decide +kernel
theorem dX6_lastWaiting_8 : decode cX6_lastWaiting 8 = .ok (.goto 14, 3) := by decide +kernel
theorem dX6_lastWaiting_11 : decode cX6_lastWaiting 11 = .ok (.aload_n 0, 1) := by decide +kernel
theorem dX6_lastWaiting_12 : decode cX6_lastWaiting 12 = .ok (.getfield 69, 3) := by decide +kernel
theorem dX6_lastWaiting_15 : decode cX6_lastWaiting 15 = .ok (.aload_n 0, 1) := by decide +kernel
theorem dX6_lastWaiting_16 : decode cX6_lastWaiting 16 = .ok (.getfield 154, 3) := by decide +kernel
theorem dX6_lastWaiting_19 : decode cX6_lastWaiting 19 = .ok (.iconst 1, 1) := by decide +kernel
theorem dX6_lastWaiting_20 : decode cX6_lastWaiting 20 = .ok (.isub, 1) := by decide +kernel
theorem dX6_lastWaiting_21 : decode cX6_lastWaiting 21 = .ok (.iaload, 1) := by decide +kernel
theorem dX6_lastWaiting_22 : decode cX6_lastWaiting 22 = .ok (.ireturn, 1) := by decide +kernel
theorem dX6_waits_0 : decode cX6_waits 0 = .ok (.aload_n 0, 1) := by decide +kernel
theorem dX6_waits_1 : decode cX6_waits 1 = .ok (.getfield 69, 3) := by decide +kernel
theorem dX6_waits_4 : decode cX6_waits 4 = .ok (.aload_n 0, 1) := by decide +kernel
theorem dX6_waits_5 : decode cX6_waits 5 = .ok (.getfield 154, 3) := by decide +kernel
theorem dX6_waits_8 : decode cX6_waits 8 = .ok (.iload_n 1, 1) := by decide +kernel
theorem dX6_waits_9 : decode cX6_waits 9 = .ok (.iastore, 1) := by decide +kernel
theorem dX6_waits_10 : decode cX6_waits 10 = .ok (.aload_n 0, 1) := by decide +kernel
theorem dX6_waits_11 : decode cX6_waits 11 = .ok (.dup, 1) := by decide +kernel
theorem dX6_waits_12 : decode cX6_waits 12 = .ok (.getfield 154, 3) := by decide +kernel
theorem dX6_waits_15 : decode cX6_waits 15 = .ok (.iconst 1, 1) := by decide +kernel
theorem dX6_waits_16 : decode cX6_waits 16 = .ok (.iadd, 1) := by decide +kernel
theorem dX6_waits_17 : decode cX6_waits 17 = .ok (.putfield 154, 3) := by decide +kernel
theorem dX6_waits_20 : decode cX6_waits 20 = .ok (.return_, 1) := by decide +kernel
theorem dX6_doesLast_0 : decode cX6_doesLast 0 = .ok (.aload_n 0, 1) := by decide +kernel
theorem dX6_doesLast_1 : decode cX6_doesLast 1 = .ok (.dup, 1) := by decide +kernel
theorem dX6_doesLast_2 : decode cX6_doesLast 2 = .ok (.getfield 154, 3) := by decide +kernel
theorem dX6_doesLast_5 : decode cX6_doesLast 5 = .ok (.iconst 1, 1) := by decide +kernel
theorem dX6_doesLast_6 : decode cX6_doesLast 6 = .ok (.isub, 1) := by decide +kernel
theorem dX6_doesLast_7 : decode cX6_doesLast 7 = .ok (.putfield 154, 3) := by decide +kernel
theorem dX6_doesLast_10 : decode cX6_doesLast 10 = .ok (.aload_n 0, 1) := by decide +kernel
theorem dX6_doesLast_11 : decode cX6_doesLast 11 = .ok (.getfield 69, 3) := by decide +kernel
theorem dX6_doesLast_14 : decode cX6_doesLast 14 = .ok (.aload_n 0, 1) := by decide +kernel
theorem dX6_doesLast_15 : decode cX6_doesLast 15 = .ok (.getfield 154, 3) := by decide +kernel
theorem dX6_doesLast_18 : decode cX6_doesLast 18 = .ok (.iaload, 1) := by decide +kernel
theorem dX6_doesLast_19 : decode cX6_doesLast 19 = .ok (.istore_n 1, 1) := by decide +kernel
theorem dX6_doesLast_20 : decode cX6_doesLast 20 = .ok (.aload_n 0, 1) := by decide +kernel
theorem dX6_doesLast_21 : decode cX6_doesLast 21 = .ok (.dup, 1) := by decide +kernel
theorem dX6_doesLast_22 : decode cX6_doesLast 22 = .ok (.getfield 151, 3) := by decide +kernel
theorem dX6_doesLast_25 : decode cX6_doesLast 25 = .ok (.iload_n 1, 1) := by decide +kernel
theorem dX6_doesLast_26 : decode cX6_doesLast 26 = .ok (.bipush 110, 2) := by decide +kernel
theorem dX6_doesLast_28 : decode cX6_doesLast 28 = .ok (.if_icmp .ne 7, 3) := by decide +kernel
theorem dX6_doesLast_31 : decode cX6_doesLast 31 = .ok (.iconst 1, 1) := by decide +kernel
theorem dX6_doesLast_32 : decode cX6_doesLast 32 = .ok (.goto 4, 3) := by decide +kernel
theorem dX6_doesLast_35 : decode cX6_doesLast 35 = .ok (.iconst 2, 1) := by decide +kernel
theorem dX6_doesLast_36 : decode cX6_doesLast 36 = .ok (.isub, 1) := by decide +kernel
theorem dX6_doesLast_37 : decode cX6_doesLast 37 = .ok (.putfield 151, 3) := by decide +kernel
theorem dX6_doesLast_40 : decode cX6_doesLast 40 = .ok (.aload_n 0, 1) := by decide +kernel
theorem dX6_doesLast_41 : decode cX6_doesLast 41 = .ok (.iload_n 1, 1) := by decide +kernel
theorem dX6_doesLast_42 : decode cX6_doesLast 42 = .ok (.iconst 0, 1) := by decide +kernel
theorem dX6_doesLast_43 : decode cX6_doesLast 43 = .ok (.aload_n 0, 1) := by decide +kernel
theorem dX6_doesLast_44 : decode cX6_doesLast 44 = .ok (.getfield 66, 3) := by decide +kernel
theorem dX6_doesLast_47 : decode cX6_doesLast 47 = .ok (.aload_n 0, 1) := by decide +kernel
theorem dX6_doesLast_48 : decode cX6_doesLast 48 = .ok (.getfield 151, 3) := by decide +kernel
theorem dX6_doesLast_51 : decode cX6_doesLast 51 = .ok (.iaload, 1) := by decide +kernel
theorem dX6_doesLast_52 : decode cX6_doesLast 52 = .ok (.iload_n 1, 1) := by decide +kernel
theorem dX6_doesLast_53 : decode cX6_doesLast 53 = .ok (.bipush 110, 2) := by decide +kernel
theorem dX6_doesLast_55 : decode cX6_doesLast 55 = .ok (.if_icmp .ne 8, 3) := by decide +kernel
theorem dX6_doesLast_58 : decode cX6_doesLast 58 = .ok (.bipush (-9), 2) := by decide +kernel
theorem dX6_doesLast_60 : decode cX6_doesLast 60 = .ok (.goto 14, 3) := by decide +kernel
theorem dX6_doesLast_63 : decode cX6_doesLast 63 = .ok (.aload_n 0, 1) := by decide +kernel
theorem dX6_doesLast_64 : decode cX6_doesLast 64 = .ok (.getfield 66, 3) := by decide +kernel
theorem dX6_doesLast_67 : decode cX6_doesLast 67 = .ok (.aload_n 0, 1) := by decide +kernel
theorem dX6_doesLast_68 : decode cX6_doesLast 68 = .ok (.getfield 151, 3) := by decide +kernel
theorem dX6_doesLast_71 : decode cX6_doesLast 71 = .ok (.iconst 1, 1) := by decide +kernel
theorem dX6_doesLast_72 : decode cX6_doesLast 72 = .ok (.iadd, 1) := by decide +kernel
theorem dX6_doesLast_73 : decode cX6_doesLast 73 = .ok (.iaload, 1) := by decide +kernel
theorem dX6_doesLast_74 : decode cX6_doesLast 74 = .ok (.invokevirtual 157, 3) := by decide +kernel
theorem dX6_doesLast_77 : decode cX6_doesLast 77 = .ok (.return_, 1) := by decide +kernel
theorem dX6_partDone_0 : decode cX6_partDone 0 = .ok (.aload_n 0, 1) := by decide +kernel
theorem dX6_partDone_1 : decode cX6_partDone 1 = .ok (.invokevirtual 161, 3) := by decide +kernel
theorem dX6_partDone_4 : decode cX6_partDone 4 = .ok (.bipush 110, 2) := by decide +kernel
theorem dX6_partDone_6 : decode cX6_partDone 6 = .ok (.if_icmp .ne 10, 3) := by decide +kernel
theorem dX6_partDone_9 : decode cX6_partDone 9 = .ok (.aload_n 0, 1) := by decide +kernel
theorem dX6_partDone_10 : decode cX6_partDone 10 = .ok (.invokevirtual 165, 3) := by decide +kernel
theorem dX6_partDone_13 : decode cX6_partDone 13 = .ok (.goto (-13), 3) := by decide +kernel
theorem dX6_partDone_16 : decode cX6_partDone 16 = .ok (.aload_n 0, 1) := by decide +kernel
theorem dX6_partDone_17 : decode cX6_partDone 17 = .ok (.bipush 94, 2) := by decide +kernel
theorem dX6_partDone_19 : decode cX6_partDone 19 = .ok (.invokevirtual 134, 3) := by decide +kernel
theorem dX6_partDone_22 : decode cX6_partDone 22 = .ok (.ifCond .eq 58, 3) := by decide +kernel
theorem dX6_partDone_25 : decode cX6_partDone 25 = .ok (.aload_n 0, 1) := by decide +kernel
theorem dX6_partDone_26 : decode cX6_partDone 26 = .ok (.aload_n 0, 1) := by decide +kernel
theorem dX6_partDone_27 : decode cX6_partDone 27 = .ok (.invokevirtual 168, 3) := by decide +kernel
theorem dX6_partDone_30 : decode cX6_partDone 30 = .ok (.invokevirtual 137, 3) := by decide +kernel
theorem dX6_partDone_33 : decode cX6_partDone 33 = .ok (.pop, 1) := by decide +kernel
theorem dX6_partDone_34 : decode cX6_partDone 34 = .ok (.aload_n 0, 1) := by decide +kernel
theorem dX6_partDone_35 : decode cX6_partDone 35 = .ok (.aload_n 0, 1) := by decide +kernel
theorem dX6_partDone_36 : decode cX6_partDone 36 = .ok (.iconst 0, 1) := by decide +kernel
theorem dX6_partDone_37 : decode cX6_partDone 37 = .ok (.iconst 4, 1) := by decide +kernel
theorem dX6_partDone_38 : decode cX6_partDone 38 = .ok (.invokevirtual 141, 3) := by decide +kernel
theorem dX6_partDone_41 : decode cX6_partDone 41 = .ok (.invokevirtual 137, 3) := by decide +kernel
theorem dX6_partDone_44 : decode cX6_partDone 44 = .ok (.istore_n 1, 1) := by decide +kernel
theorem dX6_partDone_45 : decode cX6_partDone 45 = .ok (.aload_n 0, 1) := by decide +kernel
theorem dX6_partDone_46 : decode cX6_partDone 46 = .ok (.invokevirtual 127, 3) := by decide +kernel
theorem dX6_partDone_49 : decode cX6_partDone 49 = .ok (.ifCond .eq 31, 3) := by decide +kernel
theorem dX6_partDone_52 : decode cX6_partDone 52 = .ok (.aload_n 0, 1) := by decide +kernel
theorem dX6_partDone_53 : decode cX6_partDone 53 = .ok (.dup, 1) := by decide +kernel
theorem dX6_partDone_54 : decode cX6_partDone 54 = .ok (.getfield 151, 3) := by decide +kernel
theorem dX6_partDone_57 : decode cX6_partDone 57 = .ok (.iconst 1, 1) := by decide +kernel
theorem dX6_partDone_58 : decode cX6_partDone 58 = .ok (.isub, 1) := by decide +kernel
theorem dX6_partDone_59 : decode cX6_partDone 59 = .ok (.putfield 151, 3) := by decide +kernel
theorem dX6_partDone_62 : decode cX6_partDone 62 = .ok (.aload_n 0, 1) := by decide +kernel
theorem dX6_partDone_63 : decode cX6_partDone 63 = .ok (.bipush 94, 2) := by decide +kernel
theorem dX6_partDone_65 : decode cX6_partDone 65 = .ok (.iload_n 1, 1) := by decide +kernel
theorem dX6_partDone_66 : decode cX6_partDone 66 = .ok (.aload_n 0, 1) := by decide +kernel
theorem dX6_partDone_67 : decode cX6_partDone 67 = .ok (.getfield 66, 3) := by decide +kernel
theorem dX6_partDone_70 : decode cX6_partDone 70 = .ok (.aload_n 0, 1) := by decide +kernel
theorem dX6_partDone_71 : decode cX6_partDone 71 = .ok (.getfield 151, 3) := by decide +kernel
theorem dX6_partDone_74 : decode cX6_partDone 74 = .ok (.iaload, 1) := by decide +kernel
theorem dX6_partDone_75 : decode cX6_partDone 75 = .ok (.bipush (-9), 2) := by decide +kernel
theorem dX6_partDone_77 : decode cX6_partDone 77 = .ok (.invokevirtual 157, 3) := by decide +kernel
theorem dX6_partDone_80 : decode cX6_partDone 80 = .ok (.aload_n 0, 1) := by decide +kernel
theorem dX6_partDone_81 : decode cX6_partDone 81 = .ok (.invokevirtual 127, 3) := by decide +kernel
theorem dX6_partDone_84 : decode cX6_partDone 84 = .ok (.ifCond .eq 19, 3) := by decide +kernel
theorem dX6_partDone_87 : decode cX6_partDone 87 = .ok (.aload_n 0, 1) := by decide +kernel
theorem dX6_partDone_88 : decode cX6_partDone 88 = .ok (.invokevirtual 161, 3) := by decide +kernel
theorem dX6_partDone_91 : decode cX6_partDone 91 = .ok (.bipush 42, 2) := by decide +kernel
theorem dX6_partDone_93 : decode cX6_partDone 93 = .ok (.if_icmp .ne 10, 3) := by decide +kernel
theorem dX6_partDone_96 : decode cX6_partDone 96 = .ok (.aload_n 0, 1) := by decide +kernel
theorem dX6_partDone_97 : decode cX6_partDone 97 = .ok (.invokevirtual 165, 3) := by decide +kernel
theorem dX6_partDone_100 : decode cX6_partDone 100 = .ok (.goto (-20), 3) := by decide +kernel
theorem dX6_partDone_103 : decode cX6_partDone 103 = .ok (.return_, 1) := by decide +kernel
theorem dX6_readsPart_0 : decode cX6_readsPart 0 = .ok (.aload_n 0, 1) := by decide +kernel
theorem dX6_readsPart_1 : decode cX6_readsPart 1 = .ok (.bipush 40, 2) := by decide +kernel
theorem dX6_readsPart_3 : decode cX6_readsPart 3 = .ok (.invokevirtual 134, 3) := by decide +kernel
theorem dX6_readsPart_6 : decode cX6_readsPart 6 = .ok (.ifCond .eq 39, 3) := by decide +kernel
theorem dX6_readsPart_9 : decode cX6_readsPart 9 = .ok (.aload_n 0, 1) := by decide +kernel
theorem dX6_readsPart_10 : decode cX6_readsPart 10 = .ok (.aload_n 0, 1) := by decide +kernel
theorem dX6_readsPart_11 : decode cX6_readsPart 11 = .ok (.getfield 171, 3) := by decide +kernel
theorem dX6_readsPart_14 : decode cX6_readsPart 14 = .ok (.bipush 8, 2) := by decide +kernel
theorem dX6_readsPart_16 : decode cX6_readsPart 16 = .ok (.if_icmp .ge 7, 3) := by decide +kernel
theorem dX6_readsPart_19 : decode cX6_readsPart 19 = .ok (.iconst 1, 1) := by decide +kernel
theorem dX6_readsPart_20 : decode cX6_readsPart 20 = .ok (.goto 4, 3) := by decide +kernel
theorem dX6_readsPart_23 : decode cX6_readsPart 23 = .ok (.iconst 0, 1) := by decide +kernel
theorem dX6_readsPart_24 : decode cX6_readsPart 24 = .ok (.invokevirtual 137, 3) := by decide +kernel
theorem dX6_readsPart_27 : decode cX6_readsPart 27 = .ok (.pop, 1) := by decide +kernel
theorem dX6_readsPart_28 : decode cX6_readsPart 28 = .ok (.aload_n 0, 1) := by decide +kernel
theorem dX6_readsPart_29 : decode cX6_readsPart 29 = .ok (.dup, 1) := by decide +kernel
theorem dX6_readsPart_30 : decode cX6_readsPart 30 = .ok (.getfield 171, 3) := by decide +kernel
theorem dX6_readsPart_33 : decode cX6_readsPart 33 = .ok (.iconst 1, 1) := by decide +kernel
theorem dX6_readsPart_34 : decode cX6_readsPart 34 = .ok (.iadd, 1) := by decide +kernel
theorem dX6_readsPart_35 : decode cX6_readsPart 35 = .ok (.putfield 171, 3) := by decide +kernel
theorem dX6_readsPart_38 : decode cX6_readsPart 38 = .ok (.aload_n 0, 1) := by decide +kernel
theorem dX6_readsPart_39 : decode cX6_readsPart 39 = .ok (.iconst 0, 1) := by decide +kernel
theorem dX6_readsPart_40 : decode cX6_readsPart 40 = .ok (.invokevirtual 174, 3) := by decide +kernel
theorem dX6_readsPart_43 : decode cX6_readsPart 43 = .ok (.iconst 0, 1) := by decide +kernel
theorem dX6_readsPart_44 : decode cX6_readsPart 44 = .ok (.ireturn, 1) := by decide +kernel
theorem dX6_readsPart_45 : decode cX6_readsPart 45 = .ok (.aload_n 0, 1) := by decide +kernel
theorem dX6_readsPart_46 : decode cX6_readsPart 46 = .ok (.bipush 45, 2) := by decide +kernel
theorem dX6_readsPart_48 : decode cX6_readsPart 48 = .ok (.invokevirtual 134, 3) := by decide +kernel
theorem dX6_readsPart_51 : decode cX6_readsPart 51 = .ok (.ifCond .eq 20, 3) := by decide +kernel
theorem dX6_readsPart_54 : decode cX6_readsPart 54 = .ok (.aload_n 0, 1) := by decide +kernel
theorem dX6_readsPart_55 : decode cX6_readsPart 55 = .ok (.aload_n 0, 1) := by decide +kernel
theorem dX6_readsPart_56 : decode cX6_readsPart 56 = .ok (.invokevirtual 168, 3) := by decide +kernel
theorem dX6_readsPart_59 : decode cX6_readsPart 59 = .ok (.invokevirtual 137, 3) := by decide +kernel
theorem dX6_readsPart_62 : decode cX6_readsPart 62 = .ok (.pop, 1) := by decide +kernel
theorem dX6_readsPart_63 : decode cX6_readsPart 63 = .ok (.aload_n 0, 1) := by decide +kernel
theorem dX6_readsPart_64 : decode cX6_readsPart 64 = .ok (.bipush 110, 2) := by decide +kernel
theorem dX6_readsPart_66 : decode cX6_readsPart 66 = .ok (.invokevirtual 174, 3) := by decide +kernel
theorem dX6_readsPart_69 : decode cX6_readsPart 69 = .ok (.iconst 0, 1) := by decide +kernel
theorem dX6_readsPart_70 : decode cX6_readsPart 70 = .ok (.ireturn, 1) := by decide +kernel
theorem dX6_readsPart_71 : decode cX6_readsPart 71 = .ok (.aload_n 0, 1) := by decide +kernel
theorem dX6_readsPart_72 : decode cX6_readsPart 72 = .ok (.bipush 64, 2) := by decide +kernel
theorem dX6_readsPart_74 : decode cX6_readsPart 74 = .ok (.invokevirtual 134, 3) := by decide +kernel
theorem dX6_readsPart_77 : decode cX6_readsPart 77 = .ok (.ifCond .eq 48, 3) := by decide +kernel
theorem dX6_readsPart_80 : decode cX6_readsPart 80 = .ok (.aload_n 0, 1) := by decide +kernel
theorem dX6_readsPart_81 : decode cX6_readsPart 81 = .ok (.aload_n 0, 1) := by decide +kernel
theorem dX6_readsPart_82 : decode cX6_readsPart 82 = .ok (.invokevirtual 168, 3) := by decide +kernel
theorem dX6_readsPart_85 : decode cX6_readsPart 85 = .ok (.invokevirtual 137, 3) := by decide +kernel
theorem dX6_readsPart_88 : decode cX6_readsPart 88 = .ok (.pop, 1) := by decide +kernel
theorem dX6_readsPart_89 : decode cX6_readsPart 89 = .ok (.aload_n 0, 1) := by decide +kernel
theorem dX6_readsPart_90 : decode cX6_readsPart 90 = .ok (.aload_n 0, 1) := by decide +kernel
theorem dX6_readsPart_91 : decode cX6_readsPart 91 = .ok (.iconst 0, 1) := by decide +kernel
theorem dX6_readsPart_92 : decode cX6_readsPart 92 = .ok (.aload_n 0, 1) := by decide +kernel
theorem dX6_readsPart_93 : decode cX6_readsPart 93 = .ok (.getfield 145, 3) := by decide +kernel
theorem dX6_readsPart_96 : decode cX6_readsPart 96 = .ok (.iconst 1, 1) := by decide +kernel
theorem dX6_readsPart_97 : decode cX6_readsPart 97 = .ok (.isub, 1) := by decide +kernel
theorem dX6_readsPart_98 : decode cX6_readsPart 98 = .ok (.invokevirtual 141, 3) := by decide +kernel
theorem dX6_readsPart_101 : decode cX6_readsPart 101 = .ok (.invokevirtual 137, 3) := by decide +kernel
theorem dX6_readsPart_104 : decode cX6_readsPart 104 = .ok (.istore_n 1, 1) := by decide +kernel
theorem dX6_readsPart_105 : decode cX6_readsPart 105 = .ok (.aload_n 0, 1) := by decide +kernel
theorem dX6_readsPart_106 : decode cX6_readsPart 106 = .ok (.invokevirtual 127, 3) := by decide +kernel
theorem dX6_readsPart_109 : decode cX6_readsPart 109 = .ok (.ifCond .eq 13, 3) := by decide +kernel
theorem dX6_readsPart_112 : decode cX6_readsPart 112 = .ok (.aload_n 0, 1) := by decide +kernel
theorem dX6_readsPart_113 : decode cX6_readsPart 113 = .ok (.iconst 2, 1) := by decide +kernel
theorem dX6_readsPart_114 : decode cX6_readsPart 114 = .ok (.iload_n 1, 1) := by decide +kernel
theorem dX6_readsPart_115 : decode cX6_readsPart 115 = .ok (.bipush (-9), 2) := by decide +kernel
theorem dX6_readsPart_117 : decode cX6_readsPart 117 = .ok (.bipush (-9), 2) := by decide +kernel
theorem dX6_readsPart_119 : decode cX6_readsPart 119 = .ok (.invokevirtual 157, 3) := by decide +kernel
theorem dX6_readsPart_122 : decode cX6_readsPart 122 = .ok (.goto 86, 3) := by decide +kernel
theorem dX6_readsPart_125 : decode cX6_readsPart 125 = .ok (.aload_n 0, 1) := by decide +kernel
theorem dX6_readsPart_126 : decode cX6_readsPart 126 = .ok (.invokevirtual 178, 3) := by decide +kernel
theorem dX6_readsPart_129 : decode cX6_readsPart 129 = .ok (.ifCond .eq 35, 3) := by decide +kernel
theorem dX6_readsPart_132 : decode cX6_readsPart 132 = .ok (.aload_n 0, 1) := by decide +kernel
theorem dX6_readsPart_133 : decode cX6_readsPart 133 = .ok (.aload_n 0, 1) := by decide +kernel
theorem dX6_readsPart_134 : decode cX6_readsPart 134 = .ok (.invokevirtual 168, 3) := by decide +kernel
theorem dX6_readsPart_137 : decode cX6_readsPart 137 = .ok (.invokevirtual 137, 3) := by decide +kernel
theorem dX6_readsPart_140 : decode cX6_readsPart 140 = .ok (.istore_n 1, 1) := by decide +kernel
theorem dX6_readsPart_141 : decode cX6_readsPart 141 = .ok (.aload_n 0, 1) := by decide +kernel
theorem dX6_readsPart_142 : decode cX6_readsPart 142 = .ok (.invokevirtual 127, 3) := by decide +kernel
theorem dX6_readsPart_145 : decode cX6_readsPart 145 = .ok (.ifCond .eq 16, 3) := by decide +kernel
theorem dX6_readsPart_148 : decode cX6_readsPart 148 = .ok (.aload_n 0, 1) := by decide +kernel
theorem dX6_readsPart_149 : decode cX6_readsPart 149 = .ok (.iconst 1, 1) := by decide +kernel
theorem dX6_readsPart_150 : decode cX6_readsPart 150 = .ok (.iload_n 1, 1) := by decide +kernel
theorem dX6_readsPart_151 : decode cX6_readsPart 151 = .ok (.bipush 97, 2) := by decide +kernel
theorem dX6_readsPart_153 : decode cX6_readsPart 153 = .ok (.isub, 1) := by decide +kernel
theorem dX6_readsPart_154 : decode cX6_readsPart 154 = .ok (.bipush (-9), 2) := by decide +kernel
theorem dX6_readsPart_156 : decode cX6_readsPart 156 = .ok (.bipush (-9), 2) := by decide +kernel
theorem dX6_readsPart_158 : decode cX6_readsPart 158 = .ok (.invokevirtual 157, 3) := by decide +kernel
theorem dX6_readsPart_161 : decode cX6_readsPart 161 = .ok (.goto 47, 3) := by decide +kernel
theorem dX6_readsPart_164 : decode cX6_readsPart 164 = .ok (.aload_n 0, 1) := by decide +kernel
theorem dX6_readsPart_165 : decode cX6_readsPart 165 = .ok (.aload_n 0, 1) := by decide +kernel
theorem dX6_readsPart_166 : decode cX6_readsPart 166 = .ok (.iconst 0, 1) := by decide +kernel
theorem dX6_readsPart_167 : decode cX6_readsPart 167 = .ok (.bipush 99, 2) := by decide +kernel
theorem dX6_readsPart_169 : decode cX6_readsPart 169 = .ok (.invokevirtual 141, 3) := by decide +kernel
theorem dX6_readsPart_172 : decode cX6_readsPart 172 = .ok (.ifCond .eq 14, 3) := by decide +kernel
theorem dX6_readsPart_175 : decode cX6_readsPart 175 = .ok (.aload_n 0, 1) := by decide +kernel
theorem dX6_readsPart_176 : decode cX6_readsPart 176 = .ok (.invokevirtual 168, 3) := by decide +kernel
theorem dX6_readsPart_179 : decode cX6_readsPart 179 = .ok (.ifCond .eq 7, 3) := by decide +kernel
theorem dX6_readsPart_182 : decode cX6_readsPart 182 = .ok (.iconst 1, 1) := by decide +kernel
theorem dX6_readsPart_183 : decode cX6_readsPart 183 = .ok (.goto 4, 3) := by decide +kernel
theorem dX6_readsPart_186 : decode cX6_readsPart 186 = .ok (.iconst 0, 1) := by decide +kernel
theorem dX6_readsPart_187 : decode cX6_readsPart 187 = .ok (.invokevirtual 137, 3) := by decide +kernel
theorem dX6_readsPart_190 : decode cX6_readsPart 190 = .ok (.istore_n 1, 1) := by decide +kernel
theorem dX6_readsPart_191 : decode cX6_readsPart 191 = .ok (.aload_n 0, 1) := by decide +kernel
theorem dX6_readsPart_192 : decode cX6_readsPart 192 = .ok (.invokevirtual 127, 3) := by decide +kernel
theorem dX6_readsPart_195 : decode cX6_readsPart 195 = .ok (.ifCond .eq 13, 3) := by decide +kernel
theorem dX6_readsPart_198 : decode cX6_readsPart 198 = .ok (.aload_n 0, 1) := by decide +kernel
theorem dX6_readsPart_199 : decode cX6_readsPart 199 = .ok (.iconst 0, 1) := by decide +kernel
theorem dX6_readsPart_200 : decode cX6_readsPart 200 = .ok (.iload_n 1, 1) := by decide +kernel
theorem dX6_readsPart_201 : decode cX6_readsPart 201 = .ok (.bipush (-9), 2) := by decide +kernel
theorem dX6_readsPart_203 : decode cX6_readsPart 203 = .ok (.bipush (-9), 2) := by decide +kernel
theorem dX6_readsPart_205 : decode cX6_readsPart 205 = .ok (.invokevirtual 157, 3) := by decide +kernel
theorem dX6_readsPart_208 : decode cX6_readsPart 208 = .ok (.iconst 1, 1) := by decide +kernel
theorem dX6_readsPart_209 : decode cX6_readsPart 209 = .ok (.ireturn, 1) := by decide +kernel
theorem dX6_readsBehind_0 : decode cX6_readsBehind 0 = .ok (.aload_n 0, 1) := by decide +kernel
theorem dX6_readsBehind_1 : decode cX6_readsBehind 1 = .ok (.bipush 42, 2) := by decide +kernel
theorem dX6_readsBehind_3 : decode cX6_readsBehind 3 = .ok (.invokevirtual 134, 3) := by decide +kernel
theorem dX6_readsBehind_6 : decode cX6_readsBehind 6 = .ok (.ifCond .eq 20, 3) := by decide +kernel
theorem dX6_readsBehind_9 : decode cX6_readsBehind 9 = .ok (.aload_n 0, 1) := by decide +kernel
theorem dX6_readsBehind_10 : decode cX6_readsBehind 10 = .ok (.aload_n 0, 1) := by decide +kernel
theorem dX6_readsBehind_11 : decode cX6_readsBehind 11 = .ok (.invokevirtual 168, 3) := by decide +kernel
theorem dX6_readsBehind_14 : decode cX6_readsBehind 14 = .ok (.invokevirtual 137, 3) := by decide +kernel
theorem dX6_readsBehind_17 : decode cX6_readsBehind 17 = .ok (.pop, 1) := by decide +kernel
theorem dX6_readsBehind_18 : decode cX6_readsBehind 18 = .ok (.aload_n 0, 1) := by decide +kernel
theorem dX6_readsBehind_19 : decode cX6_readsBehind 19 = .ok (.bipush 42, 2) := by decide +kernel
theorem dX6_readsBehind_21 : decode cX6_readsBehind 21 = .ok (.invokevirtual 174, 3) := by decide +kernel
theorem dX6_readsBehind_24 : decode cX6_readsBehind 24 = .ok (.iconst 1, 1) := by decide +kernel
theorem dX6_readsBehind_25 : decode cX6_readsBehind 25 = .ok (.ireturn, 1) := by decide +kernel
theorem dX6_readsBehind_26 : decode cX6_readsBehind 26 = .ok (.aload_n 0, 1) := by decide +kernel
theorem dX6_readsBehind_27 : decode cX6_readsBehind 27 = .ok (.invokevirtual 161, 3) := by decide +kernel
theorem dX6_readsBehind_30 : decode cX6_readsBehind 30 = .ok (.bipush 43, 2) := by decide +kernel
theorem dX6_readsBehind_32 : decode cX6_readsBehind 32 = .ok (.if_icmp .eq 12, 3) := by decide +kernel
theorem dX6_readsBehind_35 : decode cX6_readsBehind 35 = .ok (.aload_n 0, 1) := by decide +kernel
theorem dX6_readsBehind_36 : decode cX6_readsBehind 36 = .ok (.invokevirtual 161, 3) := by decide +kernel
theorem dX6_readsBehind_39 : decode cX6_readsBehind 39 = .ok (.bipush 45, 2) := by decide +kernel
theorem dX6_readsBehind_41 : decode cX6_readsBehind 41 = .ok (.if_icmp .ne 10, 3) := by decide +kernel
theorem dX6_readsBehind_44 : decode cX6_readsBehind 44 = .ok (.aload_n 0, 1) := by decide +kernel
theorem dX6_readsBehind_45 : decode cX6_readsBehind 45 = .ok (.invokevirtual 165, 3) := by decide +kernel
theorem dX6_readsBehind_48 : decode cX6_readsBehind 48 = .ok (.goto (-22), 3) := by decide +kernel
theorem dX6_readsBehind_51 : decode cX6_readsBehind 51 = .ok (.aload_n 0, 1) := by decide +kernel
theorem dX6_readsBehind_52 : decode cX6_readsBehind 52 = .ok (.bipush 43, 2) := by decide +kernel
theorem dX6_readsBehind_54 : decode cX6_readsBehind 54 = .ok (.invokevirtual 134, 3) := by decide +kernel
theorem dX6_readsBehind_57 : decode cX6_readsBehind 57 = .ok (.ifCond .ne 12, 3) := by decide +kernel
theorem dX6_readsBehind_60 : decode cX6_readsBehind 60 = .ok (.aload_n 0, 1) := by decide +kernel
theorem dX6_readsBehind_61 : decode cX6_readsBehind 61 = .ok (.bipush 45, 2) := by decide +kernel
theorem dX6_readsBehind_63 : decode cX6_readsBehind 63 = .ok (.invokevirtual 134, 3) := by decide +kernel
theorem dX6_readsBehind_66 : decode cX6_readsBehind 66 = .ok (.ifCond .eq 17, 3) := by decide +kernel
theorem dX6_readsBehind_69 : decode cX6_readsBehind 69 = .ok (.aload_n 0, 1) := by decide +kernel
theorem dX6_readsBehind_70 : decode cX6_readsBehind 70 = .ok (.aload_n 0, 1) := by decide +kernel
theorem dX6_readsBehind_71 : decode cX6_readsBehind 71 = .ok (.aload_n 0, 1) := by decide +kernel
theorem dX6_readsBehind_72 : decode cX6_readsBehind 72 = .ok (.invokevirtual 168, 3) := by decide +kernel
theorem dX6_readsBehind_75 : decode cX6_readsBehind 75 = .ok (.invokevirtual 137, 3) := by decide +kernel
theorem dX6_readsBehind_78 : decode cX6_readsBehind 78 = .ok (.invokevirtual 174, 3) := by decide +kernel
theorem dX6_readsBehind_81 : decode cX6_readsBehind 81 = .ok (.iconst 1, 1) := by decide +kernel
theorem dX6_readsBehind_82 : decode cX6_readsBehind 82 = .ok (.ireturn, 1) := by decide +kernel
theorem dX6_readsBehind_83 : decode cX6_readsBehind 83 = .ok (.aload_n 0, 1) := by decide +kernel
theorem dX6_readsBehind_84 : decode cX6_readsBehind 84 = .ok (.bipush 41, 2) := by decide +kernel
theorem dX6_readsBehind_86 : decode cX6_readsBehind 86 = .ok (.invokevirtual 134, 3) := by decide +kernel
theorem dX6_readsBehind_89 : decode cX6_readsBehind 89 = .ok (.ifCond .eq 43, 3) := by decide +kernel
theorem dX6_readsBehind_92 : decode cX6_readsBehind 92 = .ok (.aload_n 0, 1) := by decide +kernel
theorem dX6_readsBehind_93 : decode cX6_readsBehind 93 = .ok (.getfield 154, 3) := by decide +kernel
theorem dX6_readsBehind_96 : decode cX6_readsBehind 96 = .ok (.ifCond .le 36, 3) := by decide +kernel
theorem dX6_readsBehind_99 : decode cX6_readsBehind 99 = .ok (.aload_n 0, 1) := by decide +kernel
theorem dX6_readsBehind_100 : decode cX6_readsBehind 100 = .ok (.iconst 1, 1) := by decide +kernel
theorem dX6_readsBehind_101 : decode cX6_readsBehind 101 = .ok (.invokevirtual 137, 3) := by decide +kernel
theorem dX6_readsBehind_104 : decode cX6_readsBehind 104 = .ok (.pop, 1) := by decide +kernel
theorem dX6_readsBehind_105 : decode cX6_readsBehind 105 = .ok (.aload_n 0, 1) := by decide +kernel
theorem dX6_readsBehind_106 : decode cX6_readsBehind 106 = .ok (.dup, 1) := by decide +kernel
theorem dX6_readsBehind_107 : decode cX6_readsBehind 107 = .ok (.getfield 171, 3) := by decide +kernel
theorem dX6_readsBehind_110 : decode cX6_readsBehind 110 = .ok (.iconst 1, 1) := by decide +kernel
theorem dX6_readsBehind_111 : decode cX6_readsBehind 111 = .ok (.isub, 1) := by decide +kernel
theorem dX6_readsBehind_112 : decode cX6_readsBehind 112 = .ok (.putfield 171, 3) := by decide +kernel
theorem dX6_readsBehind_115 : decode cX6_readsBehind 115 = .ok (.aload_n 0, 1) := by decide +kernel
theorem dX6_readsBehind_116 : decode cX6_readsBehind 116 = .ok (.dup, 1) := by decide +kernel
theorem dX6_readsBehind_117 : decode cX6_readsBehind 117 = .ok (.getfield 154, 3) := by decide +kernel
theorem dX6_readsBehind_120 : decode cX6_readsBehind 120 = .ok (.iconst 1, 1) := by decide +kernel
theorem dX6_readsBehind_121 : decode cX6_readsBehind 121 = .ok (.isub, 1) := by decide +kernel
theorem dX6_readsBehind_122 : decode cX6_readsBehind 122 = .ok (.putfield 154, 3) := by decide +kernel
theorem dX6_readsBehind_125 : decode cX6_readsBehind 125 = .ok (.aload_n 0, 1) := by decide +kernel
theorem dX6_readsBehind_126 : decode cX6_readsBehind 126 = .ok (.invokevirtual 181, 3) := by decide +kernel
theorem dX6_readsBehind_129 : decode cX6_readsBehind 129 = .ok (.goto 16, 3) := by decide +kernel
theorem dX6_readsBehind_132 : decode cX6_readsBehind 132 = .ok (.aload_n 0, 1) := by decide +kernel
theorem dX6_readsBehind_133 : decode cX6_readsBehind 133 = .ok (.getfield 154, 3) := by decide +kernel
theorem dX6_readsBehind_136 : decode cX6_readsBehind 136 = .ok (.ifCond .le 9, 3) := by decide +kernel
theorem dX6_readsBehind_139 : decode cX6_readsBehind 139 = .ok (.aload_n 0, 1) := by decide +kernel
theorem dX6_readsBehind_140 : decode cX6_readsBehind 140 = .ok (.iconst 0, 1) := by decide +kernel
theorem dX6_readsBehind_141 : decode cX6_readsBehind 141 = .ok (.invokevirtual 137, 3) := by decide +kernel
theorem dX6_readsBehind_144 : decode cX6_readsBehind 144 = .ok (.pop, 1) := by decide +kernel
theorem dX6_readsBehind_145 : decode cX6_readsBehind 145 = .ok (.iconst 0, 1) := by decide +kernel
theorem dX6_readsBehind_146 : decode cX6_readsBehind 146 = .ok (.ireturn, 1) := by decide +kernel
theorem dX6_readsSum_0 : decode cX6_readsSum 0 = .ok (.aload_n 0, 1) := by decide +kernel
theorem dX6_readsSum_1 : decode cX6_readsSum 1 = .ok (.getfield 28, 3) := by decide +kernel
theorem dX6_readsSum_4 : decode cX6_readsSum 4 = .ok (.aload_n 0, 1) := by decide +kernel
theorem dX6_readsSum_5 : decode cX6_readsSum 5 = .ok (.getfield 145, 3) := by decide +kernel
theorem dX6_readsSum_8 : decode cX6_readsSum 8 = .ok (.iconst 0, 1) := by decide +kernel
theorem dX6_readsSum_9 : decode cX6_readsSum 9 = .ok (.iastore, 1) := by decide +kernel
theorem dX6_readsSum_10 : decode cX6_readsSum 10 = .ok (.aload_n 0, 1) := by decide +kernel
theorem dX6_readsSum_11 : decode cX6_readsSum 11 = .ok (.iconst 0, 1) := by decide +kernel
theorem dX6_readsSum_12 : decode cX6_readsSum 12 = .ok (.putfield 151, 3) := by decide +kernel
theorem dX6_readsSum_15 : decode cX6_readsSum 15 = .ok (.aload_n 0, 1) := by decide +kernel
theorem dX6_readsSum_16 : decode cX6_readsSum 16 = .ok (.iconst 0, 1) := by decide +kernel
theorem dX6_readsSum_17 : decode cX6_readsSum 17 = .ok (.putfield 154, 3) := by decide +kernel
theorem dX6_readsSum_20 : decode cX6_readsSum 20 = .ok (.aload_n 0, 1) := by decide +kernel
theorem dX6_readsSum_21 : decode cX6_readsSum 21 = .ok (.iconst 0, 1) := by decide +kernel
theorem dX6_readsSum_22 : decode cX6_readsSum 22 = .ok (.putfield 171, 3) := by decide +kernel
theorem dX6_readsSum_25 : decode cX6_readsSum 25 = .ok (.aload_n 0, 1) := by decide +kernel
theorem dX6_readsSum_26 : decode cX6_readsSum 26 = .ok (.iconst 0, 1) := by decide +kernel
theorem dX6_readsSum_27 : decode cX6_readsSum 27 = .ok (.putfield 148, 3) := by decide +kernel
theorem dX6_readsSum_30 : decode cX6_readsSum 30 = .ok (.iconst 1, 1) := by decide +kernel
theorem dX6_readsSum_31 : decode cX6_readsSum 31 = .ok (.istore_n 1, 1) := by decide +kernel
theorem dX6_readsSum_32 : decode cX6_readsSum 32 = .ok (.iconst 1, 1) := by decide +kernel
theorem dX6_readsSum_33 : decode cX6_readsSum 33 = .ok (.istore_n 2, 1) := by decide +kernel
theorem dX6_readsSum_34 : decode cX6_readsSum 34 = .ok (.aload_n 0, 1) := by decide +kernel
theorem dX6_readsSum_35 : decode cX6_readsSum 35 = .ok (.invokevirtual 127, 3) := by decide +kernel
theorem dX6_readsSum_38 : decode cX6_readsSum 38 = .ok (.ifCond .eq 73, 3) := by decide +kernel
theorem dX6_readsSum_41 : decode cX6_readsSum 41 = .ok (.iload_n 2, 1) := by decide +kernel
theorem dX6_readsSum_42 : decode cX6_readsSum 42 = .ok (.ifCond .eq 69, 3) := by decide +kernel
theorem dX6_readsSum_45 : decode cX6_readsSum 45 = .ok (.iload_n 1, 1) := by decide +kernel
theorem dX6_readsSum_46 : decode cX6_readsSum 46 = .ok (.ifCond .eq 34, 3) := by decide +kernel
theorem dX6_readsSum_49 : decode cX6_readsSum 49 = .ok (.aload_n 0, 1) := by decide +kernel
theorem dX6_readsSum_50 : decode cX6_readsSum 50 = .ok (.invokevirtual 184, 3) := by decide +kernel
theorem dX6_readsSum_53 : decode cX6_readsSum 53 = .ok (.ifCond .ne 7, 3) := by decide +kernel
theorem dX6_readsSum_56 : decode cX6_readsSum 56 = .ok (.iconst 1, 1) := by decide +kernel
theorem dX6_readsSum_57 : decode cX6_readsSum 57 = .ok (.goto 4, 3) := by decide +kernel
theorem dX6_readsSum_60 : decode cX6_readsSum 60 = .ok (.iconst 0, 1) := by decide +kernel
theorem dX6_readsSum_61 : decode cX6_readsSum 61 = .ok (.istore_n 1, 1) := by decide +kernel
theorem dX6_readsSum_62 : decode cX6_readsSum 62 = .ok (.iload_n 1, 1) := by decide +kernel
theorem dX6_readsSum_63 : decode cX6_readsSum 63 = .ok (.ifCond .ne (-29), 3) := by decide +kernel
theorem dX6_readsSum_66 : decode cX6_readsSum 66 = .ok (.aload_n 0, 1) := by decide +kernel
theorem dX6_readsSum_67 : decode cX6_readsSum 67 = .ok (.invokevirtual 127, 3) := by decide +kernel
theorem dX6_readsSum_70 : decode cX6_readsSum 70 = .ok (.ifCond .eq (-36), 3) := by decide +kernel
theorem dX6_readsSum_73 : decode cX6_readsSum 73 = .ok (.aload_n 0, 1) := by decide +kernel
theorem dX6_readsSum_74 : decode cX6_readsSum 74 = .ok (.invokevirtual 181, 3) := by decide +kernel
theorem dX6_readsSum_77 : decode cX6_readsSum 77 = .ok (.goto (-43), 3) := by decide +kernel
theorem dX6_readsSum_80 : decode cX6_readsSum 80 = .ok (.aload_n 0, 1) := by decide +kernel
theorem dX6_readsSum_81 : decode cX6_readsSum 81 = .ok (.getfield 111, 3) := by decide +kernel
theorem dX6_readsSum_84 : decode cX6_readsSum 84 = .ok (.istore_n 3, 1) := by decide +kernel
theorem dX6_readsSum_85 : decode cX6_readsSum 85 = .ok (.aload_n 0, 1) := by decide +kernel
theorem dX6_readsSum_86 : decode cX6_readsSum 86 = .ok (.invokevirtual 187, 3) := by decide +kernel
theorem dX6_readsSum_89 : decode cX6_readsSum 89 = .ok (.istore_n 1, 1) := by decide +kernel
theorem dX6_readsSum_90 : decode cX6_readsSum 90 = .ok (.iload_n 1, 1) := by decide +kernel
theorem dX6_readsSum_91 : decode cX6_readsSum 91 = .ok (.ifCond .ne 11, 3) := by decide +kernel
theorem dX6_readsSum_94 : decode cX6_readsSum 94 = .ok (.aload_n 0, 1) := by decide +kernel
theorem dX6_readsSum_95 : decode cX6_readsSum 95 = .ok (.getfield 111, 3) := by decide +kernel
theorem dX6_readsSum_98 : decode cX6_readsSum 98 = .ok (.iload_n 3, 1) := by decide +kernel
theorem dX6_readsSum_99 : decode cX6_readsSum 99 = .ok (.if_icmp .le 7, 3) := by decide +kernel
theorem dX6_readsSum_102 : decode cX6_readsSum 102 = .ok (.iconst 1, 1) := by decide +kernel
theorem dX6_readsSum_103 : decode cX6_readsSum 103 = .ok (.goto 4, 3) := by decide +kernel
theorem dX6_readsSum_106 : decode cX6_readsSum 106 = .ok (.iconst 0, 1) := by decide +kernel
theorem dX6_readsSum_107 : decode cX6_readsSum 107 = .ok (.istore_n 2, 1) := by decide +kernel
theorem dX6_readsSum_108 : decode cX6_readsSum 108 = .ok (.goto (-74), 3) := by decide +kernel
theorem dX6_readsSum_111 : decode cX6_readsSum 111 = .ok (.aload_n 0, 1) := by decide +kernel
theorem dX6_readsSum_112 : decode cX6_readsSum 112 = .ok (.dup, 1) := by decide +kernel
theorem dX6_readsSum_113 : decode cX6_readsSum 113 = .ok (.getfield 145, 3) := by decide +kernel
theorem dX6_readsSum_116 : decode cX6_readsSum 116 = .ok (.iconst 1, 1) := by decide +kernel
theorem dX6_readsSum_117 : decode cX6_readsSum 117 = .ok (.iadd, 1) := by decide +kernel
theorem dX6_readsSum_118 : decode cX6_readsSum 118 = .ok (.putfield 145, 3) := by decide +kernel
theorem dX6_readsSum_121 : decode cX6_readsSum 121 = .ok (.return_, 1) := by decide +kernel
theorem dX6_readsItem_0 : decode cX6_readsItem 0 = .ok (.iload_n 1, 1) := by decide +kernel
theorem dX6_readsItem_1 : decode cX6_readsItem 1 = .ok (.bipush 70, 2) := by decide +kernel
theorem dX6_readsItem_3 : decode cX6_readsItem 3 = .ok (.if_icmp .ne 8, 3) := by decide +kernel
theorem dX6_readsItem_6 : decode cX6_readsItem 6 = .ok (.aload_n 0, 1) := by decide +kernel
theorem dX6_readsItem_7 : decode cX6_readsItem 7 = .ok (.invokevirtual 190, 3) := by decide +kernel
theorem dX6_readsItem_10 : decode cX6_readsItem 10 = .ok (.return_, 1) := by decide +kernel
theorem dX6_readsItem_11 : decode cX6_readsItem 11 = .ok (.aload_n 0, 1) := by decide +kernel
theorem dX6_readsItem_12 : decode cX6_readsItem 12 = .ok (.aload_n 0, 1) := by decide +kernel
theorem dX6_readsItem_13 : decode cX6_readsItem 13 = .ok (.invokevirtual 178, 3) := by decide +kernel
theorem dX6_readsItem_16 : decode cX6_readsItem 16 = .ok (.invokevirtual 137, 3) := by decide +kernel
theorem dX6_readsItem_19 : decode cX6_readsItem 19 = .ok (.bipush 97, 2) := by decide +kernel
theorem dX6_readsItem_21 : decode cX6_readsItem 21 = .ok (.isub, 1) := by decide +kernel
theorem dX6_readsItem_22 : decode cX6_readsItem 22 = .ok (.istore_n 2, 1) := by decide +kernel
theorem dX6_readsItem_23 : decode cX6_readsItem 23 = .ok (.iload_n 1, 1) := by decide +kernel
theorem dX6_readsItem_24 : decode cX6_readsItem 24 = .ok (.bipush 83, 2) := by decide +kernel
theorem dX6_readsItem_26 : decode cX6_readsItem 26 = .ok (.if_icmp .ne 49, 3) := by decide +kernel
theorem dX6_readsItem_29 : decode cX6_readsItem 29 = .ok (.aload_n 0, 1) := by decide +kernel
theorem dX6_readsItem_30 : decode cX6_readsItem 30 = .ok (.invokevirtual 193, 3) := by decide +kernel
theorem dX6_readsItem_33 : decode cX6_readsItem 33 = .ok (.istore_n 3, 1) := by decide +kernel
theorem dX6_readsItem_34 : decode cX6_readsItem 34 = .ok (.aload_n 0, 1) := by decide +kernel
theorem dX6_readsItem_35 : decode cX6_readsItem 35 = .ok (.aload_n 0, 1) := by decide +kernel
theorem dX6_readsItem_36 : decode cX6_readsItem 36 = .ok (.iconst 0, 1) := by decide +kernel
theorem dX6_readsItem_37 : decode cX6_readsItem 37 = .ok (.bipush 99, 2) := by decide +kernel
theorem dX6_readsItem_39 : decode cX6_readsItem 39 = .ok (.invokevirtual 141, 3) := by decide +kernel
theorem dX6_readsItem_42 : decode cX6_readsItem 42 = .ok (.invokevirtual 137, 3) := by decide +kernel
theorem dX6_readsItem_45 : decode cX6_readsItem 45 = .ok (.istore 4, 2) := by decide +kernel
theorem dX6_readsItem_47 : decode cX6_readsItem 47 = .ok (.aload_n 0, 1) := by decide +kernel
theorem dX6_readsItem_48 : decode cX6_readsItem 48 = .ok (.invokevirtual 127, 3) := by decide +kernel
theorem dX6_readsItem_51 : decode cX6_readsItem 51 = .ok (.ifCond .eq 21, 3) := by decide +kernel
theorem dX6_readsItem_54 : decode cX6_readsItem 54 = .ok (.aload_n 0, 1) := by decide +kernel
theorem dX6_readsItem_55 : decode cX6_readsItem 55 = .ok (.getfield 43, 3) := by decide +kernel
theorem dX6_readsItem_58 : decode cX6_readsItem 58 = .ok (.iload_n 2, 1) := by decide +kernel
theorem dX6_readsItem_59 : decode cX6_readsItem 59 = .ok (.iload_n 3, 1) := by decide +kernel
theorem dX6_readsItem_60 : decode cX6_readsItem 60 = .ok (.iastore, 1) := by decide +kernel
theorem dX6_readsItem_61 : decode cX6_readsItem 61 = .ok (.aload_n 0, 1) := by decide +kernel
theorem dX6_readsItem_62 : decode cX6_readsItem 62 = .ok (.getfield 43, 3) := by decide +kernel
theorem dX6_readsItem_65 : decode cX6_readsItem 65 = .ok (.bipush 6, 2) := by decide +kernel
theorem dX6_readsItem_67 : decode cX6_readsItem 67 = .ok (.iload_n 2, 1) := by decide +kernel
theorem dX6_readsItem_68 : decode cX6_readsItem 68 = .ok (.iadd, 1) := by decide +kernel
theorem dX6_readsItem_69 : decode cX6_readsItem 69 = .ok (.iload 4, 2) := by decide +kernel
theorem dX6_readsItem_71 : decode cX6_readsItem 71 = .ok (.iastore, 1) := by decide +kernel
theorem dX6_readsItem_72 : decode cX6_readsItem 72 = .ok (.goto 79, 3) := by decide +kernel
theorem dX6_readsItem_75 : decode cX6_readsItem 75 = .ok (.aload_n 0, 1) := by decide +kernel
theorem dX6_readsItem_76 : decode cX6_readsItem 76 = .ok (.aload_n 0, 1) := by decide +kernel
theorem dX6_readsItem_77 : decode cX6_readsItem 77 = .ok (.invokevirtual 178, 3) := by decide +kernel
theorem dX6_readsItem_80 : decode cX6_readsItem 80 = .ok (.ifCond .eq 18, 3) := by decide +kernel
theorem dX6_readsItem_83 : decode cX6_readsItem 83 = .ok (.aload_n 0, 1) := by decide +kernel
theorem dX6_readsItem_84 : decode cX6_readsItem 84 = .ok (.getfield 117, 3) := by decide +kernel
theorem dX6_readsItem_87 : decode cX6_readsItem 87 = .ok (.bipush 97, 2) := by decide +kernel
theorem dX6_readsItem_89 : decode cX6_readsItem 89 = .ok (.isub, 1) := by decide +kernel
theorem dX6_readsItem_90 : decode cX6_readsItem 90 = .ok (.iload_n 2, 1) := by decide +kernel
theorem dX6_readsItem_91 : decode cX6_readsItem 91 = .ok (.if_icmp .eq 7, 3) := by decide +kernel
theorem dX6_readsItem_94 : decode cX6_readsItem 94 = .ok (.iconst 1, 1) := by decide +kernel
theorem dX6_readsItem_95 : decode cX6_readsItem 95 = .ok (.goto 4, 3) := by decide +kernel
theorem dX6_readsItem_98 : decode cX6_readsItem 98 = .ok (.iconst 0, 1) := by decide +kernel
theorem dX6_readsItem_99 : decode cX6_readsItem 99 = .ok (.invokevirtual 137, 3) := by decide +kernel
theorem dX6_readsItem_102 : decode cX6_readsItem 102 = .ok (.bipush 97, 2) := by decide +kernel
theorem dX6_readsItem_104 : decode cX6_readsItem 104 = .ok (.isub, 1) := by decide +kernel
theorem dX6_readsItem_105 : decode cX6_readsItem 105 = .ok (.istore_n 3, 1) := by decide +kernel
theorem dX6_readsItem_106 : decode cX6_readsItem 106 = .ok (.aload_n 0, 1) := by decide +kernel
theorem dX6_readsItem_107 : decode cX6_readsItem 107 = .ok (.invokevirtual 193, 3) := by decide +kernel
theorem dX6_readsItem_110 : decode cX6_readsItem 110 = .ok (.istore 4, 2) := by decide +kernel
theorem dX6_readsItem_112 : decode cX6_readsItem 112 = .ok (.aload_n 0, 1) := by decide +kernel
theorem dX6_readsItem_113 : decode cX6_readsItem 113 = .ok (.invokevirtual 127, 3) := by decide +kernel
theorem dX6_readsItem_116 : decode cX6_readsItem 116 = .ok (.ifCond .eq 35, 3) := by decide +kernel
theorem dX6_readsItem_119 : decode cX6_readsItem 119 = .ok (.aload_n 0, 1) := by decide +kernel
theorem dX6_readsItem_120 : decode cX6_readsItem 120 = .ok (.getfield 43, 3) := by decide +kernel
theorem dX6_readsItem_123 : decode cX6_readsItem 123 = .ok (.bipush 12, 2) := by decide +kernel
theorem dX6_readsItem_125 : decode cX6_readsItem 125 = .ok (.bipush 6, 2) := by decide +kernel
theorem dX6_readsItem_127 : decode cX6_readsItem 127 = .ok (.iload_n 2, 1) := by decide +kernel
theorem dX6_readsItem_128 : decode cX6_readsItem 128 = .ok (.imul, 1) := by decide +kernel
theorem dX6_readsItem_129 : decode cX6_readsItem 129 = .ok (.iadd, 1) := by decide +kernel
theorem dX6_readsItem_130 : decode cX6_readsItem 130 = .ok (.iload_n 3, 1) := by decide +kernel
theorem dX6_readsItem_131 : decode cX6_readsItem 131 = .ok (.iadd, 1) := by decide +kernel
theorem dX6_readsItem_132 : decode cX6_readsItem 132 = .ok (.iload 4, 2) := by decide +kernel
theorem dX6_readsItem_134 : decode cX6_readsItem 134 = .ok (.iastore, 1) := by decide +kernel
theorem dX6_readsItem_135 : decode cX6_readsItem 135 = .ok (.aload_n 0, 1) := by decide +kernel
theorem dX6_readsItem_136 : decode cX6_readsItem 136 = .ok (.getfield 43, 3) := by decide +kernel
theorem dX6_readsItem_139 : decode cX6_readsItem 139 = .ok (.bipush 12, 2) := by decide +kernel
theorem dX6_readsItem_141 : decode cX6_readsItem 141 = .ok (.bipush 6, 2) := by decide +kernel
theorem dX6_readsItem_143 : decode cX6_readsItem 143 = .ok (.iload_n 3, 1) := by decide +kernel
theorem dX6_readsItem_144 : decode cX6_readsItem 144 = .ok (.imul, 1) := by decide +kernel
theorem dX6_readsItem_145 : decode cX6_readsItem 145 = .ok (.iadd, 1) := by decide +kernel
theorem dX6_readsItem_146 : decode cX6_readsItem 146 = .ok (.iload_n 2, 1) := by decide +kernel
theorem dX6_readsItem_147 : decode cX6_readsItem 147 = .ok (.iadd, 1) := by decide +kernel
theorem dX6_readsItem_148 : decode cX6_readsItem 148 = .ok (.iload 4, 2) := by decide +kernel
theorem dX6_readsItem_150 : decode cX6_readsItem 150 = .ok (.iastore, 1) := by decide +kernel
theorem dX6_readsItem_151 : decode cX6_readsItem 151 = .ok (.return_, 1) := by decide +kernel
theorem dX6_desk_0 : decode cX6_desk 0 = .ok (.aload_n 0, 1) := by decide +kernel
theorem dX6_desk_1 : decode cX6_desk 1 = .ok (.iconst 0, 1) := by decide +kernel
theorem dX6_desk_2 : decode cX6_desk 2 = .ok (.putfield 93, 3) := by decide +kernel
theorem dX6_desk_5 : decode cX6_desk 5 = .ok (.aload_n 0, 1) := by decide +kernel
theorem dX6_desk_6 : decode cX6_desk 6 = .ok (.iconst (-1), 1) := by decide +kernel
theorem dX6_desk_7 : decode cX6_desk 7 = .ok (.putfield 124, 3) := by decide +kernel
theorem dX6_desk_10 : decode cX6_desk 10 = .ok (.aload_n 0, 1) := by decide +kernel
theorem dX6_desk_11 : decode cX6_desk 11 = .ok (.iconst 0, 1) := by decide +kernel
theorem dX6_desk_12 : decode cX6_desk 12 = .ok (.putfield 104, 3) := by decide +kernel
theorem dX6_desk_15 : decode cX6_desk 15 = .ok (.aload_n 0, 1) := by decide +kernel
theorem dX6_desk_16 : decode cX6_desk 16 = .ok (.invokevirtual 87, 3) := by decide +kernel
theorem dX6_desk_19 : decode cX6_desk 19 = .ok (.iconst 0, 1) := by decide +kernel
theorem dX6_desk_20 : decode cX6_desk 20 = .ok (.istore_n 1, 1) := by decide +kernel
theorem dX6_desk_21 : decode cX6_desk 21 = .ok (.aload_n 0, 1) := by decide +kernel
theorem dX6_desk_22 : decode cX6_desk 22 = .ok (.invokevirtual 131, 3) := by decide +kernel
theorem dX6_desk_25 : decode cX6_desk 25 = .ok (.aload_n 0, 1) := by decide +kernel
theorem dX6_desk_26 : decode cX6_desk 26 = .ok (.invokevirtual 127, 3) := by decide +kernel
theorem dX6_desk_29 : decode cX6_desk 29 = .ok (.ifCond .eq 84, 3) := by decide +kernel
theorem dX6_desk_32 : decode cX6_desk 32 = .ok (.aload_n 0, 1) := by decide +kernel
theorem dX6_desk_33 : decode cX6_desk 33 = .ok (.getfield 114, 3) := by decide +kernel
theorem dX6_desk_36 : decode cX6_desk 36 = .ok (.ifCond .eq 77, 3) := by decide +kernel
theorem dX6_desk_39 : decode cX6_desk 39 = .ok (.aload_n 0, 1) := by decide +kernel
theorem dX6_desk_40 : decode cX6_desk 40 = .ok (.aload_n 0, 1) := by decide +kernel
theorem dX6_desk_41 : decode cX6_desk 41 = .ok (.bipush 83, 2) := by decide +kernel
theorem dX6_desk_43 : decode cX6_desk 43 = .ok (.invokevirtual 134, 3) := by decide +kernel
theorem dX6_desk_46 : decode cX6_desk 46 = .ok (.ifCond .ne 29, 3) := by decide +kernel
theorem dX6_desk_49 : decode cX6_desk 49 = .ok (.aload_n 0, 1) := by decide +kernel
theorem dX6_desk_50 : decode cX6_desk 50 = .ok (.bipush 67, 2) := by decide +kernel
theorem dX6_desk_52 : decode cX6_desk 52 = .ok (.invokevirtual 134, 3) := by decide +kernel
theorem dX6_desk_55 : decode cX6_desk 55 = .ok (.ifCond .ne 20, 3) := by decide +kernel
theorem dX6_desk_58 : decode cX6_desk 58 = .ok (.aload_n 0, 1) := by decide +kernel
theorem dX6_desk_59 : decode cX6_desk 59 = .ok (.bipush 70, 2) := by decide +kernel
theorem dX6_desk_61 : decode cX6_desk 61 = .ok (.invokevirtual 134, 3) := by decide +kernel
theorem dX6_desk_64 : decode cX6_desk 64 = .ok (.ifCond .eq 15, 3) := by decide +kernel
theorem dX6_desk_67 : decode cX6_desk 67 = .ok (.aload_n 0, 1) := by decide +kernel
theorem dX6_desk_68 : decode cX6_desk 68 = .ok (.getfield 145, 3) := by decide +kernel
theorem dX6_desk_71 : decode cX6_desk 71 = .ok (.iconst 4, 1) := by decide +kernel
theorem dX6_desk_72 : decode cX6_desk 72 = .ok (.if_icmp .ge 7, 3) := by decide +kernel
theorem dX6_desk_75 : decode cX6_desk 75 = .ok (.iconst 1, 1) := by decide +kernel
theorem dX6_desk_76 : decode cX6_desk 76 = .ok (.goto 4, 3) := by decide +kernel
theorem dX6_desk_79 : decode cX6_desk 79 = .ok (.iconst 0, 1) := by decide +kernel
theorem dX6_desk_80 : decode cX6_desk 80 = .ok (.invokevirtual 137, 3) := by decide +kernel
theorem dX6_desk_83 : decode cX6_desk 83 = .ok (.istore_n 2, 1) := by decide +kernel
theorem dX6_desk_84 : decode cX6_desk 84 = .ok (.aload_n 0, 1) := by decide +kernel
theorem dX6_desk_85 : decode cX6_desk 85 = .ok (.invokevirtual 127, 3) := by decide +kernel
theorem dX6_desk_88 : decode cX6_desk 88 = .ok (.ifCond .eq 8, 3) := by decide +kernel
theorem dX6_desk_91 : decode cX6_desk 91 = .ok (.aload_n 0, 1) := by decide +kernel
theorem dX6_desk_92 : decode cX6_desk 92 = .ok (.iload_n 2, 1) := by decide +kernel
theorem dX6_desk_93 : decode cX6_desk 93 = .ok (.invokevirtual 196, 3) := by decide +kernel
theorem dX6_desk_96 : decode cX6_desk 96 = .ok (.aload_n 0, 1) := by decide +kernel
theorem dX6_desk_97 : decode cX6_desk 97 = .ok (.aload_n 0, 1) := by decide +kernel
theorem dX6_desk_98 : decode cX6_desk 98 = .ok (.bipush 59, 2) := by decide +kernel
theorem dX6_desk_100 : decode cX6_desk 100 = .ok (.invokevirtual 134, 3) := by decide +kernel
theorem dX6_desk_103 : decode cX6_desk 103 = .ok (.invokevirtual 137, 3) := by decide +kernel
theorem dX6_desk_106 : decode cX6_desk 106 = .ok (.pop, 1) := by decide +kernel
theorem dX6_desk_107 : decode cX6_desk 107 = .ok (.iinc 1 1, 3) := by decide +kernel
theorem dX6_desk_110 : decode cX6_desk 110 = .ok (.goto (-85), 3) := by decide +kernel
theorem dX6_desk_113 : decode cX6_desk 113 = .ok (.aload_n 0, 1) := by decide +kernel
theorem dX6_desk_114 : decode cX6_desk 114 = .ok (.invokevirtual 127, 3) := by decide +kernel
theorem dX6_desk_117 : decode cX6_desk 117 = .ok (.ifCond .ne 11, 3) := by decide +kernel
theorem dX6_desk_120 : decode cX6_desk 120 = .ok (.bipush (-10), 2) := by decide +kernel
theorem dX6_desk_122 : decode cX6_desk 122 = .ok (.aload_n 0, 1) := by decide +kernel
theorem dX6_desk_123 : decode cX6_desk 123 = .ok (.getfield 124, 3) := by decide +kernel
theorem dX6_desk_126 : decode cX6_desk 126 = .ok (.isub, 1) := by decide +kernel
theorem dX6_desk_127 : decode cX6_desk 127 = .ok (.ireturn, 1) := by decide +kernel
theorem dX6_desk_128 : decode cX6_desk 128 = .ok (.aload_n 0, 1) := by decide +kernel
theorem dX6_desk_129 : decode cX6_desk 129 = .ok (.invokevirtual 90, 3) := by decide +kernel
theorem dX6_desk_132 : decode cX6_desk 132 = .ok (.iload_n 1, 1) := by decide +kernel
theorem dX6_desk_133 : decode cX6_desk 133 = .ok (.ireturn, 1) := by decide +kernel
theorem dX6_settles_0 : decode cX6_settles 0 = .ok (.aload_n 0, 1) := by decide +kernel
theorem dX6_settles_1 : decode cX6_settles 1 = .ok (.aload_n 0, 1) := by decide +kernel
theorem dX6_settles_2 : decode cX6_settles 2 = .ok (.getfield 145, 3) := by decide +kernel
theorem dX6_settles_5 : decode cX6_settles 5 = .ok (.putfield 199, 3) := by decide +kernel
theorem dX6_settles_8 : decode cX6_settles 8 = .ok (.iconst 0, 1) := by decide +kernel
theorem dX6_settles_9 : decode cX6_settles 9 = .ok (.istore_n 1, 1) := by decide +kernel
theorem dX6_settles_10 : decode cX6_settles 10 = .ok (.iload_n 1, 1) := by decide +kernel
theorem dX6_settles_11 : decode cX6_settles 11 = .ok (.iconst 4, 1) := by decide +kernel
theorem dX6_settles_12 : decode cX6_settles 12 = .ok (.if_icmp .ge 33, 3) := by decide +kernel
theorem dX6_settles_15 : decode cX6_settles 15 = .ok (.aload_n 0, 1) := by decide +kernel
theorem dX6_settles_16 : decode cX6_settles 16 = .ok (.getfield 13, 3) := by decide +kernel
theorem dX6_settles_19 : decode cX6_settles 19 = .ok (.iload_n 1, 1) := by decide +kernel
theorem dX6_settles_20 : decode cX6_settles 20 = .ok (.iload_n 1, 1) := by decide +kernel
theorem dX6_settles_21 : decode cX6_settles 21 = .ok (.aload_n 0, 1) := by decide +kernel
theorem dX6_settles_22 : decode cX6_settles 22 = .ok (.getfield 199, 3) := by decide +kernel
theorem dX6_settles_25 : decode cX6_settles 25 = .ok (.if_icmp .ge 12, 3) := by decide +kernel
theorem dX6_settles_28 : decode cX6_settles 28 = .ok (.aload_n 0, 1) := by decide +kernel
theorem dX6_settles_29 : decode cX6_settles 29 = .ok (.getfield 28, 3) := by decide +kernel
theorem dX6_settles_32 : decode cX6_settles 32 = .ok (.iload_n 1, 1) := by decide +kernel
theorem dX6_settles_33 : decode cX6_settles 33 = .ok (.iaload, 1) := by decide +kernel
theorem dX6_settles_34 : decode cX6_settles 34 = .ok (.goto 4, 3) := by decide +kernel
theorem dX6_settles_37 : decode cX6_settles 37 = .ok (.iconst 0, 1) := by decide +kernel
theorem dX6_settles_38 : decode cX6_settles 38 = .ok (.iastore, 1) := by decide +kernel
theorem dX6_settles_39 : decode cX6_settles 39 = .ok (.iinc 1 1, 3) := by decide +kernel
theorem dX6_settles_42 : decode cX6_settles 42 = .ok (.goto (-32), 3) := by decide +kernel
theorem dX6_settles_45 : decode cX6_settles 45 = .ok (.iconst 0, 1) := by decide +kernel
theorem dX6_settles_46 : decode cX6_settles 46 = .ok (.istore_n 1, 1) := by decide +kernel
theorem dX6_settles_47 : decode cX6_settles 47 = .ok (.iload_n 1, 1) := by decide +kernel
theorem dX6_settles_48 : decode cX6_settles 48 = .ok (.bipush 80, 2) := by decide +kernel
theorem dX6_settles_50 : decode cX6_settles 50 = .ok (.if_icmp .ge 57, 3) := by decide +kernel
theorem dX6_settles_53 : decode cX6_settles 53 = .ok (.aload_n 0, 1) := by decide +kernel
theorem dX6_settles_54 : decode cX6_settles 54 = .ok (.getfield 16, 3) := by decide +kernel
theorem dX6_settles_57 : decode cX6_settles 57 = .ok (.iload_n 1, 1) := by decide +kernel
theorem dX6_settles_58 : decode cX6_settles 58 = .ok (.aload_n 0, 1) := by decide +kernel
theorem dX6_settles_59 : decode cX6_settles 59 = .ok (.getfield 31, 3) := by decide +kernel
theorem dX6_settles_62 : decode cX6_settles 62 = .ok (.iload_n 1, 1) := by decide +kernel
theorem dX6_settles_63 : decode cX6_settles 63 = .ok (.iaload, 1) := by decide +kernel
theorem dX6_settles_64 : decode cX6_settles 64 = .ok (.iastore, 1) := by decide +kernel
theorem dX6_settles_65 : decode cX6_settles 65 = .ok (.aload_n 0, 1) := by decide +kernel
theorem dX6_settles_66 : decode cX6_settles 66 = .ok (.getfield 19, 3) := by decide +kernel
theorem dX6_settles_69 : decode cX6_settles 69 = .ok (.iload_n 1, 1) := by decide +kernel
theorem dX6_settles_70 : decode cX6_settles 70 = .ok (.aload_n 0, 1) := by decide +kernel
theorem dX6_settles_71 : decode cX6_settles 71 = .ok (.getfield 34, 3) := by decide +kernel
theorem dX6_settles_74 : decode cX6_settles 74 = .ok (.iload_n 1, 1) := by decide +kernel
theorem dX6_settles_75 : decode cX6_settles 75 = .ok (.iaload, 1) := by decide +kernel
theorem dX6_settles_76 : decode cX6_settles 76 = .ok (.iastore, 1) := by decide +kernel
theorem dX6_settles_77 : decode cX6_settles 77 = .ok (.aload_n 0, 1) := by decide +kernel
theorem dX6_settles_78 : decode cX6_settles 78 = .ok (.getfield 22, 3) := by decide +kernel
theorem dX6_settles_81 : decode cX6_settles 81 = .ok (.iload_n 1, 1) := by decide +kernel
theorem dX6_settles_82 : decode cX6_settles 82 = .ok (.aload_n 0, 1) := by decide +kernel
theorem dX6_settles_83 : decode cX6_settles 83 = .ok (.getfield 37, 3) := by decide +kernel
theorem dX6_settles_86 : decode cX6_settles 86 = .ok (.iload_n 1, 1) := by decide +kernel
theorem dX6_settles_87 : decode cX6_settles 87 = .ok (.iaload, 1) := by decide +kernel
theorem dX6_settles_88 : decode cX6_settles 88 = .ok (.iastore, 1) := by decide +kernel
theorem dX6_settles_89 : decode cX6_settles 89 = .ok (.aload_n 0, 1) := by decide +kernel
theorem dX6_settles_90 : decode cX6_settles 90 = .ok (.getfield 25, 3) := by decide +kernel
theorem dX6_settles_93 : decode cX6_settles 93 = .ok (.iload_n 1, 1) := by decide +kernel
theorem dX6_settles_94 : decode cX6_settles 94 = .ok (.aload_n 0, 1) := by decide +kernel
theorem dX6_settles_95 : decode cX6_settles 95 = .ok (.getfield 40, 3) := by decide +kernel
theorem dX6_settles_98 : decode cX6_settles 98 = .ok (.iload_n 1, 1) := by decide +kernel
theorem dX6_settles_99 : decode cX6_settles 99 = .ok (.iaload, 1) := by decide +kernel
theorem dX6_settles_100 : decode cX6_settles 100 = .ok (.iastore, 1) := by decide +kernel
theorem dX6_settles_101 : decode cX6_settles 101 = .ok (.iinc 1 1, 3) := by decide +kernel
theorem dX6_settles_104 : decode cX6_settles 104 = .ok (.goto (-57), 3) := by decide +kernel
theorem dX6_settles_107 : decode cX6_settles 107 = .ok (.iconst 0, 1) := by decide +kernel
theorem dX6_settles_108 : decode cX6_settles 108 = .ok (.istore_n 1, 1) := by decide +kernel
theorem dX6_settles_109 : decode cX6_settles 109 = .ok (.iload_n 1, 1) := by decide +kernel
theorem dX6_settles_110 : decode cX6_settles 110 = .ok (.bipush 48, 2) := by decide +kernel
theorem dX6_settles_112 : decode cX6_settles 112 = .ok (.if_icmp .ge 21, 3) := by decide +kernel
theorem dX6_settles_115 : decode cX6_settles 115 = .ok (.aload_n 0, 1) := by decide +kernel
theorem dX6_settles_116 : decode cX6_settles 116 = .ok (.getfield 46, 3) := by decide +kernel
theorem dX6_settles_119 : decode cX6_settles 119 = .ok (.iload_n 1, 1) := by decide +kernel
theorem dX6_settles_120 : decode cX6_settles 120 = .ok (.aload_n 0, 1) := by decide +kernel
theorem dX6_settles_121 : decode cX6_settles 121 = .ok (.getfield 43, 3) := by decide +kernel
theorem dX6_settles_124 : decode cX6_settles 124 = .ok (.iload_n 1, 1) := by decide +kernel
theorem dX6_settles_125 : decode cX6_settles 125 = .ok (.iaload, 1) := by decide +kernel
theorem dX6_settles_126 : decode cX6_settles 126 = .ok (.iastore, 1) := by decide +kernel
theorem dX6_settles_127 : decode cX6_settles 127 = .ok (.iinc 1 1, 3) := by decide +kernel
theorem dX6_settles_130 : decode cX6_settles 130 = .ok (.goto (-21), 3) := by decide +kernel
theorem dX6_settles_133 : decode cX6_settles 133 = .ok (.aload_n 0, 1) := by decide +kernel
theorem dX6_settles_134 : decode cX6_settles 134 = .ok (.iconst 0, 1) := by decide +kernel
theorem dX6_settles_135 : decode cX6_settles 135 = .ok (.putfield 101, 3) := by decide +kernel
theorem dX6_settles_138 : decode cX6_settles 138 = .ok (.aload_n 0, 1) := by decide +kernel
theorem dX6_settles_139 : decode cX6_settles 139 = .ok (.iconst 0, 1) := by decide +kernel
theorem dX6_settles_140 : decode cX6_settles 140 = .ok (.putfield 202, 3) := by decide +kernel
theorem dX6_settles_143 : decode cX6_settles 143 = .ok (.aload_n 0, 1) := by decide +kernel
theorem dX6_settles_144 : decode cX6_settles 144 = .ok (.iconst 0, 1) := by decide +kernel
theorem dX6_settles_145 : decode cX6_settles 145 = .ok (.putfield 205, 3) := by decide +kernel
theorem dX6_settles_148 : decode cX6_settles 148 = .ok (.aload_n 0, 1) := by decide +kernel
theorem dX6_settles_149 : decode cX6_settles 149 = .ok (.getfield 55, 3) := by decide +kernel
theorem dX6_settles_152 : decode cX6_settles 152 = .ok (.iconst 0, 1) := by decide +kernel
theorem dX6_settles_153 : decode cX6_settles 153 = .ok (.iconst 0, 1) := by decide +kernel
theorem dX6_settles_154 : decode cX6_settles 154 = .ok (.bastore, 1) := by decide +kernel
theorem dX6_settles_155 : decode cX6_settles 155 = .ok (.aload_n 0, 1) := by decide +kernel
theorem dX6_settles_156 : decode cX6_settles 156 = .ok (.getfield 55, 3) := by decide +kernel
theorem dX6_settles_159 : decode cX6_settles 159 = .ok (.iconst 1, 1) := by decide +kernel
theorem dX6_settles_160 : decode cX6_settles 160 = .ok (.iconst 0, 1) := by decide +kernel
theorem dX6_settles_161 : decode cX6_settles 161 = .ok (.bastore, 1) := by decide +kernel
theorem dX6_settles_162 : decode cX6_settles 162 = .ok (.return_, 1) := by decide +kernel
theorem dX6_isFormula_0 : decode cX6_isFormula 0 = .ok (.iload_n 1, 1) := by decide +kernel
theorem dX6_isFormula_1 : decode cX6_isFormula 1 = .ok (.iconst 0, 1) := by decide +kernel
theorem dX6_isFormula_2 : decode cX6_isFormula 2 = .ok (.aload_n 0, 1) := by decide +kernel
theorem dX6_isFormula_3 : decode cX6_isFormula 3 = .ok (.getfield 199, 3) := by decide +kernel
theorem dX6_isFormula_6 : decode cX6_isFormula 6 = .ok (.iconst 1, 1) := by decide +kernel
theorem dX6_isFormula_7 : decode cX6_isFormula 7 = .ok (.isub, 1) := by decide +kernel
theorem dX6_isFormula_8 : decode cX6_isFormula 8 = .ok (.invokestatic 97, 3) := by decide +kernel
theorem dX6_isFormula_11 : decode cX6_isFormula 11 = .ok (.ireturn, 1) := by decide +kernel
theorem dX6_isSource_0 : decode cX6_isSource 0 = .ok (.iload_n 0, 1) := by decide +kernel
theorem dX6_isSource_1 : decode cX6_isSource 1 = .ok (.iconst 0, 1) := by decide +kernel
theorem dX6_isSource_2 : decode cX6_isSource 2 = .ok (.iconst 5, 1) := by decide +kernel
theorem dX6_isSource_3 : decode cX6_isSource 3 = .ok (.invokestatic 97, 3) := by decide +kernel
theorem dX6_isSource_6 : decode cX6_isSource 6 = .ok (.ireturn, 1) := by decide +kernel
theorem dX6_source_0 : decode cX6_source 0 = .ok (.aload_n 0, 1) := by decide +kernel
theorem dX6_source_1 : decode cX6_source 1 = .ok (.iconst 0, 1) := by decide +kernel
theorem dX6_source_2 : decode cX6_source 2 = .ok (.putfield 93, 3) := by decide +kernel
theorem dX6_source_5 : decode cX6_source 5 = .ok (.iload_n 1, 1) := by decide +kernel
theorem dX6_source_6 : decode cX6_source 6 = .ok (.invokestatic 208, 3) := by decide +kernel
theorem dX6_source_9 : decode cX6_source 9 = .ok (.ifCond .eq 27, 3) := by decide +kernel
theorem dX6_source_12 : decode cX6_source 12 = .ok (.iload_n 2, 1) := by decide +kernel
theorem dX6_source_13 : decode cX6_source 13 = .ok (.iconst 0, 1) := by decide +kernel
theorem dX6_source_14 : decode cX6_source 14 = .ok (.iconst 1, 1) := by decide +kernel
theorem dX6_source_15 : decode cX6_source 15 = .ok (.invokestatic 97, 3) := by decide +kernel
theorem dX6_source_18 : decode cX6_source 18 = .ok (.ifCond .eq 18, 3) := by decide +kernel
theorem dX6_source_21 : decode cX6_source 21 = .ok (.aload_n 0, 1) := by decide +kernel
theorem dX6_source_22 : decode cX6_source 22 = .ok (.getfield 46, 3) := by decide +kernel
theorem dX6_source_25 : decode cX6_source 25 = .ok (.bipush 6, 2) := by decide +kernel
theorem dX6_source_27 : decode cX6_source 27 = .ok (.iload_n 2, 1) := by decide +kernel
theorem dX6_source_28 : decode cX6_source 28 = .ok (.imul, 1) := by decide +kernel
theorem dX6_source_29 : decode cX6_source 29 = .ok (.iload_n 1, 1) := by decide +kernel
theorem dX6_source_30 : decode cX6_source 30 = .ok (.iadd, 1) := by decide +kernel
theorem dX6_source_31 : decode cX6_source 31 = .ok (.iaload, 1) := by decide +kernel
theorem dX6_source_32 : decode cX6_source 32 = .ok (.i2l, 1) := by decide +kernel
theorem dX6_source_33 : decode cX6_source 33 = .ok (.goto 6, 3) := by decide +kernel
theorem dX6_source_36 : decode cX6_source 36 = .ok (.ldc2_w 211, 3) := by decide +kernel
theorem dX6_source_39 : decode cX6_source 39 = .ok (.lreturn, 1) := by decide +kernel
theorem dX6_jointOf_0 : decode cX6_jointOf 0 = .ok (.iload_n 1, 1) := by decide +kernel
theorem dX6_jointOf_1 : decode cX6_jointOf 1 = .ok (.iload_n 2, 1) := by decide +kernel
theorem dX6_jointOf_2 : decode cX6_jointOf 2 = .ok (.if_icmp .ne 15, 3) := by decide +kernel
theorem dX6_jointOf_5 : decode cX6_jointOf 5 = .ok (.aload_n 0, 1) := by decide +kernel
theorem dX6_jointOf_6 : decode cX6_jointOf 6 = .ok (.getfield 46, 3) := by decide +kernel
theorem dX6_jointOf_9 : decode cX6_jointOf 9 = .ok (.bipush 6, 2) := by decide +kernel
theorem dX6_jointOf_11 : decode cX6_jointOf 11 = .ok (.iload_n 1, 1) := by decide +kernel
theorem dX6_jointOf_12 : decode cX6_jointOf 12 = .ok (.iadd, 1) := by decide +kernel
theorem dX6_jointOf_13 : decode cX6_jointOf 13 = .ok (.iaload, 1) := by decide +kernel
theorem dX6_jointOf_14 : decode cX6_jointOf 14 = .ok (.goto 17, 3) := by decide +kernel
theorem dX6_jointOf_17 : decode cX6_jointOf 17 = .ok (.aload_n 0, 1) := by decide +kernel
theorem dX6_jointOf_18 : decode cX6_jointOf 18 = .ok (.getfield 46, 3) := by decide +kernel
theorem dX6_jointOf_21 : decode cX6_jointOf 21 = .ok (.bipush 12, 2) := by decide +kernel
theorem dX6_jointOf_23 : decode cX6_jointOf 23 = .ok (.bipush 6, 2) := by decide +kernel
theorem dX6_jointOf_25 : decode cX6_jointOf 25 = .ok (.iload_n 1, 1) := by decide +kernel
theorem dX6_jointOf_26 : decode cX6_jointOf 26 = .ok (.imul, 1) := by decide +kernel
theorem dX6_jointOf_27 : decode cX6_jointOf 27 = .ok (.iadd, 1) := by decide +kernel
theorem dX6_jointOf_28 : decode cX6_jointOf 28 = .ok (.iload_n 2, 1) := by decide +kernel
theorem dX6_jointOf_29 : decode cX6_jointOf 29 = .ok (.iadd, 1) := by decide +kernel
theorem dX6_jointOf_30 : decode cX6_jointOf 30 = .ok (.iaload, 1) := by decide +kernel
theorem dX6_jointOf_31 : decode cX6_jointOf 31 = .ok (.ireturn, 1) := by decide +kernel
theorem dX6_joint_0 : decode cX6_joint 0 = .ok (.aload_n 0, 1) := by decide +kernel
theorem dX6_joint_1 : decode cX6_joint 1 = .ok (.iconst 0, 1) := by decide +kernel
theorem dX6_joint_2 : decode cX6_joint 2 = .ok (.putfield 93, 3) := by decide +kernel
theorem dX6_joint_5 : decode cX6_joint 5 = .ok (.iload_n 1, 1) := by decide +kernel
theorem dX6_joint_6 : decode cX6_joint 6 = .ok (.invokestatic 208, 3) := by decide +kernel
theorem dX6_joint_9 : decode cX6_joint 9 = .ok (.ifCond .eq 20, 3) := by decide +kernel
theorem dX6_joint_12 : decode cX6_joint 12 = .ok (.iload_n 2, 1) := by decide +kernel
theorem dX6_joint_13 : decode cX6_joint 13 = .ok (.invokestatic 208, 3) := by decide +kernel
theorem dX6_joint_16 : decode cX6_joint 16 = .ok (.ifCond .eq 13, 3) := by decide +kernel
theorem dX6_joint_19 : decode cX6_joint 19 = .ok (.aload_n 0, 1) := by decide +kernel
theorem dX6_joint_20 : decode cX6_joint 20 = .ok (.iload_n 1, 1) := by decide +kernel
theorem dX6_joint_21 : decode cX6_joint 21 = .ok (.iload_n 2, 1) := by decide +kernel
theorem dX6_joint_22 : decode cX6_joint 22 = .ok (.invokevirtual 213, 3) := by decide +kernel
theorem dX6_joint_25 : decode cX6_joint 25 = .ok (.i2l, 1) := by decide +kernel
theorem dX6_joint_26 : decode cX6_joint 26 = .ok (.goto 6, 3) := by decide +kernel
theorem dX6_joint_29 : decode cX6_joint 29 = .ok (.ldc2_w 211, 3) := by decide +kernel
theorem dX6_joint_32 : decode cX6_joint 32 = .ok (.lreturn, 1) := by decide +kernel
theorem dX6_notes_0 : decode cX6_notes 0 = .ok (.aload_n 0, 1) := by decide +kernel
theorem dX6_notes_1 : decode cX6_notes 1 = .ok (.getfield 205, 3) := by decide +kernel
theorem dX6_notes_4 : decode cX6_notes 4 = .ok (.bipush 10, 2) := by decide +kernel
theorem dX6_notes_6 : decode cX6_notes 6 = .ok (.if_icmp .ne 39, 3) := by decide +kernel
theorem dX6_notes_9 : decode cX6_notes 9 = .ok (.iconst 0, 1) := by decide +kernel
theorem dX6_notes_10 : decode cX6_notes 10 = .ok (.istore_n 1, 1) := by decide +kernel
theorem dX6_notes_11 : decode cX6_notes 11 = .ok (.iload_n 1, 1) := by decide +kernel
theorem dX6_notes_12 : decode cX6_notes 12 = .ok (.sipush 432, 3) := by decide +kernel
theorem dX6_notes_15 : decode cX6_notes 15 = .ok (.if_icmp .ge 24, 3) := by decide +kernel
theorem dX6_notes_18 : decode cX6_notes 18 = .ok (.aload_n 0, 1) := by decide +kernel
theorem dX6_notes_19 : decode cX6_notes 19 = .ok (.getfield 49, 3) := by decide +kernel
theorem dX6_notes_22 : decode cX6_notes 22 = .ok (.iload_n 1, 1) := by decide +kernel
theorem dX6_notes_23 : decode cX6_notes 23 = .ok (.aload_n 0, 1) := by decide +kernel
theorem dX6_notes_24 : decode cX6_notes 24 = .ok (.getfield 49, 3) := by decide +kernel
theorem dX6_notes_27 : decode cX6_notes 27 = .ok (.iload_n 1, 1) := by decide +kernel
theorem dX6_notes_28 : decode cX6_notes 28 = .ok (.bipush 48, 2) := by decide +kernel
theorem dX6_notes_30 : decode cX6_notes 30 = .ok (.iadd, 1) := by decide +kernel
theorem dX6_notes_31 : decode cX6_notes 31 = .ok (.iaload, 1) := by decide +kernel
theorem dX6_notes_32 : decode cX6_notes 32 = .ok (.iastore, 1) := by decide +kernel
theorem dX6_notes_33 : decode cX6_notes 33 = .ok (.iinc 1 1, 3) := by decide +kernel
theorem dX6_notes_36 : decode cX6_notes 36 = .ok (.goto (-25), 3) := by decide +kernel
theorem dX6_notes_39 : decode cX6_notes 39 = .ok (.aload_n 0, 1) := by decide +kernel
theorem dX6_notes_40 : decode cX6_notes 40 = .ok (.bipush 9, 2) := by decide +kernel
theorem dX6_notes_42 : decode cX6_notes 42 = .ok (.putfield 205, 3) := by decide +kernel
theorem dX6_notes_45 : decode cX6_notes 45 = .ok (.iconst 0, 1) := by decide +kernel
theorem dX6_notes_46 : decode cX6_notes 46 = .ok (.istore_n 1, 1) := by decide +kernel
theorem dX6_notes_47 : decode cX6_notes 47 = .ok (.iload_n 1, 1) := by decide +kernel
theorem dX6_notes_48 : decode cX6_notes 48 = .ok (.bipush 48, 2) := by decide +kernel
theorem dX6_notes_50 : decode cX6_notes 50 = .ok (.if_icmp .ge 29, 3) := by decide +kernel
theorem dX6_notes_53 : decode cX6_notes 53 = .ok (.aload_n 0, 1) := by decide +kernel
theorem dX6_notes_54 : decode cX6_notes 54 = .ok (.getfield 49, 3) := by decide +kernel
theorem dX6_notes_57 : decode cX6_notes 57 = .ok (.bipush 48, 2) := by decide +kernel
theorem dX6_notes_59 : decode cX6_notes 59 = .ok (.aload_n 0, 1) := by decide +kernel
theorem dX6_notes_60 : decode cX6_notes 60 = .ok (.getfield 205, 3) := by decide +kernel
theorem dX6_notes_63 : decode cX6_notes 63 = .ok (.imul, 1) := by decide +kernel
theorem dX6_notes_64 : decode cX6_notes 64 = .ok (.iload_n 1, 1) := by decide +kernel
theorem dX6_notes_65 : decode cX6_notes 65 = .ok (.iadd, 1) := by decide +kernel
theorem dX6_notes_66 : decode cX6_notes 66 = .ok (.aload_n 0, 1) := by decide +kernel
theorem dX6_notes_67 : decode cX6_notes 67 = .ok (.getfield 46, 3) := by decide +kernel
theorem dX6_notes_70 : decode cX6_notes 70 = .ok (.iload_n 1, 1) := by decide +kernel
theorem dX6_notes_71 : decode cX6_notes 71 = .ok (.iaload, 1) := by decide +kernel
theorem dX6_notes_72 : decode cX6_notes 72 = .ok (.iastore, 1) := by decide +kernel
theorem dX6_notes_73 : decode cX6_notes 73 = .ok (.iinc 1 1, 3) := by decide +kernel
theorem dX6_notes_76 : decode cX6_notes 76 = .ok (.goto (-29), 3) := by decide +kernel
theorem dX6_notes_79 : decode cX6_notes 79 = .ok (.aload_n 0, 1) := by decide +kernel
theorem dX6_notes_80 : decode cX6_notes 80 = .ok (.dup, 1) := by decide +kernel
theorem dX6_notes_81 : decode cX6_notes 81 = .ok (.getfield 205, 3) := by decide +kernel
theorem dX6_notes_84 : decode cX6_notes 84 = .ok (.iconst 1, 1) := by decide +kernel
theorem dX6_notes_85 : decode cX6_notes 85 = .ok (.iadd, 1) := by decide +kernel
theorem dX6_notes_86 : decode cX6_notes 86 = .ok (.putfield 205, 3) := by decide +kernel
theorem dX6_notes_89 : decode cX6_notes 89 = .ok (.return_, 1) := by decide +kernel
theorem dX6_values_0 : decode cX6_values 0 = .ok (.aload_n 0, 1) := by decide +kernel
theorem dX6_values_1 : decode cX6_values 1 = .ok (.iconst 0, 1) := by decide +kernel
theorem dX6_values_2 : decode cX6_values 2 = .ok (.putfield 93, 3) := by decide +kernel
theorem dX6_values_5 : decode cX6_values 5 = .ok (.iload_n 1, 1) := by decide +kernel
theorem dX6_values_6 : decode cX6_values 6 = .ok (.invokestatic 208, 3) := by decide +kernel
theorem dX6_values_9 : decode cX6_values 9 = .ok (.ifCond .eq 14, 3) := by decide +kernel
theorem dX6_values_12 : decode cX6_values 12 = .ok (.iload_n 2, 1) := by decide +kernel
theorem dX6_values_13 : decode cX6_values 13 = .ok (.bipush (-99), 2) := by decide +kernel
theorem dX6_values_15 : decode cX6_values 15 = .ok (.bipush 99, 2) := by decide +kernel
theorem dX6_values_17 : decode cX6_values 17 = .ok (.invokestatic 97, 3) := by decide +kernel
theorem dX6_values_20 : decode cX6_values 20 = .ok (.ifCond .ne 5, 3) := by decide +kernel
theorem dX6_values_23 : decode cX6_values 23 = .ok (.iconst (-1), 1) := by decide +kernel
theorem dX6_values_24 : decode cX6_values 24 = .ok (.ireturn, 1) := by decide +kernel
theorem dX6_values_25 : decode cX6_values 25 = .ok (.aload_n 0, 1) := by decide +kernel
theorem dX6_values_26 : decode cX6_values 26 = .ok (.getfield 46, 3) := by decide +kernel
theorem dX6_values_29 : decode cX6_values 29 = .ok (.iload_n 1, 1) := by decide +kernel
theorem dX6_values_30 : decode cX6_values 30 = .ok (.iaload, 1) := by decide +kernel
theorem dX6_values_31 : decode cX6_values 31 = .ok (.iload_n 2, 1) := by decide +kernel
theorem dX6_values_32 : decode cX6_values 32 = .ok (.if_icmp .ne 6, 3) := by decide +kernel
theorem dX6_values_35 : decode cX6_values 35 = .ok (.bipush (-2), 2) := by decide +kernel
theorem dX6_values_37 : decode cX6_values 37 = .ok (.ireturn, 1) := by decide +kernel
theorem dX6_values_38 : decode cX6_values 38 = .ok (.aload_n 0, 1) := by decide +kernel
theorem dX6_values_39 : decode cX6_values 39 = .ok (.invokevirtual 217, 3) := by decide +kernel
theorem dX6_values_42 : decode cX6_values 42 = .ok (.aload_n 0, 1) := by decide +kernel
theorem dX6_values_43 : decode cX6_values 43 = .ok (.getfield 46, 3) := by decide +kernel
theorem dX6_values_46 : decode cX6_values 46 = .ok (.iload_n 1, 1) := by decide +kernel
theorem dX6_values_47 : decode cX6_values 47 = .ok (.iload_n 2, 1) := by decide +kernel
theorem dX6_values_48 : decode cX6_values 48 = .ok (.iastore, 1) := by decide +kernel
theorem dX6_values_49 : decode cX6_values 49 = .ok (.iconst 1, 1) := by decide +kernel
theorem dX6_values_50 : decode cX6_values 50 = .ok (.ireturn, 1) := by decide +kernel
theorem dX6_spreads_0 : decode cX6_spreads 0 = .ok (.aload_n 0, 1) := by decide +kernel
theorem dX6_spreads_1 : decode cX6_spreads 1 = .ok (.iconst 0, 1) := by decide +kernel
theorem dX6_spreads_2 : decode cX6_spreads 2 = .ok (.putfield 93, 3) := by decide +kernel
theorem dX6_spreads_5 : decode cX6_spreads 5 = .ok (.iload_n 1, 1) := by decide +kernel
theorem dX6_spreads_6 : decode cX6_spreads 6 = .ok (.invokestatic 208, 3) := by decide +kernel
theorem dX6_spreads_9 : decode cX6_spreads 9 = .ok (.ifCond .eq 13, 3) := by decide +kernel
theorem dX6_spreads_12 : decode cX6_spreads 12 = .ok (.iload_n 2, 1) := by decide +kernel
theorem dX6_spreads_13 : decode cX6_spreads 13 = .ok (.iconst 0, 1) := by decide +kernel
theorem dX6_spreads_14 : decode cX6_spreads 14 = .ok (.bipush 99, 2) := by decide +kernel
theorem dX6_spreads_16 : decode cX6_spreads 16 = .ok (.invokestatic 97, 3) := by decide +kernel
theorem dX6_spreads_19 : decode cX6_spreads 19 = .ok (.ifCond .ne 5, 3) := by decide +kernel
theorem dX6_spreads_22 : decode cX6_spreads 22 = .ok (.iconst (-1), 1) := by decide +kernel
theorem dX6_spreads_23 : decode cX6_spreads 23 = .ok (.ireturn, 1) := by decide +kernel
theorem dX6_spreads_24 : decode cX6_spreads 24 = .ok (.aload_n 0, 1) := by decide +kernel
theorem dX6_spreads_25 : decode cX6_spreads 25 = .ok (.invokevirtual 217, 3) := by decide +kernel
theorem dX6_spreads_28 : decode cX6_spreads 28 = .ok (.aload_n 0, 1) := by decide +kernel
theorem dX6_spreads_29 : decode cX6_spreads 29 = .ok (.getfield 46, 3) := by decide +kernel
theorem dX6_spreads_32 : decode cX6_spreads 32 = .ok (.bipush 6, 2) := by decide +kernel
theorem dX6_spreads_34 : decode cX6_spreads 34 = .ok (.iload_n 1, 1) := by decide +kernel
theorem dX6_spreads_35 : decode cX6_spreads 35 = .ok (.iadd, 1) := by decide +kernel
theorem dX6_spreads_36 : decode cX6_spreads 36 = .ok (.iaload, 1) := by decide +kernel
theorem dX6_spreads_37 : decode cX6_spreads 37 = .ok (.istore_n 3, 1) := by decide +kernel
theorem dX6_spreads_38 : decode cX6_spreads 38 = .ok (.aload_n 0, 1) := by decide +kernel
theorem dX6_spreads_39 : decode cX6_spreads 39 = .ok (.getfield 46, 3) := by decide +kernel
theorem dX6_spreads_42 : decode cX6_spreads 42 = .ok (.bipush 6, 2) := by decide +kernel
theorem dX6_spreads_44 : decode cX6_spreads 44 = .ok (.iload_n 1, 1) := by decide +kernel
theorem dX6_spreads_45 : decode cX6_spreads 45 = .ok (.iadd, 1) := by decide +kernel
theorem dX6_spreads_46 : decode cX6_spreads 46 = .ok (.iload_n 2, 1) := by decide +kernel
theorem dX6_spreads_47 : decode cX6_spreads 47 = .ok (.iastore, 1) := by decide +kernel
theorem dX6_spreads_48 : decode cX6_spreads 48 = .ok (.iload_n 3, 1) := by decide +kernel
theorem dX6_spreads_49 : decode cX6_spreads 49 = .ok (.ireturn, 1) := by decide +kernel
theorem dX6_joints_0 : decode cX6_joints 0 = .ok (.aload_n 0, 1) := by decide +kernel
theorem dX6_joints_1 : decode cX6_joints 1 = .ok (.iconst 0, 1) := by decide +kernel
theorem dX6_joints_2 : decode cX6_joints 2 = .ok (.putfield 93, 3) := by decide +kernel
theorem dX6_joints_5 : decode cX6_joints 5 = .ok (.iload_n 1, 1) := by decide +kernel
theorem dX6_joints_6 : decode cX6_joints 6 = .ok (.invokestatic 208, 3) := by decide +kernel
theorem dX6_joints_9 : decode cX6_joints 9 = .ok (.ifCond .eq 26, 3) := by decide +kernel
theorem dX6_joints_12 : decode cX6_joints 12 = .ok (.iload_n 2, 1) := by decide +kernel
theorem dX6_joints_13 : decode cX6_joints 13 = .ok (.invokestatic 208, 3) := by decide +kernel
theorem dX6_joints_16 : decode cX6_joints 16 = .ok (.ifCond .eq 19, 3) := by decide +kernel
theorem dX6_joints_19 : decode cX6_joints 19 = .ok (.iload_n 1, 1) := by decide +kernel
theorem dX6_joints_20 : decode cX6_joints 20 = .ok (.iload_n 2, 1) := by decide +kernel
theorem dX6_joints_21 : decode cX6_joints 21 = .ok (.if_icmp .eq 14, 3) := by decide +kernel
theorem dX6_joints_24 : decode cX6_joints 24 = .ok (.iload_n 3, 1) := by decide +kernel
theorem dX6_joints_25 : decode cX6_joints 25 = .ok (.bipush (-99), 2) := by decide +kernel
theorem dX6_joints_27 : decode cX6_joints 27 = .ok (.bipush 99, 2) := by decide +kernel
theorem dX6_joints_29 : decode cX6_joints 29 = .ok (.invokestatic 97, 3) := by decide +kernel
theorem dX6_joints_32 : decode cX6_joints 32 = .ok (.ifCond .ne 5, 3) := by decide +kernel
theorem dX6_joints_35 : decode cX6_joints 35 = .ok (.iconst (-1), 1) := by decide +kernel
theorem dX6_joints_36 : decode cX6_joints 36 = .ok (.ireturn, 1) := by decide +kernel
theorem dX6_joints_37 : decode cX6_joints 37 = .ok (.aload_n 0, 1) := by decide +kernel
theorem dX6_joints_38 : decode cX6_joints 38 = .ok (.iload_n 1, 1) := by decide +kernel
theorem dX6_joints_39 : decode cX6_joints 39 = .ok (.iload_n 2, 1) := by decide +kernel
theorem dX6_joints_40 : decode cX6_joints 40 = .ok (.invokevirtual 213, 3) := by decide +kernel
theorem dX6_joints_43 : decode cX6_joints 43 = .ok (.iload_n 3, 1) := by decide +kernel
theorem dX6_joints_44 : decode cX6_joints 44 = .ok (.if_icmp .ne 6, 3) := by decide +kernel
theorem dX6_joints_47 : decode cX6_joints 47 = .ok (.bipush (-2), 2) := by decide +kernel
theorem dX6_joints_49 : decode cX6_joints 49 = .ok (.ireturn, 1) := by decide +kernel
theorem dX6_joints_50 : decode cX6_joints 50 = .ok (.aload_n 0, 1) := by decide +kernel
theorem dX6_joints_51 : decode cX6_joints 51 = .ok (.invokevirtual 217, 3) := by decide +kernel
theorem dX6_joints_54 : decode cX6_joints 54 = .ok (.aload_n 0, 1) := by decide +kernel
theorem dX6_joints_55 : decode cX6_joints 55 = .ok (.getfield 46, 3) := by decide +kernel
theorem dX6_joints_58 : decode cX6_joints 58 = .ok (.bipush 12, 2) := by decide +kernel
theorem dX6_joints_60 : decode cX6_joints 60 = .ok (.bipush 6, 2) := by decide +kernel
theorem dX6_joints_62 : decode cX6_joints 62 = .ok (.iload_n 1, 1) := by decide +kernel
theorem dX6_joints_63 : decode cX6_joints 63 = .ok (.imul, 1) := by decide +kernel
theorem dX6_joints_64 : decode cX6_joints 64 = .ok (.iadd, 1) := by decide +kernel
theorem dX6_joints_65 : decode cX6_joints 65 = .ok (.iload_n 2, 1) := by decide +kernel
theorem dX6_joints_66 : decode cX6_joints 66 = .ok (.iadd, 1) := by decide +kernel
theorem dX6_joints_67 : decode cX6_joints 67 = .ok (.iload_n 3, 1) := by decide +kernel
theorem dX6_joints_68 : decode cX6_joints 68 = .ok (.iastore, 1) := by decide +kernel
theorem dX6_joints_69 : decode cX6_joints 69 = .ok (.aload_n 0, 1) := by decide +kernel
theorem dX6_joints_70 : decode cX6_joints 70 = .ok (.getfield 46, 3) := by decide +kernel
theorem dX6_joints_73 : decode cX6_joints 73 = .ok (.bipush 12, 2) := by decide +kernel
theorem dX6_joints_75 : decode cX6_joints 75 = .ok (.bipush 6, 2) := by decide +kernel
theorem dX6_joints_77 : decode cX6_joints 77 = .ok (.iload_n 2, 1) := by decide +kernel
theorem dX6_joints_78 : decode cX6_joints 78 = .ok (.imul, 1) := by decide +kernel
theorem dX6_joints_79 : decode cX6_joints 79 = .ok (.iadd, 1) := by decide +kernel
theorem dX6_joints_80 : decode cX6_joints 80 = .ok (.iload_n 1, 1) := by decide +kernel
theorem dX6_joints_81 : decode cX6_joints 81 = .ok (.iadd, 1) := by decide +kernel
theorem dX6_joints_82 : decode cX6_joints 82 = .ok (.iload_n 3, 1) := by decide +kernel
theorem dX6_joints_83 : decode cX6_joints 83 = .ok (.iastore, 1) := by decide +kernel
theorem dX6_joints_84 : decode cX6_joints 84 = .ok (.iconst 1, 1) := by decide +kernel
theorem dX6_joints_85 : decode cX6_joints 85 = .ok (.ireturn, 1) := by decide +kernel
theorem dX6_undo_0 : decode cX6_undo 0 = .ok (.aload_n 0, 1) := by decide +kernel
theorem dX6_undo_1 : decode cX6_undo 1 = .ok (.iconst 0, 1) := by decide +kernel
theorem dX6_undo_2 : decode cX6_undo 2 = .ok (.putfield 93, 3) := by decide +kernel
theorem dX6_undo_5 : decode cX6_undo 5 = .ok (.aload_n 0, 1) := by decide +kernel
theorem dX6_undo_6 : decode cX6_undo 6 = .ok (.getfield 205, 3) := by decide +kernel
theorem dX6_undo_9 : decode cX6_undo 9 = .ok (.ifCond .ne 6, 3) := by decide +kernel
theorem dX6_undo_12 : decode cX6_undo 12 = .ok (.bipush (-2), 2) := by decide +kernel
theorem dX6_undo_14 : decode cX6_undo 14 = .ok (.ireturn, 1) := by decide +kernel
theorem dX6_undo_15 : decode cX6_undo 15 = .ok (.aload_n 0, 1) := by decide +kernel
theorem dX6_undo_16 : decode cX6_undo 16 = .ok (.dup, 1) := by decide +kernel
theorem dX6_undo_17 : decode cX6_undo 17 = .ok (.getfield 205, 3) := by decide +kernel
theorem dX6_undo_20 : decode cX6_undo 20 = .ok (.iconst 1, 1) := by decide +kernel
theorem dX6_undo_21 : decode cX6_undo 21 = .ok (.isub, 1) := by decide +kernel
theorem dX6_undo_22 : decode cX6_undo 22 = .ok (.putfield 205, 3) := by decide +kernel
theorem dX6_undo_25 : decode cX6_undo 25 = .ok (.iconst 0, 1) := by decide +kernel
theorem dX6_undo_26 : decode cX6_undo 26 = .ok (.istore_n 1, 1) := by decide +kernel
theorem dX6_undo_27 : decode cX6_undo 27 = .ok (.iload_n 1, 1) := by decide +kernel
theorem dX6_undo_28 : decode cX6_undo 28 = .ok (.bipush 48, 2) := by decide +kernel
theorem dX6_undo_30 : decode cX6_undo 30 = .ok (.if_icmp .ge 29, 3) := by decide +kernel
theorem dX6_undo_33 : decode cX6_undo 33 = .ok (.aload_n 0, 1) := by decide +kernel
theorem dX6_undo_34 : decode cX6_undo 34 = .ok (.getfield 46, 3) := by decide +kernel
theorem dX6_undo_37 : decode cX6_undo 37 = .ok (.iload_n 1, 1) := by decide +kernel
theorem dX6_undo_38 : decode cX6_undo 38 = .ok (.aload_n 0, 1) := by decide +kernel
theorem dX6_undo_39 : decode cX6_undo 39 = .ok (.getfield 49, 3) := by decide +kernel
theorem dX6_undo_42 : decode cX6_undo 42 = .ok (.bipush 48, 2) := by decide +kernel
theorem dX6_undo_44 : decode cX6_undo 44 = .ok (.aload_n 0, 1) := by decide +kernel
theorem dX6_undo_45 : decode cX6_undo 45 = .ok (.getfield 205, 3) := by decide +kernel
theorem dX6_undo_48 : decode cX6_undo 48 = .ok (.imul, 1) := by decide +kernel
theorem dX6_undo_49 : decode cX6_undo 49 = .ok (.iload_n 1, 1) := by decide +kernel
theorem dX6_undo_50 : decode cX6_undo 50 = .ok (.iadd, 1) := by decide +kernel
theorem dX6_undo_51 : decode cX6_undo 51 = .ok (.iaload, 1) := by decide +kernel
theorem dX6_undo_52 : decode cX6_undo 52 = .ok (.iastore, 1) := by decide +kernel
theorem dX6_undo_53 : decode cX6_undo 53 = .ok (.iinc 1 1, 3) := by decide +kernel
theorem dX6_undo_56 : decode cX6_undo 56 = .ok (.goto (-29), 3) := by decide +kernel
theorem dX6_undo_59 : decode cX6_undo 59 = .ok (.aload_n 0, 1) := by decide +kernel
theorem dX6_undo_60 : decode cX6_undo 60 = .ok (.getfield 205, 3) := by decide +kernel
theorem dX6_undo_63 : decode cX6_undo 63 = .ok (.ireturn, 1) := by decide +kernel
theorem dX6_power_0 : decode cX6_power 0 = .ok (.lconst 1, 1) := by decide +kernel
theorem dX6_power_1 : decode cX6_power 1 = .ok (.lstore_n 3, 1) := by decide +kernel
theorem dX6_power_2 : decode cX6_power 2 = .ok (.iconst 0, 1) := by decide +kernel
theorem dX6_power_3 : decode cX6_power 3 = .ok (.istore 5, 2) := by decide +kernel
theorem dX6_power_5 : decode cX6_power 5 = .ok (.iload 5, 2) := by decide +kernel
theorem dX6_power_7 : decode cX6_power 7 = .ok (.iload_n 2, 1) := by decide +kernel
theorem dX6_power_8 : decode cX6_power 8 = .ok (.if_icmp .ge 13, 3) := by decide +kernel
theorem dX6_power_11 : decode cX6_power 11 = .ok (.lload_n 3, 1) := by decide +kernel
theorem dX6_power_12 : decode cX6_power 12 = .ok (.lload_n 0, 1) := by decide +kernel
theorem dX6_power_13 : decode cX6_power 13 = .ok (.lmul, 1) := by decide +kernel
theorem dX6_power_14 : decode cX6_power 14 = .ok (.lstore_n 3, 1) := by decide +kernel
theorem dX6_power_15 : decode cX6_power 15 = .ok (.iinc 5 1, 3) := by decide +kernel
theorem dX6_power_18 : decode cX6_power 18 = .ok (.goto (-13), 3) := by decide +kernel
theorem dX6_power_21 : decode cX6_power 21 = .ok (.lload_n 3, 1) := by decide +kernel
theorem dX6_power_22 : decode cX6_power 22 = .ok (.lreturn, 1) := by decide +kernel
theorem dX6_copiesNode_0 : decode cX6_copiesNode 0 = .ok (.aload_n 0, 1) := by decide +kernel
theorem dX6_copiesNode_1 : decode cX6_copiesNode 1 = .ok (.getfield 72, 3) := by decide +kernel
theorem dX6_copiesNode_4 : decode cX6_copiesNode 4 = .ok (.iload_n 2, 1) := by decide +kernel
theorem dX6_copiesNode_5 : decode cX6_copiesNode 5 = .ok (.aload_n 0, 1) := by decide +kernel
theorem dX6_copiesNode_6 : decode cX6_copiesNode 6 = .ok (.getfield 72, 3) := by decide +kernel
theorem dX6_copiesNode_9 : decode cX6_copiesNode 9 = .ok (.iload_n 1, 1) := by decide +kernel
theorem dX6_copiesNode_10 : decode cX6_copiesNode 10 = .ok (.laload, 1) := by decide +kernel
theorem dX6_copiesNode_11 : decode cX6_copiesNode 11 = .ok (.lastore, 1) := by decide +kernel
theorem dX6_copiesNode_12 : decode cX6_copiesNode 12 = .ok (.iconst 0, 1) := by decide +kernel
theorem dX6_copiesNode_13 : decode cX6_copiesNode 13 = .ok (.istore_n 3, 1) := by decide +kernel
theorem dX6_copiesNode_14 : decode cX6_copiesNode 14 = .ok (.iload_n 3, 1) := by decide +kernel
theorem dX6_copiesNode_15 : decode cX6_copiesNode 15 = .ok (.bipush 6, 2) := by decide +kernel
theorem dX6_copiesNode_17 : decode cX6_copiesNode 17 = .ok (.if_icmp .ge 31, 3) := by decide +kernel
theorem dX6_copiesNode_20 : decode cX6_copiesNode 20 = .ok (.aload_n 0, 1) := by decide +kernel
theorem dX6_copiesNode_21 : decode cX6_copiesNode 21 = .ok (.getfield 75, 3) := by decide +kernel
theorem dX6_copiesNode_24 : decode cX6_copiesNode 24 = .ok (.bipush 6, 2) := by decide +kernel
theorem dX6_copiesNode_26 : decode cX6_copiesNode 26 = .ok (.iload_n 2, 1) := by decide +kernel
theorem dX6_copiesNode_27 : decode cX6_copiesNode 27 = .ok (.imul, 1) := by decide +kernel
theorem dX6_copiesNode_28 : decode cX6_copiesNode 28 = .ok (.iload_n 3, 1) := by decide +kernel
theorem dX6_copiesNode_29 : decode cX6_copiesNode 29 = .ok (.iadd, 1) := by decide +kernel
theorem dX6_copiesNode_30 : decode cX6_copiesNode 30 = .ok (.aload_n 0, 1) := by decide +kernel
theorem dX6_copiesNode_31 : decode cX6_copiesNode 31 = .ok (.getfield 75, 3) := by decide +kernel
theorem dX6_copiesNode_34 : decode cX6_copiesNode 34 = .ok (.bipush 6, 2) := by decide +kernel
theorem dX6_copiesNode_36 : decode cX6_copiesNode 36 = .ok (.iload_n 1, 1) := by decide +kernel
theorem dX6_copiesNode_37 : decode cX6_copiesNode 37 = .ok (.imul, 1) := by decide +kernel
theorem dX6_copiesNode_38 : decode cX6_copiesNode 38 = .ok (.iload_n 3, 1) := by decide +kernel
theorem dX6_copiesNode_39 : decode cX6_copiesNode 39 = .ok (.iadd, 1) := by decide +kernel
theorem dX6_copiesNode_40 : decode cX6_copiesNode 40 = .ok (.laload, 1) := by decide +kernel
theorem dX6_copiesNode_41 : decode cX6_copiesNode 41 = .ok (.lastore, 1) := by decide +kernel
theorem dX6_copiesNode_42 : decode cX6_copiesNode 42 = .ok (.iinc 3 1, 3) := by decide +kernel
theorem dX6_copiesNode_45 : decode cX6_copiesNode 45 = .ok (.goto (-31), 3) := by decide +kernel
theorem dX6_copiesNode_48 : decode cX6_copiesNode 48 = .ok (.iconst 0, 1) := by decide +kernel
theorem dX6_copiesNode_49 : decode cX6_copiesNode 49 = .ok (.istore_n 3, 1) := by decide +kernel
theorem dX6_copiesNode_50 : decode cX6_copiesNode 50 = .ok (.iload_n 3, 1) := by decide +kernel
theorem dX6_copiesNode_51 : decode cX6_copiesNode 51 = .ok (.bipush 36, 2) := by decide +kernel
theorem dX6_copiesNode_53 : decode cX6_copiesNode 53 = .ok (.if_icmp .ge 31, 3) := by decide +kernel
theorem dX6_copiesNode_56 : decode cX6_copiesNode 56 = .ok (.aload_n 0, 1) := by decide +kernel
theorem dX6_copiesNode_57 : decode cX6_copiesNode 57 = .ok (.getfield 78, 3) := by decide +kernel
theorem dX6_copiesNode_60 : decode cX6_copiesNode 60 = .ok (.bipush 36, 2) := by decide +kernel
theorem dX6_copiesNode_62 : decode cX6_copiesNode 62 = .ok (.iload_n 2, 1) := by decide +kernel
theorem dX6_copiesNode_63 : decode cX6_copiesNode 63 = .ok (.imul, 1) := by decide +kernel
theorem dX6_copiesNode_64 : decode cX6_copiesNode 64 = .ok (.iload_n 3, 1) := by decide +kernel
theorem dX6_copiesNode_65 : decode cX6_copiesNode 65 = .ok (.iadd, 1) := by decide +kernel
theorem dX6_copiesNode_66 : decode cX6_copiesNode 66 = .ok (.aload_n 0, 1) := by decide +kernel
theorem dX6_copiesNode_67 : decode cX6_copiesNode 67 = .ok (.getfield 78, 3) := by decide +kernel
theorem dX6_copiesNode_70 : decode cX6_copiesNode 70 = .ok (.bipush 36, 2) := by decide +kernel
theorem dX6_copiesNode_72 : decode cX6_copiesNode 72 = .ok (.iload_n 1, 1) := by decide +kernel
theorem dX6_copiesNode_73 : decode cX6_copiesNode 73 = .ok (.imul, 1) := by decide +kernel
theorem dX6_copiesNode_74 : decode cX6_copiesNode 74 = .ok (.iload_n 3, 1) := by decide +kernel
theorem dX6_copiesNode_75 : decode cX6_copiesNode 75 = .ok (.iadd, 1) := by decide +kernel
theorem dX6_copiesNode_76 : decode cX6_copiesNode 76 = .ok (.laload, 1) := by decide +kernel
theorem dX6_copiesNode_77 : decode cX6_copiesNode 77 = .ok (.lastore, 1) := by decide +kernel
theorem dX6_copiesNode_78 : decode cX6_copiesNode 78 = .ok (.iinc 3 1, 3) := by decide +kernel
theorem dX6_copiesNode_81 : decode cX6_copiesNode 81 = .ok (.goto (-31), 3) := by decide +kernel
theorem dX6_copiesNode_84 : decode cX6_copiesNode 84 = .ok (.return_, 1) := by decide +kernel
theorem dX6_goesLeaf_0 : decode cX6_goesLeaf 0 = .ok (.aload_n 0, 1) := by decide +kernel
theorem dX6_goesLeaf_1 : decode cX6_goesLeaf 1 = .ok (.getfield 72, 3) := by decide +kernel
theorem dX6_goesLeaf_4 : decode cX6_goesLeaf 4 = .ok (.iload_n 1, 1) := by decide +kernel
theorem dX6_goesLeaf_5 : decode cX6_goesLeaf 5 = .ok (.aload_n 0, 1) := by decide +kernel
theorem dX6_goesLeaf_6 : decode cX6_goesLeaf 6 = .ok (.getfield 16, 3) := by decide +kernel
theorem dX6_goesLeaf_9 : decode cX6_goesLeaf 9 = .ok (.iload_n 1, 1) := by decide +kernel
theorem dX6_goesLeaf_10 : decode cX6_goesLeaf 10 = .ok (.iaload, 1) := by decide +kernel
theorem dX6_goesLeaf_11 : decode cX6_goesLeaf 11 = .ok (.ifCond .ne 13, 3) := by decide +kernel
theorem dX6_goesLeaf_14 : decode cX6_goesLeaf 14 = .ok (.aload_n 0, 1) := by decide +kernel
theorem dX6_goesLeaf_15 : decode cX6_goesLeaf 15 = .ok (.getfield 19, 3) := by decide +kernel
theorem dX6_goesLeaf_18 : decode cX6_goesLeaf 18 = .ok (.iload_n 1, 1) := by decide +kernel
theorem dX6_goesLeaf_19 : decode cX6_goesLeaf 19 = .ok (.iaload, 1) := by decide +kernel
theorem dX6_goesLeaf_20 : decode cX6_goesLeaf 20 = .ok (.i2l, 1) := by decide +kernel
theorem dX6_goesLeaf_21 : decode cX6_goesLeaf 21 = .ok (.goto 15, 3) := by decide +kernel
theorem dX6_goesLeaf_24 : decode cX6_goesLeaf 24 = .ok (.aload_n 0, 1) := by decide +kernel
theorem dX6_goesLeaf_25 : decode cX6_goesLeaf 25 = .ok (.getfield 46, 3) := by decide +kernel
theorem dX6_goesLeaf_28 : decode cX6_goesLeaf 28 = .ok (.aload_n 0, 1) := by decide +kernel
theorem dX6_goesLeaf_29 : decode cX6_goesLeaf 29 = .ok (.getfield 19, 3) := by decide +kernel
theorem dX6_goesLeaf_32 : decode cX6_goesLeaf 32 = .ok (.iload_n 1, 1) := by decide +kernel
theorem dX6_goesLeaf_33 : decode cX6_goesLeaf 33 = .ok (.iaload, 1) := by decide +kernel
theorem dX6_goesLeaf_34 : decode cX6_goesLeaf 34 = .ok (.iaload, 1) := by decide +kernel
theorem dX6_goesLeaf_35 : decode cX6_goesLeaf 35 = .ok (.i2l, 1) := by decide +kernel
theorem dX6_goesLeaf_36 : decode cX6_goesLeaf 36 = .ok (.lastore, 1) := by decide +kernel
theorem dX6_goesLeaf_37 : decode cX6_goesLeaf 37 = .ok (.iconst 0, 1) := by decide +kernel
theorem dX6_goesLeaf_38 : decode cX6_goesLeaf 38 = .ok (.istore_n 2, 1) := by decide +kernel
theorem dX6_goesLeaf_39 : decode cX6_goesLeaf 39 = .ok (.iload_n 2, 1) := by decide +kernel
theorem dX6_goesLeaf_40 : decode cX6_goesLeaf 40 = .ok (.bipush 6, 2) := by decide +kernel
theorem dX6_goesLeaf_42 : decode cX6_goesLeaf 42 = .ok (.if_icmp .ge 45, 3) := by decide +kernel
theorem dX6_goesLeaf_45 : decode cX6_goesLeaf 45 = .ok (.aload_n 0, 1) := by decide +kernel
theorem dX6_goesLeaf_46 : decode cX6_goesLeaf 46 = .ok (.getfield 75, 3) := by decide +kernel
theorem dX6_goesLeaf_49 : decode cX6_goesLeaf 49 = .ok (.bipush 6, 2) := by decide +kernel
theorem dX6_goesLeaf_51 : decode cX6_goesLeaf 51 = .ok (.iload_n 1, 1) := by decide +kernel
theorem dX6_goesLeaf_52 : decode cX6_goesLeaf 52 = .ok (.imul, 1) := by decide +kernel
theorem dX6_goesLeaf_53 : decode cX6_goesLeaf 53 = .ok (.iload_n 2, 1) := by decide +kernel
theorem dX6_goesLeaf_54 : decode cX6_goesLeaf 54 = .ok (.iadd, 1) := by decide +kernel
theorem dX6_goesLeaf_55 : decode cX6_goesLeaf 55 = .ok (.aload_n 0, 1) := by decide +kernel
theorem dX6_goesLeaf_56 : decode cX6_goesLeaf 56 = .ok (.getfield 16, 3) := by decide +kernel
theorem dX6_goesLeaf_59 : decode cX6_goesLeaf 59 = .ok (.iload_n 1, 1) := by decide +kernel
theorem dX6_goesLeaf_60 : decode cX6_goesLeaf 60 = .ok (.iaload, 1) := by decide +kernel
theorem dX6_goesLeaf_61 : decode cX6_goesLeaf 61 = .ok (.iconst 1, 1) := by decide +kernel
theorem dX6_goesLeaf_62 : decode cX6_goesLeaf 62 = .ok (.if_icmp .ne 17, 3) := by decide +kernel
theorem dX6_goesLeaf_65 : decode cX6_goesLeaf 65 = .ok (.aload_n 0, 1) := by decide +kernel
theorem dX6_goesLeaf_66 : decode cX6_goesLeaf 66 = .ok (.getfield 19, 3) := by decide +kernel
theorem dX6_goesLeaf_69 : decode cX6_goesLeaf 69 = .ok (.iload_n 1, 1) := by decide +kernel
theorem dX6_goesLeaf_70 : decode cX6_goesLeaf 70 = .ok (.iaload, 1) := by decide +kernel
theorem dX6_goesLeaf_71 : decode cX6_goesLeaf 71 = .ok (.iload_n 2, 1) := by decide +kernel
theorem dX6_goesLeaf_72 : decode cX6_goesLeaf 72 = .ok (.if_icmp .ne 7, 3) := by decide +kernel
theorem dX6_goesLeaf_75 : decode cX6_goesLeaf 75 = .ok (.lconst 1, 1) := by decide +kernel
theorem dX6_goesLeaf_76 : decode cX6_goesLeaf 76 = .ok (.goto 4, 3) := by decide +kernel
theorem dX6_goesLeaf_79 : decode cX6_goesLeaf 79 = .ok (.lconst 0, 1) := by decide +kernel
theorem dX6_goesLeaf_80 : decode cX6_goesLeaf 80 = .ok (.lastore, 1) := by decide +kernel
theorem dX6_goesLeaf_81 : decode cX6_goesLeaf 81 = .ok (.iinc 2 1, 3) := by decide +kernel
theorem dX6_goesLeaf_84 : decode cX6_goesLeaf 84 = .ok (.goto (-45), 3) := by decide +kernel
theorem dX6_goesLeaf_87 : decode cX6_goesLeaf 87 = .ok (.iconst 0, 1) := by decide +kernel
theorem dX6_goesLeaf_88 : decode cX6_goesLeaf 88 = .ok (.istore_n 2, 1) := by decide +kernel
theorem dX6_goesLeaf_89 : decode cX6_goesLeaf 89 = .ok (.iload_n 2, 1) := by decide +kernel
theorem dX6_goesLeaf_90 : decode cX6_goesLeaf 90 = .ok (.bipush 36, 2) := by decide +kernel
theorem dX6_goesLeaf_92 : decode cX6_goesLeaf 92 = .ok (.if_icmp .ge 21, 3) := by decide +kernel
theorem dX6_goesLeaf_95 : decode cX6_goesLeaf 95 = .ok (.aload_n 0, 1) := by decide +kernel
theorem dX6_goesLeaf_96 : decode cX6_goesLeaf 96 = .ok (.getfield 78, 3) := by decide +kernel
theorem dX6_goesLeaf_99 : decode cX6_goesLeaf 99 = .ok (.bipush 36, 2) := by decide +kernel
theorem dX6_goesLeaf_101 : decode cX6_goesLeaf 101 = .ok (.iload_n 1, 1) := by decide +kernel
theorem dX6_goesLeaf_102 : decode cX6_goesLeaf 102 = .ok (.imul, 1) := by decide +kernel
theorem dX6_goesLeaf_103 : decode cX6_goesLeaf 103 = .ok (.iload_n 2, 1) := by decide +kernel
theorem dX6_goesLeaf_104 : decode cX6_goesLeaf 104 = .ok (.iadd, 1) := by decide +kernel
theorem dX6_goesLeaf_105 : decode cX6_goesLeaf 105 = .ok (.lconst 0, 1) := by decide +kernel
theorem dX6_goesLeaf_106 : decode cX6_goesLeaf 106 = .ok (.lastore, 1) := by decide +kernel
theorem dX6_goesLeaf_107 : decode cX6_goesLeaf 107 = .ok (.iinc 2 1, 3) := by decide +kernel
theorem dX6_goesLeaf_110 : decode cX6_goesLeaf 110 = .ok (.goto (-21), 3) := by decide +kernel
theorem dX6_goesLeaf_113 : decode cX6_goesLeaf 113 = .ok (.return_, 1) := by decide +kernel
theorem dX6_goesOne_0 : decode cX6_goesOne 0 = .ok (.aload_n 0, 1) := by decide +kernel
theorem dX6_goesOne_1 : decode cX6_goesOne 1 = .ok (.getfield 16, 3) := by decide +kernel
theorem dX6_goesOne_4 : decode cX6_goesOne 4 = .ok (.iload_n 1, 1) := by decide +kernel
theorem dX6_goesOne_5 : decode cX6_goesOne 5 = .ok (.iaload, 1) := by decide +kernel
theorem dX6_goesOne_6 : decode cX6_goesOne 6 = .ok (.bipush 110, 2) := by decide +kernel
theorem dX6_goesOne_8 : decode cX6_goesOne 8 = .ok (.if_icmp .ne 7, 3) := by decide +kernel
theorem dX6_goesOne_11 : decode cX6_goesOne 11 = .ok (.iconst 1, 1) := by decide +kernel
theorem dX6_goesOne_12 : decode cX6_goesOne 12 = .ok (.goto 4, 3) := by decide +kernel
theorem dX6_goesOne_15 : decode cX6_goesOne 15 = .ok (.iconst 0, 1) := by decide +kernel
theorem dX6_goesOne_16 : decode cX6_goesOne 16 = .ok (.istore_n 3, 1) := by decide +kernel
theorem dX6_goesOne_17 : decode cX6_goesOne 17 = .ok (.aload_n 0, 1) := by decide +kernel
theorem dX6_goesOne_18 : decode cX6_goesOne 18 = .ok (.getfield 19, 3) := by decide +kernel
theorem dX6_goesOne_21 : decode cX6_goesOne 21 = .ok (.iload_n 1, 1) := by decide +kernel
theorem dX6_goesOne_22 : decode cX6_goesOne 22 = .ok (.iaload, 1) := by decide +kernel
theorem dX6_goesOne_23 : decode cX6_goesOne 23 = .ok (.istore 4, 2) := by decide +kernel
theorem dX6_goesOne_25 : decode cX6_goesOne 25 = .ok (.aload_n 0, 1) := by decide +kernel
theorem dX6_goesOne_26 : decode cX6_goesOne 26 = .ok (.getfield 72, 3) := by decide +kernel
theorem dX6_goesOne_29 : decode cX6_goesOne 29 = .ok (.iload_n 2, 1) := by decide +kernel
theorem dX6_goesOne_30 : decode cX6_goesOne 30 = .ok (.laload, 1) := by decide +kernel
theorem dX6_goesOne_31 : decode cX6_goesOne 31 = .ok (.lstore 5, 2) := by decide +kernel
theorem dX6_goesOne_33 : decode cX6_goesOne 33 = .ok (.iload_n 3, 1) := by decide +kernel
theorem dX6_goesOne_34 : decode cX6_goesOne 34 = .ok (.ifCond .eq 9, 3) := by decide +kernel
theorem dX6_goesOne_37 : decode cX6_goesOne 37 = .ok (.ldc2_w 220, 3) := by decide +kernel
theorem dX6_goesOne_40 : decode cX6_goesOne 40 = .ok (.goto 25, 3) := by decide +kernel
theorem dX6_goesOne_43 : decode cX6_goesOne 43 = .ok (.iload 4, 2) := by decide +kernel
theorem dX6_goesOne_45 : decode cX6_goesOne 45 = .ok (.ifCond .ne 7, 3) := by decide +kernel
theorem dX6_goesOne_48 : decode cX6_goesOne 48 = .ok (.lconst 0, 1) := by decide +kernel
theorem dX6_goesOne_49 : decode cX6_goesOne 49 = .ok (.goto 16, 3) := by decide +kernel
theorem dX6_goesOne_52 : decode cX6_goesOne 52 = .ok (.iload 4, 2) := by decide +kernel
theorem dX6_goesOne_54 : decode cX6_goesOne 54 = .ok (.i2l, 1) := by decide +kernel
theorem dX6_goesOne_55 : decode cX6_goesOne 55 = .ok (.lload 5, 2) := by decide +kernel
theorem dX6_goesOne_57 : decode cX6_goesOne 57 = .ok (.iload 4, 2) := by decide +kernel
theorem dX6_goesOne_59 : decode cX6_goesOne 59 = .ok (.iconst 1, 1) := by decide +kernel
theorem dX6_goesOne_60 : decode cX6_goesOne 60 = .ok (.isub, 1) := by decide +kernel
theorem dX6_goesOne_61 : decode cX6_goesOne 61 = .ok (.invokestatic 222, 3) := by decide +kernel
theorem dX6_goesOne_64 : decode cX6_goesOne 64 = .ok (.lmul, 1) := by decide +kernel
theorem dX6_goesOne_65 : decode cX6_goesOne 65 = .ok (.lstore 7, 2) := by decide +kernel
theorem dX6_goesOne_67 : decode cX6_goesOne 67 = .ok (.iload_n 3, 1) := by decide +kernel
theorem dX6_goesOne_68 : decode cX6_goesOne 68 = .ok (.ifCond .ne 9, 3) := by decide +kernel
theorem dX6_goesOne_71 : decode cX6_goesOne 71 = .ok (.iload 4, 2) := by decide +kernel
theorem dX6_goesOne_73 : decode cX6_goesOne 73 = .ok (.iconst 2, 1) := by decide +kernel
theorem dX6_goesOne_74 : decode cX6_goesOne 74 = .ok (.if_icmp .ge 7, 3) := by decide +kernel
theorem dX6_goesOne_77 : decode cX6_goesOne 77 = .ok (.lconst 0, 1) := by decide +kernel
theorem dX6_goesOne_78 : decode cX6_goesOne 78 = .ok (.goto 22, 3) := by decide +kernel
theorem dX6_goesOne_81 : decode cX6_goesOne 81 = .ok (.iload 4, 2) := by decide +kernel
theorem dX6_goesOne_83 : decode cX6_goesOne 83 = .ok (.i2l, 1) := by decide +kernel
theorem dX6_goesOne_84 : decode cX6_goesOne 84 = .ok (.iload 4, 2) := by decide +kernel
theorem dX6_goesOne_86 : decode cX6_goesOne 86 = .ok (.iconst 1, 1) := by decide +kernel
theorem dX6_goesOne_87 : decode cX6_goesOne 87 = .ok (.isub, 1) := by decide +kernel
theorem dX6_goesOne_88 : decode cX6_goesOne 88 = .ok (.i2l, 1) := by decide +kernel
theorem dX6_goesOne_89 : decode cX6_goesOne 89 = .ok (.lmul, 1) := by decide +kernel
theorem dX6_goesOne_90 : decode cX6_goesOne 90 = .ok (.lload 5, 2) := by decide +kernel
theorem dX6_goesOne_92 : decode cX6_goesOne 92 = .ok (.iload 4, 2) := by decide +kernel
theorem dX6_goesOne_94 : decode cX6_goesOne 94 = .ok (.iconst 2, 1) := by decide +kernel
theorem dX6_goesOne_95 : decode cX6_goesOne 95 = .ok (.isub, 1) := by decide +kernel
theorem dX6_goesOne_96 : decode cX6_goesOne 96 = .ok (.invokestatic 222, 3) := by decide +kernel
theorem dX6_goesOne_99 : decode cX6_goesOne 99 = .ok (.lmul, 1) := by decide +kernel
theorem dX6_goesOne_100 : decode cX6_goesOne 100 = .ok (.lstore 9, 2) := by decide +kernel
theorem dX6_goesOne_102 : decode cX6_goesOne 102 = .ok (.aload_n 0, 1) := by decide +kernel
theorem dX6_goesOne_103 : decode cX6_goesOne 103 = .ok (.getfield 72, 3) := by decide +kernel
theorem dX6_goesOne_106 : decode cX6_goesOne 106 = .ok (.iload_n 1, 1) := by decide +kernel
theorem dX6_goesOne_107 : decode cX6_goesOne 107 = .ok (.iload_n 3, 1) := by decide +kernel
theorem dX6_goesOne_108 : decode cX6_goesOne 108 = .ok (.ifCond .eq 9, 3) := by decide +kernel
theorem dX6_goesOne_111 : decode cX6_goesOne 111 = .ok (.lload 5, 2) := by decide +kernel
theorem dX6_goesOne_113 : decode cX6_goesOne 113 = .ok (.lneg, 1) := by decide +kernel
theorem dX6_goesOne_114 : decode cX6_goesOne 114 = .ok (.goto 10, 3) := by decide +kernel
theorem dX6_goesOne_117 : decode cX6_goesOne 117 = .ok (.lload 5, 2) := by decide +kernel
theorem dX6_goesOne_119 : decode cX6_goesOne 119 = .ok (.iload 4, 2) := by decide +kernel
theorem dX6_goesOne_121 : decode cX6_goesOne 121 = .ok (.invokestatic 222, 3) := by decide +kernel
theorem dX6_goesOne_124 : decode cX6_goesOne 124 = .ok (.lastore, 1) := by decide +kernel
theorem dX6_goesOne_125 : decode cX6_goesOne 125 = .ok (.iconst 0, 1) := by decide +kernel
theorem dX6_goesOne_126 : decode cX6_goesOne 126 = .ok (.istore 11, 2) := by decide +kernel
theorem dX6_goesOne_128 : decode cX6_goesOne 128 = .ok (.iload 11, 2) := by decide +kernel
theorem dX6_goesOne_130 : decode cX6_goesOne 130 = .ok (.bipush 6, 2) := by decide +kernel
theorem dX6_goesOne_132 : decode cX6_goesOne 132 = .ok (.if_icmp .ge 36, 3) := by decide +kernel
theorem dX6_goesOne_135 : decode cX6_goesOne 135 = .ok (.aload_n 0, 1) := by decide +kernel
theorem dX6_goesOne_136 : decode cX6_goesOne 136 = .ok (.getfield 75, 3) := by decide +kernel
theorem dX6_goesOne_139 : decode cX6_goesOne 139 = .ok (.bipush 6, 2) := by decide +kernel
theorem dX6_goesOne_141 : decode cX6_goesOne 141 = .ok (.iload_n 1, 1) := by decide +kernel
theorem dX6_goesOne_142 : decode cX6_goesOne 142 = .ok (.imul, 1) := by decide +kernel
theorem dX6_goesOne_143 : decode cX6_goesOne 143 = .ok (.iload 11, 2) := by decide +kernel
theorem dX6_goesOne_145 : decode cX6_goesOne 145 = .ok (.iadd, 1) := by decide +kernel
theorem dX6_goesOne_146 : decode cX6_goesOne 146 = .ok (.lload 7, 2) := by decide +kernel
theorem dX6_goesOne_148 : decode cX6_goesOne 148 = .ok (.aload_n 0, 1) := by decide +kernel
theorem dX6_goesOne_149 : decode cX6_goesOne 149 = .ok (.getfield 75, 3) := by decide +kernel
theorem dX6_goesOne_152 : decode cX6_goesOne 152 = .ok (.bipush 6, 2) := by decide +kernel
theorem dX6_goesOne_154 : decode cX6_goesOne 154 = .ok (.iload_n 2, 1) := by decide +kernel
theorem dX6_goesOne_155 : decode cX6_goesOne 155 = .ok (.imul, 1) := by decide +kernel
theorem dX6_goesOne_156 : decode cX6_goesOne 156 = .ok (.iload 11, 2) := by decide +kernel
theorem dX6_goesOne_158 : decode cX6_goesOne 158 = .ok (.iadd, 1) := by decide +kernel
theorem dX6_goesOne_159 : decode cX6_goesOne 159 = .ok (.laload, 1) := by decide +kernel
theorem dX6_goesOne_160 : decode cX6_goesOne 160 = .ok (.lmul, 1) := by decide +kernel
theorem dX6_goesOne_161 : decode cX6_goesOne 161 = .ok (.lastore, 1) := by decide +kernel
theorem dX6_goesOne_162 : decode cX6_goesOne 162 = .ok (.iinc 11 1, 3) := by decide +kernel
theorem dX6_goesOne_165 : decode cX6_goesOne 165 = .ok (.goto (-37), 3) := by decide +kernel
theorem dX6_goesOne_168 : decode cX6_goesOne 168 = .ok (.iconst 0, 1) := by decide +kernel
theorem dX6_goesOne_169 : decode cX6_goesOne 169 = .ok (.istore 11, 2) := by decide +kernel
theorem dX6_goesOne_171 : decode cX6_goesOne 171 = .ok (.iload 11, 2) := by decide +kernel
theorem dX6_goesOne_173 : decode cX6_goesOne 173 = .ok (.bipush 36, 2) := by decide +kernel
theorem dX6_goesOne_175 : decode cX6_goesOne 175 = .ok (.if_icmp .ge 71, 3) := by decide +kernel
theorem dX6_goesOne_178 : decode cX6_goesOne 178 = .ok (.aload_n 0, 1) := by decide +kernel
theorem dX6_goesOne_179 : decode cX6_goesOne 179 = .ok (.getfield 78, 3) := by decide +kernel
theorem dX6_goesOne_182 : decode cX6_goesOne 182 = .ok (.bipush 36, 2) := by decide +kernel
theorem dX6_goesOne_184 : decode cX6_goesOne 184 = .ok (.iload_n 1, 1) := by decide +kernel
theorem dX6_goesOne_185 : decode cX6_goesOne 185 = .ok (.imul, 1) := by decide +kernel
theorem dX6_goesOne_186 : decode cX6_goesOne 186 = .ok (.iload 11, 2) := by decide +kernel
theorem dX6_goesOne_188 : decode cX6_goesOne 188 = .ok (.iadd, 1) := by decide +kernel
theorem dX6_goesOne_189 : decode cX6_goesOne 189 = .ok (.lload 9, 2) := by decide +kernel
theorem dX6_goesOne_191 : decode cX6_goesOne 191 = .ok (.aload_n 0, 1) := by decide +kernel
theorem dX6_goesOne_192 : decode cX6_goesOne 192 = .ok (.getfield 75, 3) := by decide +kernel
theorem dX6_goesOne_195 : decode cX6_goesOne 195 = .ok (.bipush 6, 2) := by decide +kernel
theorem dX6_goesOne_197 : decode cX6_goesOne 197 = .ok (.iload_n 2, 1) := by decide +kernel
theorem dX6_goesOne_198 : decode cX6_goesOne 198 = .ok (.imul, 1) := by decide +kernel
theorem dX6_goesOne_199 : decode cX6_goesOne 199 = .ok (.iload 11, 2) := by decide +kernel
theorem dX6_goesOne_201 : decode cX6_goesOne 201 = .ok (.bipush 6, 2) := by decide +kernel
theorem dX6_goesOne_203 : decode cX6_goesOne 203 = .ok (.idiv, 1) := by decide +kernel
theorem dX6_goesOne_204 : decode cX6_goesOne 204 = .ok (.iadd, 1) := by decide +kernel
theorem dX6_goesOne_205 : decode cX6_goesOne 205 = .ok (.laload, 1) := by decide +kernel
theorem dX6_goesOne_206 : decode cX6_goesOne 206 = .ok (.lmul, 1) := by decide +kernel
theorem dX6_goesOne_207 : decode cX6_goesOne 207 = .ok (.aload_n 0, 1) := by decide +kernel
theorem dX6_goesOne_208 : decode cX6_goesOne 208 = .ok (.getfield 75, 3) := by decide +kernel
theorem dX6_goesOne_211 : decode cX6_goesOne 211 = .ok (.bipush 6, 2) := by decide +kernel
theorem dX6_goesOne_213 : decode cX6_goesOne 213 = .ok (.iload_n 2, 1) := by decide +kernel
theorem dX6_goesOne_214 : decode cX6_goesOne 214 = .ok (.imul, 1) := by decide +kernel
theorem dX6_goesOne_215 : decode cX6_goesOne 215 = .ok (.iload 11, 2) := by decide +kernel
theorem dX6_goesOne_217 : decode cX6_goesOne 217 = .ok (.bipush 6, 2) := by decide +kernel
theorem dX6_goesOne_219 : decode cX6_goesOne 219 = .ok (.irem, 1) := by decide +kernel
theorem dX6_goesOne_220 : decode cX6_goesOne 220 = .ok (.iadd, 1) := by decide +kernel
theorem dX6_goesOne_221 : decode cX6_goesOne 221 = .ok (.laload, 1) := by decide +kernel
theorem dX6_goesOne_222 : decode cX6_goesOne 222 = .ok (.lmul, 1) := by decide +kernel
theorem dX6_goesOne_223 : decode cX6_goesOne 223 = .ok (.lload 7, 2) := by decide +kernel
theorem dX6_goesOne_225 : decode cX6_goesOne 225 = .ok (.aload_n 0, 1) := by decide +kernel
theorem dX6_goesOne_226 : decode cX6_goesOne 226 = .ok (.getfield 78, 3) := by decide +kernel
theorem dX6_goesOne_229 : decode cX6_goesOne 229 = .ok (.bipush 36, 2) := by decide +kernel
theorem dX6_goesOne_231 : decode cX6_goesOne 231 = .ok (.iload_n 2, 1) := by decide +kernel
theorem dX6_goesOne_232 : decode cX6_goesOne 232 = .ok (.imul, 1) := by decide +kernel
theorem dX6_goesOne_233 : decode cX6_goesOne 233 = .ok (.iload 11, 2) := by decide +kernel
theorem dX6_goesOne_235 : decode cX6_goesOne 235 = .ok (.iadd, 1) := by decide +kernel
theorem dX6_goesOne_236 : decode cX6_goesOne 236 = .ok (.laload, 1) := by decide +kernel
theorem dX6_goesOne_237 : decode cX6_goesOne 237 = .ok (.lmul, 1) := by decide +kernel
theorem dX6_goesOne_238 : decode cX6_goesOne 238 = .ok (.ladd, 1) := by decide +kernel
theorem dX6_goesOne_239 : decode cX6_goesOne 239 = .ok (.lastore, 1) := by decide +kernel
theorem dX6_goesOne_240 : decode cX6_goesOne 240 = .ok (.iinc 11 1, 3) := by decide +kernel
theorem dX6_goesOne_243 : decode cX6_goesOne 243 = .ok (.goto (-72), 3) := by decide +kernel
theorem dX6_goesOne_246 : decode cX6_goesOne 246 = .ok (.return_, 1) := by decide +kernel
theorem dX6_goesTwo_0 : decode cX6_goesTwo 0 = .ok (.aload_n 0, 1) := by decide +kernel
theorem dX6_goesTwo_1 : decode cX6_goesTwo 1 = .ok (.getfield 16, 3) := by decide +kernel
theorem dX6_goesTwo_4 : decode cX6_goesTwo 4 = .ok (.iload_n 1, 1) := by decide +kernel
theorem dX6_goesTwo_5 : decode cX6_goesTwo 5 = .ok (.iaload, 1) := by decide +kernel
theorem dX6_goesTwo_6 : decode cX6_goesTwo 6 = .ok (.bipush 42, 2) := by decide +kernel
theorem dX6_goesTwo_8 : decode cX6_goesTwo 8 = .ok (.if_icmp .ne 7, 3) := by decide +kernel
theorem dX6_goesTwo_11 : decode cX6_goesTwo 11 = .ok (.iconst 1, 1) := by decide +kernel
theorem dX6_goesTwo_12 : decode cX6_goesTwo 12 = .ok (.goto 4, 3) := by decide +kernel
theorem dX6_goesTwo_15 : decode cX6_goesTwo 15 = .ok (.iconst 0, 1) := by decide +kernel
theorem dX6_goesTwo_16 : decode cX6_goesTwo 16 = .ok (.istore 4, 2) := by decide +kernel
theorem dX6_goesTwo_18 : decode cX6_goesTwo 18 = .ok (.iload 4, 2) := by decide +kernel
theorem dX6_goesTwo_20 : decode cX6_goesTwo 20 = .ok (.ifCond .eq 12, 3) := by decide +kernel
theorem dX6_goesTwo_23 : decode cX6_goesTwo 23 = .ok (.aload_n 0, 1) := by decide +kernel
theorem dX6_goesTwo_24 : decode cX6_goesTwo 24 = .ok (.getfield 72, 3) := by decide +kernel
theorem dX6_goesTwo_27 : decode cX6_goesTwo 27 = .ok (.iload_n 3, 1) := by decide +kernel
theorem dX6_goesTwo_28 : decode cX6_goesTwo 28 = .ok (.laload, 1) := by decide +kernel
theorem dX6_goesTwo_29 : decode cX6_goesTwo 29 = .ok (.goto 4, 3) := by decide +kernel
theorem dX6_goesTwo_32 : decode cX6_goesTwo 32 = .ok (.lconst 1, 1) := by decide +kernel
theorem dX6_goesTwo_33 : decode cX6_goesTwo 33 = .ok (.lstore 5, 2) := by decide +kernel
theorem dX6_goesTwo_35 : decode cX6_goesTwo 35 = .ok (.iload 4, 2) := by decide +kernel
theorem dX6_goesTwo_37 : decode cX6_goesTwo 37 = .ok (.ifCond .eq 12, 3) := by decide +kernel
theorem dX6_goesTwo_40 : decode cX6_goesTwo 40 = .ok (.aload_n 0, 1) := by decide +kernel
theorem dX6_goesTwo_41 : decode cX6_goesTwo 41 = .ok (.getfield 72, 3) := by decide +kernel
theorem dX6_goesTwo_44 : decode cX6_goesTwo 44 = .ok (.iload_n 2, 1) := by decide +kernel
theorem dX6_goesTwo_45 : decode cX6_goesTwo 45 = .ok (.laload, 1) := by decide +kernel
theorem dX6_goesTwo_46 : decode cX6_goesTwo 46 = .ok (.goto 21, 3) := by decide +kernel
theorem dX6_goesTwo_49 : decode cX6_goesTwo 49 = .ok (.aload_n 0, 1) := by decide +kernel
theorem dX6_goesTwo_50 : decode cX6_goesTwo 50 = .ok (.getfield 16, 3) := by decide +kernel
theorem dX6_goesTwo_53 : decode cX6_goesTwo 53 = .ok (.iload_n 1, 1) := by decide +kernel
theorem dX6_goesTwo_54 : decode cX6_goesTwo 54 = .ok (.iaload, 1) := by decide +kernel
theorem dX6_goesTwo_55 : decode cX6_goesTwo 55 = .ok (.bipush 45, 2) := by decide +kernel
theorem dX6_goesTwo_57 : decode cX6_goesTwo 57 = .ok (.if_icmp .ne 9, 3) := by decide +kernel
theorem dX6_goesTwo_60 : decode cX6_goesTwo 60 = .ok (.ldc2_w 220, 3) := by decide +kernel
theorem dX6_goesTwo_63 : decode cX6_goesTwo 63 = .ok (.goto 4, 3) := by decide +kernel
theorem dX6_goesTwo_66 : decode cX6_goesTwo 66 = .ok (.lconst 1, 1) := by decide +kernel
theorem dX6_goesTwo_67 : decode cX6_goesTwo 67 = .ok (.lstore 7, 2) := by decide +kernel
theorem dX6_goesTwo_69 : decode cX6_goesTwo 69 = .ok (.aload_n 0, 1) := by decide +kernel
theorem dX6_goesTwo_70 : decode cX6_goesTwo 70 = .ok (.getfield 72, 3) := by decide +kernel
theorem dX6_goesTwo_73 : decode cX6_goesTwo 73 = .ok (.iload_n 1, 1) := by decide +kernel
theorem dX6_goesTwo_74 : decode cX6_goesTwo 74 = .ok (.iload 4, 2) := by decide +kernel
theorem dX6_goesTwo_76 : decode cX6_goesTwo 76 = .ok (.ifCond .eq 19, 3) := by decide +kernel
theorem dX6_goesTwo_79 : decode cX6_goesTwo 79 = .ok (.aload_n 0, 1) := by decide +kernel
theorem dX6_goesTwo_80 : decode cX6_goesTwo 80 = .ok (.getfield 72, 3) := by decide +kernel
theorem dX6_goesTwo_83 : decode cX6_goesTwo 83 = .ok (.iload_n 2, 1) := by decide +kernel
theorem dX6_goesTwo_84 : decode cX6_goesTwo 84 = .ok (.laload, 1) := by decide +kernel
theorem dX6_goesTwo_85 : decode cX6_goesTwo 85 = .ok (.aload_n 0, 1) := by decide +kernel
theorem dX6_goesTwo_86 : decode cX6_goesTwo 86 = .ok (.getfield 72, 3) := by decide +kernel
theorem dX6_goesTwo_89 : decode cX6_goesTwo 89 = .ok (.iload_n 3, 1) := by decide +kernel
theorem dX6_goesTwo_90 : decode cX6_goesTwo 90 = .ok (.laload, 1) := by decide +kernel
theorem dX6_goesTwo_91 : decode cX6_goesTwo 91 = .ok (.lmul, 1) := by decide +kernel
theorem dX6_goesTwo_92 : decode cX6_goesTwo 92 = .ok (.goto 19, 3) := by decide +kernel
theorem dX6_goesTwo_95 : decode cX6_goesTwo 95 = .ok (.aload_n 0, 1) := by decide +kernel
theorem dX6_goesTwo_96 : decode cX6_goesTwo 96 = .ok (.getfield 72, 3) := by decide +kernel
theorem dX6_goesTwo_99 : decode cX6_goesTwo 99 = .ok (.iload_n 2, 1) := by decide +kernel
theorem dX6_goesTwo_100 : decode cX6_goesTwo 100 = .ok (.laload, 1) := by decide +kernel
theorem dX6_goesTwo_101 : decode cX6_goesTwo 101 = .ok (.lload 7, 2) := by decide +kernel
theorem dX6_goesTwo_103 : decode cX6_goesTwo 103 = .ok (.aload_n 0, 1) := by decide +kernel
theorem dX6_goesTwo_104 : decode cX6_goesTwo 104 = .ok (.getfield 72, 3) := by decide +kernel
theorem dX6_goesTwo_107 : decode cX6_goesTwo 107 = .ok (.iload_n 3, 1) := by decide +kernel
theorem dX6_goesTwo_108 : decode cX6_goesTwo 108 = .ok (.laload, 1) := by decide +kernel
theorem dX6_goesTwo_109 : decode cX6_goesTwo 109 = .ok (.lmul, 1) := by decide +kernel
theorem dX6_goesTwo_110 : decode cX6_goesTwo 110 = .ok (.ladd, 1) := by decide +kernel
theorem dX6_goesTwo_111 : decode cX6_goesTwo 111 = .ok (.lastore, 1) := by decide +kernel
theorem dX6_goesTwo_112 : decode cX6_goesTwo 112 = .ok (.iconst 0, 1) := by decide +kernel
theorem dX6_goesTwo_113 : decode cX6_goesTwo 113 = .ok (.istore 9, 2) := by decide +kernel
theorem dX6_goesTwo_115 : decode cX6_goesTwo 115 = .ok (.iload 9, 2) := by decide +kernel
theorem dX6_goesTwo_117 : decode cX6_goesTwo 117 = .ok (.bipush 6, 2) := by decide +kernel
theorem dX6_goesTwo_119 : decode cX6_goesTwo 119 = .ok (.if_icmp .ge 52, 3) := by decide +kernel
theorem dX6_goesTwo_122 : decode cX6_goesTwo 122 = .ok (.aload_n 0, 1) := by decide +kernel
theorem dX6_goesTwo_123 : decode cX6_goesTwo 123 = .ok (.getfield 75, 3) := by decide +kernel
theorem dX6_goesTwo_126 : decode cX6_goesTwo 126 = .ok (.bipush 6, 2) := by decide +kernel
theorem dX6_goesTwo_128 : decode cX6_goesTwo 128 = .ok (.iload_n 1, 1) := by decide +kernel
theorem dX6_goesTwo_129 : decode cX6_goesTwo 129 = .ok (.imul, 1) := by decide +kernel
theorem dX6_goesTwo_130 : decode cX6_goesTwo 130 = .ok (.iload 9, 2) := by decide +kernel
theorem dX6_goesTwo_132 : decode cX6_goesTwo 132 = .ok (.iadd, 1) := by decide +kernel
theorem dX6_goesTwo_133 : decode cX6_goesTwo 133 = .ok (.lload 5, 2) := by decide +kernel
theorem dX6_goesTwo_135 : decode cX6_goesTwo 135 = .ok (.aload_n 0, 1) := by decide +kernel
theorem dX6_goesTwo_136 : decode cX6_goesTwo 136 = .ok (.getfield 75, 3) := by decide +kernel
theorem dX6_goesTwo_139 : decode cX6_goesTwo 139 = .ok (.bipush 6, 2) := by decide +kernel
theorem dX6_goesTwo_141 : decode cX6_goesTwo 141 = .ok (.iload_n 2, 1) := by decide +kernel
theorem dX6_goesTwo_142 : decode cX6_goesTwo 142 = .ok (.imul, 1) := by decide +kernel
theorem dX6_goesTwo_143 : decode cX6_goesTwo 143 = .ok (.iload 9, 2) := by decide +kernel
theorem dX6_goesTwo_145 : decode cX6_goesTwo 145 = .ok (.iadd, 1) := by decide +kernel
theorem dX6_goesTwo_146 : decode cX6_goesTwo 146 = .ok (.laload, 1) := by decide +kernel
theorem dX6_goesTwo_147 : decode cX6_goesTwo 147 = .ok (.lmul, 1) := by decide +kernel
theorem dX6_goesTwo_148 : decode cX6_goesTwo 148 = .ok (.lload 7, 2) := by decide +kernel
theorem dX6_goesTwo_150 : decode cX6_goesTwo 150 = .ok (.aload_n 0, 1) := by decide +kernel
theorem dX6_goesTwo_151 : decode cX6_goesTwo 151 = .ok (.getfield 75, 3) := by decide +kernel
theorem dX6_goesTwo_154 : decode cX6_goesTwo 154 = .ok (.bipush 6, 2) := by decide +kernel
theorem dX6_goesTwo_156 : decode cX6_goesTwo 156 = .ok (.iload_n 3, 1) := by decide +kernel
theorem dX6_goesTwo_157 : decode cX6_goesTwo 157 = .ok (.imul, 1) := by decide +kernel
theorem dX6_goesTwo_158 : decode cX6_goesTwo 158 = .ok (.iload 9, 2) := by decide +kernel
theorem dX6_goesTwo_160 : decode cX6_goesTwo 160 = .ok (.iadd, 1) := by decide +kernel
theorem dX6_goesTwo_161 : decode cX6_goesTwo 161 = .ok (.laload, 1) := by decide +kernel
theorem dX6_goesTwo_162 : decode cX6_goesTwo 162 = .ok (.lmul, 1) := by decide +kernel
theorem dX6_goesTwo_163 : decode cX6_goesTwo 163 = .ok (.ladd, 1) := by decide +kernel
theorem dX6_goesTwo_164 : decode cX6_goesTwo 164 = .ok (.lastore, 1) := by decide +kernel
theorem dX6_goesTwo_165 : decode cX6_goesTwo 165 = .ok (.iinc 9 1, 3) := by decide +kernel
theorem dX6_goesTwo_168 : decode cX6_goesTwo 168 = .ok (.goto (-53), 3) := by decide +kernel
theorem dX6_goesTwo_171 : decode cX6_goesTwo 171 = .ok (.iconst 0, 1) := by decide +kernel
theorem dX6_goesTwo_172 : decode cX6_goesTwo 172 = .ok (.istore 9, 2) := by decide +kernel
theorem dX6_goesTwo_174 : decode cX6_goesTwo 174 = .ok (.iload 9, 2) := by decide +kernel
theorem dX6_goesTwo_176 : decode cX6_goesTwo 176 = .ok (.bipush 36, 2) := by decide +kernel
theorem dX6_goesTwo_178 : decode cX6_goesTwo 178 = .ok (.if_icmp .ge 129, 3) := by decide +kernel
theorem dX6_goesTwo_181 : decode cX6_goesTwo 181 = .ok (.aload_n 0, 1) := by decide +kernel
theorem dX6_goesTwo_182 : decode cX6_goesTwo 182 = .ok (.getfield 75, 3) := by decide +kernel
theorem dX6_goesTwo_185 : decode cX6_goesTwo 185 = .ok (.bipush 6, 2) := by decide +kernel
theorem dX6_goesTwo_187 : decode cX6_goesTwo 187 = .ok (.iload_n 2, 1) := by decide +kernel
theorem dX6_goesTwo_188 : decode cX6_goesTwo 188 = .ok (.imul, 1) := by decide +kernel
theorem dX6_goesTwo_189 : decode cX6_goesTwo 189 = .ok (.iload 9, 2) := by decide +kernel
theorem dX6_goesTwo_191 : decode cX6_goesTwo 191 = .ok (.bipush 6, 2) := by decide +kernel
theorem dX6_goesTwo_193 : decode cX6_goesTwo 193 = .ok (.idiv, 1) := by decide +kernel
theorem dX6_goesTwo_194 : decode cX6_goesTwo 194 = .ok (.iadd, 1) := by decide +kernel
theorem dX6_goesTwo_195 : decode cX6_goesTwo 195 = .ok (.laload, 1) := by decide +kernel
theorem dX6_goesTwo_196 : decode cX6_goesTwo 196 = .ok (.aload_n 0, 1) := by decide +kernel
theorem dX6_goesTwo_197 : decode cX6_goesTwo 197 = .ok (.getfield 75, 3) := by decide +kernel
theorem dX6_goesTwo_200 : decode cX6_goesTwo 200 = .ok (.bipush 6, 2) := by decide +kernel
theorem dX6_goesTwo_202 : decode cX6_goesTwo 202 = .ok (.iload_n 3, 1) := by decide +kernel
theorem dX6_goesTwo_203 : decode cX6_goesTwo 203 = .ok (.imul, 1) := by decide +kernel
theorem dX6_goesTwo_204 : decode cX6_goesTwo 204 = .ok (.iload 9, 2) := by decide +kernel
theorem dX6_goesTwo_206 : decode cX6_goesTwo 206 = .ok (.bipush 6, 2) := by decide +kernel
theorem dX6_goesTwo_208 : decode cX6_goesTwo 208 = .ok (.irem, 1) := by decide +kernel
theorem dX6_goesTwo_209 : decode cX6_goesTwo 209 = .ok (.iadd, 1) := by decide +kernel
theorem dX6_goesTwo_210 : decode cX6_goesTwo 210 = .ok (.laload, 1) := by decide +kernel
theorem dX6_goesTwo_211 : decode cX6_goesTwo 211 = .ok (.lmul, 1) := by decide +kernel
theorem dX6_goesTwo_212 : decode cX6_goesTwo 212 = .ok (.aload_n 0, 1) := by decide +kernel
theorem dX6_goesTwo_213 : decode cX6_goesTwo 213 = .ok (.getfield 75, 3) := by decide +kernel
theorem dX6_goesTwo_216 : decode cX6_goesTwo 216 = .ok (.bipush 6, 2) := by decide +kernel
theorem dX6_goesTwo_218 : decode cX6_goesTwo 218 = .ok (.iload_n 2, 1) := by decide +kernel
theorem dX6_goesTwo_219 : decode cX6_goesTwo 219 = .ok (.imul, 1) := by decide +kernel
theorem dX6_goesTwo_220 : decode cX6_goesTwo 220 = .ok (.iload 9, 2) := by decide +kernel
theorem dX6_goesTwo_222 : decode cX6_goesTwo 222 = .ok (.bipush 6, 2) := by decide +kernel
theorem dX6_goesTwo_224 : decode cX6_goesTwo 224 = .ok (.irem, 1) := by decide +kernel
theorem dX6_goesTwo_225 : decode cX6_goesTwo 225 = .ok (.iadd, 1) := by decide +kernel
theorem dX6_goesTwo_226 : decode cX6_goesTwo 226 = .ok (.laload, 1) := by decide +kernel
theorem dX6_goesTwo_227 : decode cX6_goesTwo 227 = .ok (.aload_n 0, 1) := by decide +kernel
theorem dX6_goesTwo_228 : decode cX6_goesTwo 228 = .ok (.getfield 75, 3) := by decide +kernel
theorem dX6_goesTwo_231 : decode cX6_goesTwo 231 = .ok (.bipush 6, 2) := by decide +kernel
theorem dX6_goesTwo_233 : decode cX6_goesTwo 233 = .ok (.iload_n 3, 1) := by decide +kernel
theorem dX6_goesTwo_234 : decode cX6_goesTwo 234 = .ok (.imul, 1) := by decide +kernel
theorem dX6_goesTwo_235 : decode cX6_goesTwo 235 = .ok (.iload 9, 2) := by decide +kernel
theorem dX6_goesTwo_237 : decode cX6_goesTwo 237 = .ok (.bipush 6, 2) := by decide +kernel
theorem dX6_goesTwo_239 : decode cX6_goesTwo 239 = .ok (.idiv, 1) := by decide +kernel
theorem dX6_goesTwo_240 : decode cX6_goesTwo 240 = .ok (.iadd, 1) := by decide +kernel
theorem dX6_goesTwo_241 : decode cX6_goesTwo 241 = .ok (.laload, 1) := by decide +kernel
theorem dX6_goesTwo_242 : decode cX6_goesTwo 242 = .ok (.lmul, 1) := by decide +kernel
theorem dX6_goesTwo_243 : decode cX6_goesTwo 243 = .ok (.ladd, 1) := by decide +kernel
theorem dX6_goesTwo_244 : decode cX6_goesTwo 244 = .ok (.lstore 10, 2) := by decide +kernel
theorem dX6_goesTwo_246 : decode cX6_goesTwo 246 = .ok (.aload_n 0, 1) := by decide +kernel
theorem dX6_goesTwo_247 : decode cX6_goesTwo 247 = .ok (.getfield 78, 3) := by decide +kernel
theorem dX6_goesTwo_250 : decode cX6_goesTwo 250 = .ok (.bipush 36, 2) := by decide +kernel
theorem dX6_goesTwo_252 : decode cX6_goesTwo 252 = .ok (.iload_n 1, 1) := by decide +kernel
theorem dX6_goesTwo_253 : decode cX6_goesTwo 253 = .ok (.imul, 1) := by decide +kernel
theorem dX6_goesTwo_254 : decode cX6_goesTwo 254 = .ok (.iload 9, 2) := by decide +kernel
theorem dX6_goesTwo_256 : decode cX6_goesTwo 256 = .ok (.iadd, 1) := by decide +kernel
theorem dX6_goesTwo_257 : decode cX6_goesTwo 257 = .ok (.lload 5, 2) := by decide +kernel
theorem dX6_goesTwo_259 : decode cX6_goesTwo 259 = .ok (.aload_n 0, 1) := by decide +kernel
theorem dX6_goesTwo_260 : decode cX6_goesTwo 260 = .ok (.getfield 78, 3) := by decide +kernel
theorem dX6_goesTwo_263 : decode cX6_goesTwo 263 = .ok (.bipush 36, 2) := by decide +kernel
theorem dX6_goesTwo_265 : decode cX6_goesTwo 265 = .ok (.iload_n 2, 1) := by decide +kernel
theorem dX6_goesTwo_266 : decode cX6_goesTwo 266 = .ok (.imul, 1) := by decide +kernel
theorem dX6_goesTwo_267 : decode cX6_goesTwo 267 = .ok (.iload 9, 2) := by decide +kernel
theorem dX6_goesTwo_269 : decode cX6_goesTwo 269 = .ok (.iadd, 1) := by decide +kernel
theorem dX6_goesTwo_270 : decode cX6_goesTwo 270 = .ok (.laload, 1) := by decide +kernel
theorem dX6_goesTwo_271 : decode cX6_goesTwo 271 = .ok (.lmul, 1) := by decide +kernel
theorem dX6_goesTwo_272 : decode cX6_goesTwo 272 = .ok (.lload 7, 2) := by decide +kernel
theorem dX6_goesTwo_274 : decode cX6_goesTwo 274 = .ok (.aload_n 0, 1) := by decide +kernel
theorem dX6_goesTwo_275 : decode cX6_goesTwo 275 = .ok (.getfield 78, 3) := by decide +kernel
theorem dX6_goesTwo_278 : decode cX6_goesTwo 278 = .ok (.bipush 36, 2) := by decide +kernel
theorem dX6_goesTwo_280 : decode cX6_goesTwo 280 = .ok (.iload_n 3, 1) := by decide +kernel
theorem dX6_goesTwo_281 : decode cX6_goesTwo 281 = .ok (.imul, 1) := by decide +kernel
theorem dX6_goesTwo_282 : decode cX6_goesTwo 282 = .ok (.iload 9, 2) := by decide +kernel
theorem dX6_goesTwo_284 : decode cX6_goesTwo 284 = .ok (.iadd, 1) := by decide +kernel
theorem dX6_goesTwo_285 : decode cX6_goesTwo 285 = .ok (.laload, 1) := by decide +kernel
theorem dX6_goesTwo_286 : decode cX6_goesTwo 286 = .ok (.lmul, 1) := by decide +kernel
theorem dX6_goesTwo_287 : decode cX6_goesTwo 287 = .ok (.ladd, 1) := by decide +kernel
theorem dX6_goesTwo_288 : decode cX6_goesTwo 288 = .ok (.iload 4, 2) := by decide +kernel
theorem dX6_goesTwo_290 : decode cX6_goesTwo 290 = .ok (.ifCond .eq 8, 3) := by decide +kernel
theorem dX6_goesTwo_293 : decode cX6_goesTwo 293 = .ok (.lload 10, 2) := by decide +kernel
theorem dX6_goesTwo_295 : decode cX6_goesTwo 295 = .ok (.goto 4, 3) := by decide +kernel
theorem dX6_goesTwo_298 : decode cX6_goesTwo 298 = .ok (.lconst 0, 1) := by decide +kernel
theorem dX6_goesTwo_299 : decode cX6_goesTwo 299 = .ok (.ladd, 1) := by decide +kernel
theorem dX6_goesTwo_300 : decode cX6_goesTwo 300 = .ok (.lastore, 1) := by decide +kernel
theorem dX6_goesTwo_301 : decode cX6_goesTwo 301 = .ok (.iinc 9 1, 3) := by decide +kernel
theorem dX6_goesTwo_304 : decode cX6_goesTwo 304 = .ok (.goto (-130), 3) := by decide +kernel
theorem dX6_goesTwo_307 : decode cX6_goesTwo 307 = .ok (.return_, 1) := by decide +kernel
theorem dX6_rootOf_0 : decode cX6_rootOf 0 = .ok (.bipush 20, 2) := by decide +kernel
theorem dX6_rootOf_2 : decode cX6_rootOf 2 = .ok (.iload_n 1, 1) := by decide +kernel
theorem dX6_rootOf_3 : decode cX6_rootOf 3 = .ok (.imul, 1) := by decide +kernel
theorem dX6_rootOf_4 : decode cX6_rootOf 4 = .ok (.aload_n 0, 1) := by decide +kernel
theorem dX6_rootOf_5 : decode cX6_rootOf 5 = .ok (.getfield 13, 3) := by decide +kernel
theorem dX6_rootOf_8 : decode cX6_rootOf 8 = .ok (.iload_n 1, 1) := by decide +kernel
theorem dX6_rootOf_9 : decode cX6_rootOf 9 = .ok (.iaload, 1) := by decide +kernel
theorem dX6_rootOf_10 : decode cX6_rootOf 10 = .ok (.iadd, 1) := by decide +kernel
theorem dX6_rootOf_11 : decode cX6_rootOf 11 = .ok (.iconst 1, 1) := by decide +kernel
theorem dX6_rootOf_12 : decode cX6_rootOf 12 = .ok (.isub, 1) := by decide +kernel
theorem dX6_rootOf_13 : decode cX6_rootOf 13 = .ok (.ireturn, 1) := by decide +kernel
theorem dX6_goes_0 : decode cX6_goes 0 = .ok (.iconst 0, 1) := by decide +kernel
theorem dX6_goes_1 : decode cX6_goes 1 = .ok (.istore_n 1, 1) := by decide +kernel
theorem dX6_goes_2 : decode cX6_goes 2 = .ok (.iload_n 1, 1) := by decide +kernel
theorem dX6_goes_3 : decode cX6_goes 3 = .ok (.aload_n 0, 1) := by decide +kernel
theorem dX6_goes_4 : decode cX6_goes 4 = .ok (.getfield 199, 3) := by decide +kernel
theorem dX6_goes_7 : decode cX6_goes 7 = .ok (.if_icmp .ge 146, 3) := by decide +kernel
theorem dX6_goes_10 : decode cX6_goes 10 = .ok (.iconst 0, 1) := by decide +kernel
theorem dX6_goes_11 : decode cX6_goes 11 = .ok (.istore_n 2, 1) := by decide +kernel
theorem dX6_goes_12 : decode cX6_goes 12 = .ok (.iload_n 2, 1) := by decide +kernel
theorem dX6_goes_13 : decode cX6_goes 13 = .ok (.aload_n 0, 1) := by decide +kernel
theorem dX6_goes_14 : decode cX6_goes 14 = .ok (.getfield 13, 3) := by decide +kernel
theorem dX6_goes_17 : decode cX6_goes 17 = .ok (.iload_n 1, 1) := by decide +kernel
theorem dX6_goes_18 : decode cX6_goes 18 = .ok (.iaload, 1) := by decide +kernel
theorem dX6_goes_19 : decode cX6_goes 19 = .ok (.if_icmp .ge 128, 3) := by decide +kernel
theorem dX6_goes_22 : decode cX6_goes 22 = .ok (.bipush 20, 2) := by decide +kernel
theorem dX6_goes_24 : decode cX6_goes 24 = .ok (.iload_n 1, 1) := by decide +kernel
theorem dX6_goes_25 : decode cX6_goes 25 = .ok (.imul, 1) := by decide +kernel
theorem dX6_goes_26 : decode cX6_goes 26 = .ok (.iload_n 2, 1) := by decide +kernel
theorem dX6_goes_27 : decode cX6_goes 27 = .ok (.iadd, 1) := by decide +kernel
theorem dX6_goes_28 : decode cX6_goes 28 = .ok (.istore_n 3, 1) := by decide +kernel
theorem dX6_goes_29 : decode cX6_goes 29 = .ok (.aload_n 0, 1) := by decide +kernel
theorem dX6_goes_30 : decode cX6_goes 30 = .ok (.getfield 16, 3) := by decide +kernel
theorem dX6_goes_33 : decode cX6_goes 33 = .ok (.iload_n 3, 1) := by decide +kernel
theorem dX6_goes_34 : decode cX6_goes 34 = .ok (.iaload, 1) := by decide +kernel
theorem dX6_goes_35 : decode cX6_goes 35 = .ok (.ifCond .eq 13, 3) := by decide +kernel
theorem dX6_goes_38 : decode cX6_goes 38 = .ok (.aload_n 0, 1) := by decide +kernel
theorem dX6_goes_39 : decode cX6_goes 39 = .ok (.getfield 16, 3) := by decide +kernel
theorem dX6_goes_42 : decode cX6_goes 42 = .ok (.iload_n 3, 1) := by decide +kernel
theorem dX6_goes_43 : decode cX6_goes 43 = .ok (.iaload, 1) := by decide +kernel
theorem dX6_goes_44 : decode cX6_goes 44 = .ok (.iconst 1, 1) := by decide +kernel
theorem dX6_goes_45 : decode cX6_goes 45 = .ok (.if_icmp .ne 11, 3) := by decide +kernel
theorem dX6_goes_48 : decode cX6_goes 48 = .ok (.aload_n 0, 1) := by decide +kernel
theorem dX6_goes_49 : decode cX6_goes 49 = .ok (.iload_n 3, 1) := by decide +kernel
theorem dX6_goes_50 : decode cX6_goes 50 = .ok (.invokevirtual 226, 3) := by decide +kernel
theorem dX6_goes_53 : decode cX6_goes 53 = .ok (.goto 88, 3) := by decide +kernel
theorem dX6_goes_56 : decode cX6_goes 56 = .ok (.aload_n 0, 1) := by decide +kernel
theorem dX6_goes_57 : decode cX6_goes 57 = .ok (.getfield 16, 3) := by decide +kernel
theorem dX6_goes_60 : decode cX6_goes 60 = .ok (.iload_n 3, 1) := by decide +kernel
theorem dX6_goes_61 : decode cX6_goes 61 = .ok (.iaload, 1) := by decide +kernel
theorem dX6_goes_62 : decode cX6_goes 62 = .ok (.iconst 2, 1) := by decide +kernel
theorem dX6_goes_63 : decode cX6_goes 63 = .ok (.if_icmp .ne 21, 3) := by decide +kernel
theorem dX6_goes_66 : decode cX6_goes 66 = .ok (.aload_n 0, 1) := by decide +kernel
theorem dX6_goes_67 : decode cX6_goes 67 = .ok (.aload_n 0, 1) := by decide +kernel
theorem dX6_goes_68 : decode cX6_goes 68 = .ok (.aload_n 0, 1) := by decide +kernel
theorem dX6_goes_69 : decode cX6_goes 69 = .ok (.getfield 19, 3) := by decide +kernel
theorem dX6_goes_72 : decode cX6_goes 72 = .ok (.iload_n 3, 1) := by decide +kernel
theorem dX6_goes_73 : decode cX6_goes 73 = .ok (.iaload, 1) := by decide +kernel
theorem dX6_goes_74 : decode cX6_goes 74 = .ok (.invokevirtual 229, 3) := by decide +kernel
theorem dX6_goes_77 : decode cX6_goes 77 = .ok (.iload_n 3, 1) := by decide +kernel
theorem dX6_goes_78 : decode cX6_goes 78 = .ok (.invokevirtual 232, 3) := by decide +kernel
theorem dX6_goes_81 : decode cX6_goes 81 = .ok (.goto 60, 3) := by decide +kernel
theorem dX6_goes_84 : decode cX6_goes 84 = .ok (.aload_n 0, 1) := by decide +kernel
theorem dX6_goes_85 : decode cX6_goes 85 = .ok (.getfield 25, 3) := by decide +kernel
theorem dX6_goes_88 : decode cX6_goes 88 = .ok (.iload_n 3, 1) := by decide +kernel
theorem dX6_goes_89 : decode cX6_goes 89 = .ok (.iaload, 1) := by decide +kernel
theorem dX6_goes_90 : decode cX6_goes 90 = .ok (.bipush (-9), 2) := by decide +kernel
theorem dX6_goes_92 : decode cX6_goes 92 = .ok (.if_icmp .ne 22, 3) := by decide +kernel
theorem dX6_goes_95 : decode cX6_goes 95 = .ok (.aload_n 0, 1) := by decide +kernel
theorem dX6_goes_96 : decode cX6_goes 96 = .ok (.iload_n 3, 1) := by decide +kernel
theorem dX6_goes_97 : decode cX6_goes 97 = .ok (.bipush 20, 2) := by decide +kernel
theorem dX6_goes_99 : decode cX6_goes 99 = .ok (.iload_n 1, 1) := by decide +kernel
theorem dX6_goes_100 : decode cX6_goes 100 = .ok (.imul, 1) := by decide +kernel
theorem dX6_goes_101 : decode cX6_goes 101 = .ok (.aload_n 0, 1) := by decide +kernel
theorem dX6_goes_102 : decode cX6_goes 102 = .ok (.getfield 22, 3) := by decide +kernel
theorem dX6_goes_105 : decode cX6_goes 105 = .ok (.iload_n 3, 1) := by decide +kernel
theorem dX6_goes_106 : decode cX6_goes 106 = .ok (.iaload, 1) := by decide +kernel
theorem dX6_goes_107 : decode cX6_goes 107 = .ok (.iadd, 1) := by decide +kernel
theorem dX6_goes_108 : decode cX6_goes 108 = .ok (.invokevirtual 236, 3) := by decide +kernel
theorem dX6_goes_111 : decode cX6_goes 111 = .ok (.goto 30, 3) := by decide +kernel
theorem dX6_goes_114 : decode cX6_goes 114 = .ok (.aload_n 0, 1) := by decide +kernel
theorem dX6_goes_115 : decode cX6_goes 115 = .ok (.iload_n 3, 1) := by decide +kernel
theorem dX6_goes_116 : decode cX6_goes 116 = .ok (.bipush 20, 2) := by decide +kernel
theorem dX6_goes_118 : decode cX6_goes 118 = .ok (.iload_n 1, 1) := by decide +kernel
theorem dX6_goes_119 : decode cX6_goes 119 = .ok (.imul, 1) := by decide +kernel
theorem dX6_goes_120 : decode cX6_goes 120 = .ok (.aload_n 0, 1) := by decide +kernel
theorem dX6_goes_121 : decode cX6_goes 121 = .ok (.getfield 22, 3) := by decide +kernel
theorem dX6_goes_124 : decode cX6_goes 124 = .ok (.iload_n 3, 1) := by decide +kernel
theorem dX6_goes_125 : decode cX6_goes 125 = .ok (.iaload, 1) := by decide +kernel
theorem dX6_goes_126 : decode cX6_goes 126 = .ok (.iadd, 1) := by decide +kernel
theorem dX6_goes_127 : decode cX6_goes 127 = .ok (.bipush 20, 2) := by decide +kernel
theorem dX6_goes_129 : decode cX6_goes 129 = .ok (.iload_n 1, 1) := by decide +kernel
theorem dX6_goes_130 : decode cX6_goes 130 = .ok (.imul, 1) := by decide +kernel
theorem dX6_goes_131 : decode cX6_goes 131 = .ok (.aload_n 0, 1) := by decide +kernel
theorem dX6_goes_132 : decode cX6_goes 132 = .ok (.getfield 25, 3) := by decide +kernel
theorem dX6_goes_135 : decode cX6_goes 135 = .ok (.iload_n 3, 1) := by decide +kernel
theorem dX6_goes_136 : decode cX6_goes 136 = .ok (.iaload, 1) := by decide +kernel
theorem dX6_goes_137 : decode cX6_goes 137 = .ok (.iadd, 1) := by decide +kernel
theorem dX6_goes_138 : decode cX6_goes 138 = .ok (.invokevirtual 239, 3) := by decide +kernel
theorem dX6_goes_141 : decode cX6_goes 141 = .ok (.iinc 2 1, 3) := by decide +kernel
theorem dX6_goes_144 : decode cX6_goes 144 = .ok (.goto (-132), 3) := by decide +kernel
theorem dX6_goes_147 : decode cX6_goes 147 = .ok (.iinc 1 1, 3) := by decide +kernel
theorem dX6_goes_150 : decode cX6_goes 150 = .ok (.goto (-148), 3) := by decide +kernel
theorem dX6_goes_153 : decode cX6_goes 153 = .ok (.return_, 1) := by decide +kernel
theorem dX6_value_0 : decode cX6_value 0 = .ok (.aload_n 0, 1) := by decide +kernel
theorem dX6_value_1 : decode cX6_value 1 = .ok (.iconst 0, 1) := by decide +kernel
theorem dX6_value_2 : decode cX6_value 2 = .ok (.putfield 93, 3) := by decide +kernel
theorem dX6_value_5 : decode cX6_value 5 = .ok (.aload_n 0, 1) := by decide +kernel
theorem dX6_value_6 : decode cX6_value 6 = .ok (.iload_n 1, 1) := by decide +kernel
theorem dX6_value_7 : decode cX6_value 7 = .ok (.invokevirtual 243, 3) := by decide +kernel
theorem dX6_value_10 : decode cX6_value 10 = .ok (.ifCond .ne 7, 3) := by decide +kernel
theorem dX6_value_13 : decode cX6_value 13 = .ok (.ldc2_w 211, 3) := by decide +kernel
theorem dX6_value_16 : decode cX6_value 16 = .ok (.lreturn, 1) := by decide +kernel
theorem dX6_value_17 : decode cX6_value 17 = .ok (.aload_n 0, 1) := by decide +kernel
theorem dX6_value_18 : decode cX6_value 18 = .ok (.invokevirtual 246, 3) := by decide +kernel
theorem dX6_value_21 : decode cX6_value 21 = .ok (.aload_n 0, 1) := by decide +kernel
theorem dX6_value_22 : decode cX6_value 22 = .ok (.getfield 72, 3) := by decide +kernel
theorem dX6_value_25 : decode cX6_value 25 = .ok (.aload_n 0, 1) := by decide +kernel
theorem dX6_value_26 : decode cX6_value 26 = .ok (.iload_n 1, 1) := by decide +kernel
theorem dX6_value_27 : decode cX6_value 27 = .ok (.invokevirtual 229, 3) := by decide +kernel
theorem dX6_value_30 : decode cX6_value 30 = .ok (.laload, 1) := by decide +kernel
theorem dX6_value_31 : decode cX6_value 31 = .ok (.lreturn, 1) := by decide +kernel
theorem dX6_slopeOf_0 : decode cX6_slopeOf 0 = .ok (.aload_n 0, 1) := by decide +kernel
theorem dX6_slopeOf_1 : decode cX6_slopeOf 1 = .ok (.getfield 75, 3) := by decide +kernel
theorem dX6_slopeOf_4 : decode cX6_slopeOf 4 = .ok (.bipush 6, 2) := by decide +kernel
theorem dX6_slopeOf_6 : decode cX6_slopeOf 6 = .ok (.aload_n 0, 1) := by decide +kernel
theorem dX6_slopeOf_7 : decode cX6_slopeOf 7 = .ok (.iload_n 1, 1) := by decide +kernel
theorem dX6_slopeOf_8 : decode cX6_slopeOf 8 = .ok (.invokevirtual 229, 3) := by decide +kernel
theorem dX6_slopeOf_11 : decode cX6_slopeOf 11 = .ok (.imul, 1) := by decide +kernel
theorem dX6_slopeOf_12 : decode cX6_slopeOf 12 = .ok (.iload_n 2, 1) := by decide +kernel
theorem dX6_slopeOf_13 : decode cX6_slopeOf 13 = .ok (.iadd, 1) := by decide +kernel
theorem dX6_slopeOf_14 : decode cX6_slopeOf 14 = .ok (.laload, 1) := by decide +kernel
theorem dX6_slopeOf_15 : decode cX6_slopeOf 15 = .ok (.lreturn, 1) := by decide +kernel
theorem dX6_slope_0 : decode cX6_slope 0 = .ok (.aload_n 0, 1) := by decide +kernel
theorem dX6_slope_1 : decode cX6_slope 1 = .ok (.iconst 0, 1) := by decide +kernel
theorem dX6_slope_2 : decode cX6_slope 2 = .ok (.putfield 93, 3) := by decide +kernel
theorem dX6_slope_5 : decode cX6_slope 5 = .ok (.aload_n 0, 1) := by decide +kernel
theorem dX6_slope_6 : decode cX6_slope 6 = .ok (.iload_n 1, 1) := by decide +kernel
theorem dX6_slope_7 : decode cX6_slope 7 = .ok (.invokevirtual 243, 3) := by decide +kernel
theorem dX6_slope_10 : decode cX6_slope 10 = .ok (.ifCond .eq 10, 3) := by decide +kernel
theorem dX6_slope_13 : decode cX6_slope 13 = .ok (.iload_n 2, 1) := by decide +kernel
theorem dX6_slope_14 : decode cX6_slope 14 = .ok (.invokestatic 208, 3) := by decide +kernel
theorem dX6_slope_17 : decode cX6_slope 17 = .ok (.ifCond .ne 7, 3) := by decide +kernel
theorem dX6_slope_20 : decode cX6_slope 20 = .ok (.ldc2_w 211, 3) := by decide +kernel
theorem dX6_slope_23 : decode cX6_slope 23 = .ok (.lreturn, 1) := by decide +kernel
theorem dX6_slope_24 : decode cX6_slope 24 = .ok (.aload_n 0, 1) := by decide +kernel
theorem dX6_slope_25 : decode cX6_slope 25 = .ok (.invokevirtual 246, 3) := by decide +kernel
theorem dX6_slope_28 : decode cX6_slope 28 = .ok (.aload_n 0, 1) := by decide +kernel
theorem dX6_slope_29 : decode cX6_slope 29 = .ok (.iload_n 1, 1) := by decide +kernel
theorem dX6_slope_30 : decode cX6_slope 30 = .ok (.iload_n 2, 1) := by decide +kernel
theorem dX6_slope_31 : decode cX6_slope 31 = .ok (.invokevirtual 249, 3) := by decide +kernel
theorem dX6_slope_34 : decode cX6_slope 34 = .ok (.lreturn, 1) := by decide +kernel
theorem dX6_bend_0 : decode cX6_bend 0 = .ok (.aload_n 0, 1) := by decide +kernel
theorem dX6_bend_1 : decode cX6_bend 1 = .ok (.iconst 0, 1) := by decide +kernel
theorem dX6_bend_2 : decode cX6_bend 2 = .ok (.putfield 93, 3) := by decide +kernel
theorem dX6_bend_5 : decode cX6_bend 5 = .ok (.aload_n 0, 1) := by decide +kernel
theorem dX6_bend_6 : decode cX6_bend 6 = .ok (.iload_n 1, 1) := by decide +kernel
theorem dX6_bend_7 : decode cX6_bend 7 = .ok (.invokevirtual 243, 3) := by decide +kernel
theorem dX6_bend_10 : decode cX6_bend 10 = .ok (.ifCond .eq 17, 3) := by decide +kernel
theorem dX6_bend_13 : decode cX6_bend 13 = .ok (.iload_n 2, 1) := by decide +kernel
theorem dX6_bend_14 : decode cX6_bend 14 = .ok (.invokestatic 208, 3) := by decide +kernel
theorem dX6_bend_17 : decode cX6_bend 17 = .ok (.ifCond .eq 10, 3) := by decide +kernel
theorem dX6_bend_20 : decode cX6_bend 20 = .ok (.iload_n 3, 1) := by decide +kernel
theorem dX6_bend_21 : decode cX6_bend 21 = .ok (.invokestatic 208, 3) := by decide +kernel
theorem dX6_bend_24 : decode cX6_bend 24 = .ok (.ifCond .ne 7, 3) := by decide +kernel
theorem dX6_bend_27 : decode cX6_bend 27 = .ok (.ldc2_w 211, 3) := by decide +kernel
theorem dX6_bend_30 : decode cX6_bend 30 = .ok (.lreturn, 1) := by decide +kernel
theorem dX6_bend_31 : decode cX6_bend 31 = .ok (.aload_n 0, 1) := by decide +kernel
theorem dX6_bend_32 : decode cX6_bend 32 = .ok (.invokevirtual 246, 3) := by decide +kernel
theorem dX6_bend_35 : decode cX6_bend 35 = .ok (.aload_n 0, 1) := by decide +kernel
theorem dX6_bend_36 : decode cX6_bend 36 = .ok (.getfield 78, 3) := by decide +kernel
theorem dX6_bend_39 : decode cX6_bend 39 = .ok (.bipush 36, 2) := by decide +kernel
theorem dX6_bend_41 : decode cX6_bend 41 = .ok (.aload_n 0, 1) := by decide +kernel
theorem dX6_bend_42 : decode cX6_bend 42 = .ok (.iload_n 1, 1) := by decide +kernel
theorem dX6_bend_43 : decode cX6_bend 43 = .ok (.invokevirtual 229, 3) := by decide +kernel
theorem dX6_bend_46 : decode cX6_bend 46 = .ok (.imul, 1) := by decide +kernel
theorem dX6_bend_47 : decode cX6_bend 47 = .ok (.bipush 6, 2) := by decide +kernel
theorem dX6_bend_49 : decode cX6_bend 49 = .ok (.iload_n 2, 1) := by decide +kernel
theorem dX6_bend_50 : decode cX6_bend 50 = .ok (.imul, 1) := by decide +kernel
theorem dX6_bend_51 : decode cX6_bend 51 = .ok (.iadd, 1) := by decide +kernel
theorem dX6_bend_52 : decode cX6_bend 52 = .ok (.iload_n 3, 1) := by decide +kernel
theorem dX6_bend_53 : decode cX6_bend 53 = .ok (.iadd, 1) := by decide +kernel
theorem dX6_bend_54 : decode cX6_bend 54 = .ok (.laload, 1) := by decide +kernel
theorem dX6_bend_55 : decode cX6_bend 55 = .ok (.lreturn, 1) := by decide +kernel
theorem dX6_togetherOf_0 : decode cX6_togetherOf 0 = .ok (.lconst 0, 1) := by decide +kernel
theorem dX6_togetherOf_1 : decode cX6_togetherOf 1 = .ok (.lstore 4, 2) := by decide +kernel
theorem dX6_togetherOf_3 : decode cX6_togetherOf 3 = .ok (.iconst 0, 1) := by decide +kernel
theorem dX6_togetherOf_4 : decode cX6_togetherOf 4 = .ok (.istore 6, 2) := by decide +kernel
theorem dX6_togetherOf_6 : decode cX6_togetherOf 6 = .ok (.iload 6, 2) := by decide +kernel
theorem dX6_togetherOf_8 : decode cX6_togetherOf 8 = .ok (.bipush 6, 2) := by decide +kernel
theorem dX6_togetherOf_10 : decode cX6_togetherOf 10 = .ok (.if_icmp .ge 77, 3) := by decide +kernel
theorem dX6_togetherOf_13 : decode cX6_togetherOf 13 = .ok (.iconst 0, 1) := by decide +kernel
theorem dX6_togetherOf_14 : decode cX6_togetherOf 14 = .ok (.istore 7, 2) := by decide +kernel
theorem dX6_togetherOf_16 : decode cX6_togetherOf 16 = .ok (.iload 7, 2) := by decide +kernel
theorem dX6_togetherOf_18 : decode cX6_togetherOf 18 = .ok (.bipush 6, 2) := by decide +kernel
theorem dX6_togetherOf_20 : decode cX6_togetherOf 20 = .ok (.if_icmp .ge 61, 3) := by decide +kernel
theorem dX6_togetherOf_23 : decode cX6_togetherOf 23 = .ok (.lload 4, 2) := by decide +kernel
theorem dX6_togetherOf_25 : decode cX6_togetherOf 25 = .ok (.iload_n 3, 1) := by decide +kernel
theorem dX6_togetherOf_26 : decode cX6_togetherOf 26 = .ok (.iload 6, 2) := by decide +kernel
theorem dX6_togetherOf_28 : decode cX6_togetherOf 28 = .ok (.invokestatic 253, 3) := by decide +kernel
theorem dX6_togetherOf_31 : decode cX6_togetherOf 31 = .ok (.ifCond .ne 12, 3) := by decide +kernel
theorem dX6_togetherOf_34 : decode cX6_togetherOf 34 = .ok (.iload_n 3, 1) := by decide +kernel
theorem dX6_togetherOf_35 : decode cX6_togetherOf 35 = .ok (.iload 7, 2) := by decide +kernel
theorem dX6_togetherOf_37 : decode cX6_togetherOf 37 = .ok (.invokestatic 253, 3) := by decide +kernel
theorem dX6_togetherOf_40 : decode cX6_togetherOf 40 = .ok (.ifCond .eq 7, 3) := by decide +kernel
theorem dX6_togetherOf_43 : decode cX6_togetherOf 43 = .ok (.lconst 0, 1) := by decide +kernel
theorem dX6_togetherOf_44 : decode cX6_togetherOf 44 = .ok (.goto 28, 3) := by decide +kernel
theorem dX6_togetherOf_47 : decode cX6_togetherOf 47 = .ok (.aload_n 0, 1) := by decide +kernel
theorem dX6_togetherOf_48 : decode cX6_togetherOf 48 = .ok (.iload_n 1, 1) := by decide +kernel
theorem dX6_togetherOf_49 : decode cX6_togetherOf 49 = .ok (.iload 6, 2) := by decide +kernel
theorem dX6_togetherOf_51 : decode cX6_togetherOf 51 = .ok (.invokevirtual 249, 3) := by decide +kernel
theorem dX6_togetherOf_54 : decode cX6_togetherOf 54 = .ok (.aload_n 0, 1) := by decide +kernel
theorem dX6_togetherOf_55 : decode cX6_togetherOf 55 = .ok (.iload_n 2, 1) := by decide +kernel
theorem dX6_togetherOf_56 : decode cX6_togetherOf 56 = .ok (.iload 7, 2) := by decide +kernel
theorem dX6_togetherOf_58 : decode cX6_togetherOf 58 = .ok (.invokevirtual 249, 3) := by decide +kernel
theorem dX6_togetherOf_61 : decode cX6_togetherOf 61 = .ok (.lmul, 1) := by decide +kernel
theorem dX6_togetherOf_62 : decode cX6_togetherOf 62 = .ok (.aload_n 0, 1) := by decide +kernel
theorem dX6_togetherOf_63 : decode cX6_togetherOf 63 = .ok (.iload 6, 2) := by decide +kernel
theorem dX6_togetherOf_65 : decode cX6_togetherOf 65 = .ok (.iload 7, 2) := by decide +kernel
theorem dX6_togetherOf_67 : decode cX6_togetherOf 67 = .ok (.invokevirtual 213, 3) := by decide +kernel
theorem dX6_togetherOf_70 : decode cX6_togetherOf 70 = .ok (.i2l, 1) := by decide +kernel
theorem dX6_togetherOf_71 : decode cX6_togetherOf 71 = .ok (.lmul, 1) := by decide +kernel
theorem dX6_togetherOf_72 : decode cX6_togetherOf 72 = .ok (.ladd, 1) := by decide +kernel
theorem dX6_togetherOf_73 : decode cX6_togetherOf 73 = .ok (.lstore 4, 2) := by decide +kernel
theorem dX6_togetherOf_75 : decode cX6_togetherOf 75 = .ok (.iinc 7 1, 3) := by decide +kernel
theorem dX6_togetherOf_78 : decode cX6_togetherOf 78 = .ok (.goto (-62), 3) := by decide +kernel
theorem dX6_togetherOf_81 : decode cX6_togetherOf 81 = .ok (.iinc 6 1, 3) := by decide +kernel
theorem dX6_togetherOf_84 : decode cX6_togetherOf 84 = .ok (.goto (-78), 3) := by decide +kernel
theorem dX6_togetherOf_87 : decode cX6_togetherOf 87 = .ok (.lload 4, 2) := by decide +kernel
theorem dX6_togetherOf_89 : decode cX6_togetherOf 89 = .ok (.lreturn, 1) := by decide +kernel
theorem dX6_shareOf_0 : decode cX6_shareOf 0 = .ok (.lconst 0, 1) := by decide +kernel
theorem dX6_shareOf_1 : decode cX6_shareOf 1 = .ok (.lstore_n 3, 1) := by decide +kernel
theorem dX6_shareOf_2 : decode cX6_shareOf 2 = .ok (.iconst 0, 1) := by decide +kernel
theorem dX6_shareOf_3 : decode cX6_shareOf 3 = .ok (.istore 5, 2) := by decide +kernel
theorem dX6_shareOf_5 : decode cX6_shareOf 5 = .ok (.iload 5, 2) := by decide +kernel
theorem dX6_shareOf_7 : decode cX6_shareOf 7 = .ok (.bipush 6, 2) := by decide +kernel
theorem dX6_shareOf_9 : decode cX6_shareOf 9 = .ok (.if_icmp .ge 35, 3) := by decide +kernel
theorem dX6_shareOf_12 : decode cX6_shareOf 12 = .ok (.lload_n 3, 1) := by decide +kernel
theorem dX6_shareOf_13 : decode cX6_shareOf 13 = .ok (.aload_n 0, 1) := by decide +kernel
theorem dX6_shareOf_14 : decode cX6_shareOf 14 = .ok (.iload_n 1, 1) := by decide +kernel
theorem dX6_shareOf_15 : decode cX6_shareOf 15 = .ok (.iload_n 2, 1) := by decide +kernel
theorem dX6_shareOf_16 : decode cX6_shareOf 16 = .ok (.invokevirtual 249, 3) := by decide +kernel
theorem dX6_shareOf_19 : decode cX6_shareOf 19 = .ok (.aload_n 0, 1) := by decide +kernel
theorem dX6_shareOf_20 : decode cX6_shareOf 20 = .ok (.iload_n 1, 1) := by decide +kernel
theorem dX6_shareOf_21 : decode cX6_shareOf 21 = .ok (.iload 5, 2) := by decide +kernel
theorem dX6_shareOf_23 : decode cX6_shareOf 23 = .ok (.invokevirtual 249, 3) := by decide +kernel
theorem dX6_shareOf_26 : decode cX6_shareOf 26 = .ok (.lmul, 1) := by decide +kernel
theorem dX6_shareOf_27 : decode cX6_shareOf 27 = .ok (.aload_n 0, 1) := by decide +kernel
theorem dX6_shareOf_28 : decode cX6_shareOf 28 = .ok (.iload_n 2, 1) := by decide +kernel
theorem dX6_shareOf_29 : decode cX6_shareOf 29 = .ok (.iload 5, 2) := by decide +kernel
theorem dX6_shareOf_31 : decode cX6_shareOf 31 = .ok (.invokevirtual 213, 3) := by decide +kernel
theorem dX6_shareOf_34 : decode cX6_shareOf 34 = .ok (.i2l, 1) := by decide +kernel
theorem dX6_shareOf_35 : decode cX6_shareOf 35 = .ok (.lmul, 1) := by decide +kernel
theorem dX6_shareOf_36 : decode cX6_shareOf 36 = .ok (.ladd, 1) := by decide +kernel
theorem dX6_shareOf_37 : decode cX6_shareOf 37 = .ok (.lstore_n 3, 1) := by decide +kernel
theorem dX6_shareOf_38 : decode cX6_shareOf 38 = .ok (.iinc 5 1, 3) := by decide +kernel
theorem dX6_shareOf_41 : decode cX6_shareOf 41 = .ok (.goto (-36), 3) := by decide +kernel
theorem dX6_shareOf_44 : decode cX6_shareOf 44 = .ok (.lload_n 3, 1) := by decide +kernel
theorem dX6_shareOf_45 : decode cX6_shareOf 45 = .ok (.lreturn, 1) := by decide +kernel
theorem dX6_takesOf_0 : decode cX6_takesOf 0 = .ok (.aload_n 0, 1) := by decide +kernel
theorem dX6_takesOf_1 : decode cX6_takesOf 1 = .ok (.iload_n 1, 1) := by decide +kernel
theorem dX6_takesOf_2 : decode cX6_takesOf 2 = .ok (.iload_n 1, 1) := by decide +kernel
theorem dX6_takesOf_3 : decode cX6_takesOf 3 = .ok (.iconst 0, 1) := by decide +kernel
theorem dX6_takesOf_4 : decode cX6_takesOf 4 = .ok (.invokevirtual 256, 3) := by decide +kernel
theorem dX6_takesOf_7 : decode cX6_takesOf 7 = .ok (.aload_n 0, 1) := by decide +kernel
theorem dX6_takesOf_8 : decode cX6_takesOf 8 = .ok (.iload_n 1, 1) := by decide +kernel
theorem dX6_takesOf_9 : decode cX6_takesOf 9 = .ok (.iload_n 1, 1) := by decide +kernel
theorem dX6_takesOf_10 : decode cX6_takesOf 10 = .ok (.iconst 1, 1) := by decide +kernel
theorem dX6_takesOf_11 : decode cX6_takesOf 11 = .ok (.iload_n 2, 1) := by decide +kernel
theorem dX6_takesOf_12 : decode cX6_takesOf 12 = .ok (.ishl, 1) := by decide +kernel
theorem dX6_takesOf_13 : decode cX6_takesOf 13 = .ok (.invokevirtual 256, 3) := by decide +kernel
theorem dX6_takesOf_16 : decode cX6_takesOf 16 = .ok (.lsub, 1) := by decide +kernel
theorem dX6_takesOf_17 : decode cX6_takesOf 17 = .ok (.lreturn, 1) := by decide +kernel
theorem dX6_whole_0 : decode cX6_whole 0 = .ok (.aload_n 0, 1) := by decide +kernel
theorem dX6_whole_1 : decode cX6_whole 1 = .ok (.iconst 0, 1) := by decide +kernel
theorem dX6_whole_2 : decode cX6_whole 2 = .ok (.putfield 93, 3) := by decide +kernel
theorem dX6_whole_5 : decode cX6_whole 5 = .ok (.aload_n 0, 1) := by decide +kernel
theorem dX6_whole_6 : decode cX6_whole 6 = .ok (.iload_n 1, 1) := by decide +kernel
theorem dX6_whole_7 : decode cX6_whole 7 = .ok (.invokevirtual 243, 3) := by decide +kernel
theorem dX6_whole_10 : decode cX6_whole 10 = .ok (.ifCond .ne 7, 3) := by decide +kernel
theorem dX6_whole_13 : decode cX6_whole 13 = .ok (.ldc2_w 211, 3) := by decide +kernel
theorem dX6_whole_16 : decode cX6_whole 16 = .ok (.lreturn, 1) := by decide +kernel
theorem dX6_whole_17 : decode cX6_whole 17 = .ok (.aload_n 0, 1) := by decide +kernel
theorem dX6_whole_18 : decode cX6_whole 18 = .ok (.invokevirtual 246, 3) := by decide +kernel
theorem dX6_whole_21 : decode cX6_whole 21 = .ok (.aload_n 0, 1) := by decide +kernel
theorem dX6_whole_22 : decode cX6_whole 22 = .ok (.iload_n 1, 1) := by decide +kernel
theorem dX6_whole_23 : decode cX6_whole 23 = .ok (.iload_n 1, 1) := by decide +kernel
theorem dX6_whole_24 : decode cX6_whole 24 = .ok (.iconst 0, 1) := by decide +kernel
theorem dX6_whole_25 : decode cX6_whole 25 = .ok (.invokevirtual 256, 3) := by decide +kernel
theorem dX6_whole_28 : decode cX6_whole 28 = .ok (.lreturn, 1) := by decide +kernel
theorem dX6_together_0 : decode cX6_together 0 = .ok (.aload_n 0, 1) := by decide +kernel
theorem dX6_together_1 : decode cX6_together 1 = .ok (.iconst 0, 1) := by decide +kernel
theorem dX6_together_2 : decode cX6_together 2 = .ok (.putfield 93, 3) := by decide +kernel
theorem dX6_together_5 : decode cX6_together 5 = .ok (.aload_n 0, 1) := by decide +kernel
theorem dX6_together_6 : decode cX6_together 6 = .ok (.iload_n 1, 1) := by decide +kernel
theorem dX6_together_7 : decode cX6_together 7 = .ok (.invokevirtual 243, 3) := by decide +kernel
theorem dX6_together_10 : decode cX6_together 10 = .ok (.ifCond .eq 11, 3) := by decide +kernel
theorem dX6_together_13 : decode cX6_together 13 = .ok (.aload_n 0, 1) := by decide +kernel
theorem dX6_together_14 : decode cX6_together 14 = .ok (.iload_n 2, 1) := by decide +kernel
theorem dX6_together_15 : decode cX6_together 15 = .ok (.invokevirtual 243, 3) := by decide +kernel
theorem dX6_together_18 : decode cX6_together 18 = .ok (.ifCond .ne 7, 3) := by decide +kernel
theorem dX6_together_21 : decode cX6_together 21 = .ok (.ldc2_w 211, 3) := by decide +kernel
theorem dX6_together_24 : decode cX6_together 24 = .ok (.lreturn, 1) := by decide +kernel
theorem dX6_together_25 : decode cX6_together 25 = .ok (.aload_n 0, 1) := by decide +kernel
theorem dX6_together_26 : decode cX6_together 26 = .ok (.invokevirtual 246, 3) := by decide +kernel
theorem dX6_together_29 : decode cX6_together 29 = .ok (.aload_n 0, 1) := by decide +kernel
theorem dX6_together_30 : decode cX6_together 30 = .ok (.iload_n 1, 1) := by decide +kernel
theorem dX6_together_31 : decode cX6_together 31 = .ok (.iload_n 2, 1) := by decide +kernel
theorem dX6_together_32 : decode cX6_together 32 = .ok (.iconst 0, 1) := by decide +kernel
theorem dX6_together_33 : decode cX6_together 33 = .ok (.invokevirtual 256, 3) := by decide +kernel
theorem dX6_together_36 : decode cX6_together 36 = .ok (.lreturn, 1) := by decide +kernel
theorem dX6_share_0 : decode cX6_share 0 = .ok (.aload_n 0, 1) := by decide +kernel
theorem dX6_share_1 : decode cX6_share 1 = .ok (.iconst 0, 1) := by decide +kernel
theorem dX6_share_2 : decode cX6_share 2 = .ok (.putfield 93, 3) := by decide +kernel
theorem dX6_share_5 : decode cX6_share 5 = .ok (.aload_n 0, 1) := by decide +kernel
theorem dX6_share_6 : decode cX6_share 6 = .ok (.iload_n 1, 1) := by decide +kernel
theorem dX6_share_7 : decode cX6_share 7 = .ok (.invokevirtual 243, 3) := by decide +kernel
theorem dX6_share_10 : decode cX6_share 10 = .ok (.ifCond .eq 10, 3) := by decide +kernel
theorem dX6_share_13 : decode cX6_share 13 = .ok (.iload_n 2, 1) := by decide +kernel
theorem dX6_share_14 : decode cX6_share 14 = .ok (.invokestatic 208, 3) := by decide +kernel
theorem dX6_share_17 : decode cX6_share 17 = .ok (.ifCond .ne 7, 3) := by decide +kernel
theorem dX6_share_20 : decode cX6_share 20 = .ok (.ldc2_w 211, 3) := by decide +kernel
theorem dX6_share_23 : decode cX6_share 23 = .ok (.lreturn, 1) := by decide +kernel
theorem dX6_share_24 : decode cX6_share 24 = .ok (.aload_n 0, 1) := by decide +kernel
theorem dX6_share_25 : decode cX6_share 25 = .ok (.invokevirtual 246, 3) := by decide +kernel
theorem dX6_share_28 : decode cX6_share 28 = .ok (.aload_n 0, 1) := by decide +kernel
theorem dX6_share_29 : decode cX6_share 29 = .ok (.iload_n 1, 1) := by decide +kernel
theorem dX6_share_30 : decode cX6_share 30 = .ok (.iload_n 2, 1) := by decide +kernel
theorem dX6_share_31 : decode cX6_share 31 = .ok (.invokevirtual 260, 3) := by decide +kernel
theorem dX6_share_34 : decode cX6_share 34 = .ok (.lreturn, 1) := by decide +kernel
theorem dX6_left_0 : decode cX6_left 0 = .ok (.aload_n 0, 1) := by decide +kernel
theorem dX6_left_1 : decode cX6_left 1 = .ok (.iconst 0, 1) := by decide +kernel
theorem dX6_left_2 : decode cX6_left 2 = .ok (.putfield 93, 3) := by decide +kernel
theorem dX6_left_5 : decode cX6_left 5 = .ok (.aload_n 0, 1) := by decide +kernel
theorem dX6_left_6 : decode cX6_left 6 = .ok (.iload_n 1, 1) := by decide +kernel
theorem dX6_left_7 : decode cX6_left 7 = .ok (.invokevirtual 243, 3) := by decide +kernel
theorem dX6_left_10 : decode cX6_left 10 = .ok (.ifCond .eq 13, 3) := by decide +kernel
theorem dX6_left_13 : decode cX6_left 13 = .ok (.iload_n 2, 1) := by decide +kernel
theorem dX6_left_14 : decode cX6_left 14 = .ok (.iconst 0, 1) := by decide +kernel
theorem dX6_left_15 : decode cX6_left 15 = .ok (.bipush 63, 2) := by decide +kernel
theorem dX6_left_17 : decode cX6_left 17 = .ok (.invokestatic 97, 3) := by decide +kernel
theorem dX6_left_20 : decode cX6_left 20 = .ok (.ifCond .ne 7, 3) := by decide +kernel
theorem dX6_left_23 : decode cX6_left 23 = .ok (.ldc2_w 211, 3) := by decide +kernel
theorem dX6_left_26 : decode cX6_left 26 = .ok (.lreturn, 1) := by decide +kernel
theorem dX6_left_27 : decode cX6_left 27 = .ok (.aload_n 0, 1) := by decide +kernel
theorem dX6_left_28 : decode cX6_left 28 = .ok (.invokevirtual 246, 3) := by decide +kernel
theorem dX6_left_31 : decode cX6_left 31 = .ok (.aload_n 0, 1) := by decide +kernel
theorem dX6_left_32 : decode cX6_left 32 = .ok (.iload_n 1, 1) := by decide +kernel
theorem dX6_left_33 : decode cX6_left 33 = .ok (.iload_n 1, 1) := by decide +kernel
theorem dX6_left_34 : decode cX6_left 34 = .ok (.iload_n 2, 1) := by decide +kernel
theorem dX6_left_35 : decode cX6_left 35 = .ok (.invokevirtual 256, 3) := by decide +kernel
theorem dX6_left_38 : decode cX6_left 38 = .ok (.lreturn, 1) := by decide +kernel
theorem dX6_fewest_0 : decode cX6_fewest 0 = .ok (.aload_n 0, 1) := by decide +kernel
theorem dX6_fewest_1 : decode cX6_fewest 1 = .ok (.iconst 0, 1) := by decide +kernel
theorem dX6_fewest_2 : decode cX6_fewest 2 = .ok (.putfield 93, 3) := by decide +kernel
theorem dX6_fewest_5 : decode cX6_fewest 5 = .ok (.aload_n 0, 1) := by decide +kernel
theorem dX6_fewest_6 : decode cX6_fewest 6 = .ok (.iload_n 1, 1) := by decide +kernel
theorem dX6_fewest_7 : decode cX6_fewest 7 = .ok (.invokevirtual 243, 3) := by decide +kernel
theorem dX6_fewest_10 : decode cX6_fewest 10 = .ok (.ifCond .ne 5, 3) := by decide +kernel
theorem dX6_fewest_13 : decode cX6_fewest 13 = .ok (.iconst (-1), 1) := by decide +kernel
theorem dX6_fewest_14 : decode cX6_fewest 14 = .ok (.ireturn, 1) := by decide +kernel
theorem dX6_fewest_15 : decode cX6_fewest 15 = .ok (.aload_n 0, 1) := by decide +kernel
theorem dX6_fewest_16 : decode cX6_fewest 16 = .ok (.invokevirtual 246, 3) := by decide +kernel
theorem dX6_fewest_19 : decode cX6_fewest 19 = .ok (.bipush (-9), 2) := by decide +kernel
theorem dX6_fewest_21 : decode cX6_fewest 21 = .ok (.istore 4, 2) := by decide +kernel
theorem dX6_fewest_23 : decode cX6_fewest 23 = .ok (.iconst 0, 1) := by decide +kernel
theorem dX6_fewest_24 : decode cX6_fewest 24 = .ok (.istore 5, 2) := by decide +kernel
theorem dX6_fewest_26 : decode cX6_fewest 26 = .ok (.iload 5, 2) := by decide +kernel
theorem dX6_fewest_28 : decode cX6_fewest 28 = .ok (.bipush 64, 2) := by decide +kernel
theorem dX6_fewest_30 : decode cX6_fewest 30 = .ok (.if_icmp .ge 63, 3) := by decide +kernel
theorem dX6_fewest_33 : decode cX6_fewest 33 = .ok (.iload 4, 2) := by decide +kernel
theorem dX6_fewest_35 : decode cX6_fewest 35 = .ok (.bipush (-9), 2) := by decide +kernel
theorem dX6_fewest_37 : decode cX6_fewest 37 = .ok (.if_icmp .eq 16, 3) := by decide +kernel
theorem dX6_fewest_40 : decode cX6_fewest 40 = .ok (.iload 5, 2) := by decide +kernel
theorem dX6_fewest_42 : decode cX6_fewest 42 = .ok (.invokestatic 263, 3) := by decide +kernel
theorem dX6_fewest_45 : decode cX6_fewest 45 = .ok (.iload 4, 2) := by decide +kernel
theorem dX6_fewest_47 : decode cX6_fewest 47 = .ok (.invokestatic 263, 3) := by decide +kernel
theorem dX6_fewest_50 : decode cX6_fewest 50 = .ok (.if_icmp .ge 7, 3) := by decide +kernel
theorem dX6_fewest_53 : decode cX6_fewest 53 = .ok (.iconst 1, 1) := by decide +kernel
theorem dX6_fewest_54 : decode cX6_fewest 54 = .ok (.goto 4, 3) := by decide +kernel
theorem dX6_fewest_57 : decode cX6_fewest 57 = .ok (.iconst 0, 1) := by decide +kernel
theorem dX6_fewest_58 : decode cX6_fewest 58 = .ok (.istore 6, 2) := by decide +kernel
theorem dX6_fewest_60 : decode cX6_fewest 60 = .ok (.iload 6, 2) := by decide +kernel
theorem dX6_fewest_62 : decode cX6_fewest 62 = .ok (.ifCond .eq 21, 3) := by decide +kernel
theorem dX6_fewest_65 : decode cX6_fewest 65 = .ok (.aload_n 0, 1) := by decide +kernel
theorem dX6_fewest_66 : decode cX6_fewest 66 = .ok (.iload_n 1, 1) := by decide +kernel
theorem dX6_fewest_67 : decode cX6_fewest 67 = .ok (.iload_n 1, 1) := by decide +kernel
theorem dX6_fewest_68 : decode cX6_fewest 68 = .ok (.iload 5, 2) := by decide +kernel
theorem dX6_fewest_70 : decode cX6_fewest 70 = .ok (.invokevirtual 256, 3) := by decide +kernel
theorem dX6_fewest_73 : decode cX6_fewest 73 = .ok (.lload_n 2, 1) := by decide +kernel
theorem dX6_fewest_74 : decode cX6_fewest 74 = .ok (.lcmp, 1) := by decide +kernel
theorem dX6_fewest_75 : decode cX6_fewest 75 = .ok (.ifCond .gt 8, 3) := by decide +kernel
theorem dX6_fewest_78 : decode cX6_fewest 78 = .ok (.iload 5, 2) := by decide +kernel
theorem dX6_fewest_80 : decode cX6_fewest 80 = .ok (.goto 5, 3) := by decide +kernel
theorem dX6_fewest_83 : decode cX6_fewest 83 = .ok (.iload 4, 2) := by decide +kernel
theorem dX6_fewest_85 : decode cX6_fewest 85 = .ok (.istore 4, 2) := by decide +kernel
theorem dX6_fewest_87 : decode cX6_fewest 87 = .ok (.iinc 5 1, 3) := by decide +kernel
theorem dX6_fewest_90 : decode cX6_fewest 90 = .ok (.goto (-64), 3) := by decide +kernel
theorem dX6_fewest_93 : decode cX6_fewest 93 = .ok (.iload 4, 2) := by decide +kernel
theorem dX6_fewest_95 : decode cX6_fewest 95 = .ok (.ireturn, 1) := by decide +kernel
theorem dX6_takes__0 : decode cX6_takes_ 0 = .ok (.aload_n 0, 1) := by decide +kernel
theorem dX6_takes__1 : decode cX6_takes_ 1 = .ok (.iconst 0, 1) := by decide +kernel
theorem dX6_takes__2 : decode cX6_takes_ 2 = .ok (.putfield 93, 3) := by decide +kernel
theorem dX6_takes__5 : decode cX6_takes_ 5 = .ok (.aload_n 0, 1) := by decide +kernel
theorem dX6_takes__6 : decode cX6_takes_ 6 = .ok (.iload_n 1, 1) := by decide +kernel
theorem dX6_takes__7 : decode cX6_takes_ 7 = .ok (.invokevirtual 243, 3) := by decide +kernel
theorem dX6_takes__10 : decode cX6_takes_ 10 = .ok (.ifCond .eq 10, 3) := by decide +kernel
theorem dX6_takes__13 : decode cX6_takes_ 13 = .ok (.iload_n 2, 1) := by decide +kernel
theorem dX6_takes__14 : decode cX6_takes_ 14 = .ok (.invokestatic 208, 3) := by decide +kernel
theorem dX6_takes__17 : decode cX6_takes_ 17 = .ok (.ifCond .ne 7, 3) := by decide +kernel
theorem dX6_takes__20 : decode cX6_takes_ 20 = .ok (.ldc2_w 211, 3) := by decide +kernel
theorem dX6_takes__23 : decode cX6_takes_ 23 = .ok (.lreturn, 1) := by decide +kernel
theorem dX6_takes__24 : decode cX6_takes_ 24 = .ok (.aload_n 0, 1) := by decide +kernel
theorem dX6_takes__25 : decode cX6_takes_ 25 = .ok (.invokevirtual 246, 3) := by decide +kernel
theorem dX6_takes__28 : decode cX6_takes_ 28 = .ok (.aload_n 0, 1) := by decide +kernel
theorem dX6_takes__29 : decode cX6_takes_ 29 = .ok (.iload_n 1, 1) := by decide +kernel
theorem dX6_takes__30 : decode cX6_takes_ 30 = .ok (.iload_n 2, 1) := by decide +kernel
theorem dX6_takes__31 : decode cX6_takes_ 31 = .ok (.invokevirtual 266, 3) := by decide +kernel
theorem dX6_takes__34 : decode cX6_takes_ 34 = .ok (.lreturn, 1) := by decide +kernel
theorem dX6_first_0 : decode cX6_first 0 = .ok (.aload_n 0, 1) := by decide +kernel
theorem dX6_first_1 : decode cX6_first 1 = .ok (.iconst 0, 1) := by decide +kernel
theorem dX6_first_2 : decode cX6_first 2 = .ok (.putfield 93, 3) := by decide +kernel
theorem dX6_first_5 : decode cX6_first 5 = .ok (.aload_n 0, 1) := by decide +kernel
theorem dX6_first_6 : decode cX6_first 6 = .ok (.iload_n 1, 1) := by decide +kernel
theorem dX6_first_7 : decode cX6_first 7 = .ok (.invokevirtual 243, 3) := by decide +kernel
theorem dX6_first_10 : decode cX6_first 10 = .ok (.ifCond .eq 12, 3) := by decide +kernel
theorem dX6_first_13 : decode cX6_first 13 = .ok (.iload_n 2, 1) := by decide +kernel
theorem dX6_first_14 : decode cX6_first 14 = .ok (.iconst 0, 1) := by decide +kernel
theorem dX6_first_15 : decode cX6_first 15 = .ok (.iconst 1, 1) := by decide +kernel
theorem dX6_first_16 : decode cX6_first 16 = .ok (.invokestatic 97, 3) := by decide +kernel
theorem dX6_first_19 : decode cX6_first 19 = .ok (.ifCond .ne 5, 3) := by decide +kernel
theorem dX6_first_22 : decode cX6_first 22 = .ok (.iconst (-1), 1) := by decide +kernel
theorem dX6_first_23 : decode cX6_first 23 = .ok (.ireturn, 1) := by decide +kernel
theorem dX6_first_24 : decode cX6_first 24 = .ok (.aload_n 0, 1) := by decide +kernel
theorem dX6_first_25 : decode cX6_first 25 = .ok (.invokevirtual 246, 3) := by decide +kernel
theorem dX6_first_28 : decode cX6_first 28 = .ok (.iconst 0, 1) := by decide +kernel
theorem dX6_first_29 : decode cX6_first 29 = .ok (.istore_n 3, 1) := by decide +kernel
theorem dX6_first_30 : decode cX6_first 30 = .ok (.lconst 0, 1) := by decide +kernel
theorem dX6_first_31 : decode cX6_first 31 = .ok (.lstore 4, 2) := by decide +kernel
theorem dX6_first_33 : decode cX6_first 33 = .ok (.iconst 0, 1) := by decide +kernel
theorem dX6_first_34 : decode cX6_first 34 = .ok (.istore 6, 2) := by decide +kernel
theorem dX6_first_36 : decode cX6_first 36 = .ok (.iload 6, 2) := by decide +kernel
theorem dX6_first_38 : decode cX6_first 38 = .ok (.bipush 6, 2) := by decide +kernel
theorem dX6_first_40 : decode cX6_first 40 = .ok (.if_icmp .ge 74, 3) := by decide +kernel
theorem dX6_first_43 : decode cX6_first 43 = .ok (.iload_n 2, 1) := by decide +kernel
theorem dX6_first_44 : decode cX6_first 44 = .ok (.ifCond .ne 13, 3) := by decide +kernel
theorem dX6_first_47 : decode cX6_first 47 = .ok (.aload_n 0, 1) := by decide +kernel
theorem dX6_first_48 : decode cX6_first 48 = .ok (.iload_n 1, 1) := by decide +kernel
theorem dX6_first_49 : decode cX6_first 49 = .ok (.iload 6, 2) := by decide +kernel
theorem dX6_first_51 : decode cX6_first 51 = .ok (.invokevirtual 266, 3) := by decide +kernel
theorem dX6_first_54 : decode cX6_first 54 = .ok (.goto 10, 3) := by decide +kernel
theorem dX6_first_57 : decode cX6_first 57 = .ok (.aload_n 0, 1) := by decide +kernel
theorem dX6_first_58 : decode cX6_first 58 = .ok (.iload_n 1, 1) := by decide +kernel
theorem dX6_first_59 : decode cX6_first 59 = .ok (.iload 6, 2) := by decide +kernel
theorem dX6_first_61 : decode cX6_first 61 = .ok (.invokevirtual 260, 3) := by decide +kernel
theorem dX6_first_64 : decode cX6_first 64 = .ok (.lstore 7, 2) := by decide +kernel
theorem dX6_first_66 : decode cX6_first 66 = .ok (.iload 6, 2) := by decide +kernel
theorem dX6_first_68 : decode cX6_first 68 = .ok (.ifCond .eq 11, 3) := by decide +kernel
theorem dX6_first_71 : decode cX6_first 71 = .ok (.lload 7, 2) := by decide +kernel
theorem dX6_first_73 : decode cX6_first 73 = .ok (.lload 4, 2) := by decide +kernel
theorem dX6_first_75 : decode cX6_first 75 = .ok (.lcmp, 1) := by decide +kernel
theorem dX6_first_76 : decode cX6_first 76 = .ok (.ifCond .le 8, 3) := by decide +kernel
theorem dX6_first_79 : decode cX6_first 79 = .ok (.iload 6, 2) := by decide +kernel
theorem dX6_first_81 : decode cX6_first 81 = .ok (.goto 4, 3) := by decide +kernel
theorem dX6_first_84 : decode cX6_first 84 = .ok (.iload_n 3, 1) := by decide +kernel
theorem dX6_first_85 : decode cX6_first 85 = .ok (.istore_n 3, 1) := by decide +kernel
theorem dX6_first_86 : decode cX6_first 86 = .ok (.iload 6, 2) := by decide +kernel
theorem dX6_first_88 : decode cX6_first 88 = .ok (.ifCond .eq 11, 3) := by decide +kernel
theorem dX6_first_91 : decode cX6_first 91 = .ok (.lload 7, 2) := by decide +kernel
theorem dX6_first_93 : decode cX6_first 93 = .ok (.lload 4, 2) := by decide +kernel
theorem dX6_first_95 : decode cX6_first 95 = .ok (.lcmp, 1) := by decide +kernel
theorem dX6_first_96 : decode cX6_first 96 = .ok (.ifCond .le 8, 3) := by decide +kernel
theorem dX6_first_99 : decode cX6_first 99 = .ok (.lload 7, 2) := by decide +kernel
theorem dX6_first_101 : decode cX6_first 101 = .ok (.goto 5, 3) := by decide +kernel
theorem dX6_first_104 : decode cX6_first 104 = .ok (.lload 4, 2) := by decide +kernel
theorem dX6_first_106 : decode cX6_first 106 = .ok (.lstore 4, 2) := by decide +kernel
theorem dX6_first_108 : decode cX6_first 108 = .ok (.iinc 6 1, 3) := by decide +kernel
theorem dX6_first_111 : decode cX6_first 111 = .ok (.goto (-75), 3) := by decide +kernel
theorem dX6_first_114 : decode cX6_first 114 = .ok (.iload_n 3, 1) := by decide +kernel
theorem dX6_first_115 : decode cX6_first 115 = .ok (.ireturn, 1) := by decide +kernel
theorem dX6_valueIf_0 : decode cX6_valueIf 0 = .ok (.aload_n 0, 1) := by decide +kernel
theorem dX6_valueIf_1 : decode cX6_valueIf 1 = .ok (.getfield 46, 3) := by decide +kernel
theorem dX6_valueIf_4 : decode cX6_valueIf 4 = .ok (.iload_n 2, 1) := by decide +kernel
theorem dX6_valueIf_5 : decode cX6_valueIf 5 = .ok (.dup2, 1) := by decide +kernel
theorem dX6_valueIf_6 : decode cX6_valueIf 6 = .ok (.iaload, 1) := by decide +kernel
theorem dX6_valueIf_7 : decode cX6_valueIf 7 = .ok (.iload_n 3, 1) := by decide +kernel
theorem dX6_valueIf_8 : decode cX6_valueIf 8 = .ok (.iadd, 1) := by decide +kernel
theorem dX6_valueIf_9 : decode cX6_valueIf 9 = .ok (.iastore, 1) := by decide +kernel
theorem dX6_valueIf_10 : decode cX6_valueIf 10 = .ok (.aload_n 0, 1) := by decide +kernel
theorem dX6_valueIf_11 : decode cX6_valueIf 11 = .ok (.invokevirtual 246, 3) := by decide +kernel
theorem dX6_valueIf_14 : decode cX6_valueIf 14 = .ok (.aload_n 0, 1) := by decide +kernel
theorem dX6_valueIf_15 : decode cX6_valueIf 15 = .ok (.getfield 46, 3) := by decide +kernel
theorem dX6_valueIf_18 : decode cX6_valueIf 18 = .ok (.iload_n 2, 1) := by decide +kernel
theorem dX6_valueIf_19 : decode cX6_valueIf 19 = .ok (.dup2, 1) := by decide +kernel
theorem dX6_valueIf_20 : decode cX6_valueIf 20 = .ok (.iaload, 1) := by decide +kernel
theorem dX6_valueIf_21 : decode cX6_valueIf 21 = .ok (.iload_n 3, 1) := by decide +kernel
theorem dX6_valueIf_22 : decode cX6_valueIf 22 = .ok (.isub, 1) := by decide +kernel
theorem dX6_valueIf_23 : decode cX6_valueIf 23 = .ok (.iastore, 1) := by decide +kernel
theorem dX6_valueIf_24 : decode cX6_valueIf 24 = .ok (.aload_n 0, 1) := by decide +kernel
theorem dX6_valueIf_25 : decode cX6_valueIf 25 = .ok (.getfield 72, 3) := by decide +kernel
theorem dX6_valueIf_28 : decode cX6_valueIf 28 = .ok (.aload_n 0, 1) := by decide +kernel
theorem dX6_valueIf_29 : decode cX6_valueIf 29 = .ok (.iload_n 1, 1) := by decide +kernel
theorem dX6_valueIf_30 : decode cX6_valueIf 30 = .ok (.invokevirtual 229, 3) := by decide +kernel
theorem dX6_valueIf_33 : decode cX6_valueIf 33 = .ok (.laload, 1) := by decide +kernel
theorem dX6_valueIf_34 : decode cX6_valueIf 34 = .ok (.lreturn, 1) := by decide +kernel
theorem dX6_off_0 : decode cX6_off 0 = .ok (.aload_n 0, 1) := by decide +kernel
theorem dX6_off_1 : decode cX6_off 1 = .ok (.iconst 0, 1) := by decide +kernel
theorem dX6_off_2 : decode cX6_off 2 = .ok (.putfield 93, 3) := by decide +kernel
theorem dX6_off_5 : decode cX6_off 5 = .ok (.aload_n 0, 1) := by decide +kernel
theorem dX6_off_6 : decode cX6_off 6 = .ok (.iload_n 1, 1) := by decide +kernel
theorem dX6_off_7 : decode cX6_off 7 = .ok (.invokevirtual 243, 3) := by decide +kernel
theorem dX6_off_10 : decode cX6_off 10 = .ok (.ifCond .eq 21, 3) := by decide +kernel
theorem dX6_off_13 : decode cX6_off 13 = .ok (.iload_n 2, 1) := by decide +kernel
theorem dX6_off_14 : decode cX6_off 14 = .ok (.invokestatic 208, 3) := by decide +kernel
theorem dX6_off_17 : decode cX6_off 17 = .ok (.ifCond .eq 14, 3) := by decide +kernel
theorem dX6_off_20 : decode cX6_off 20 = .ok (.iload_n 3, 1) := by decide +kernel
theorem dX6_off_21 : decode cX6_off 21 = .ok (.bipush (-20), 2) := by decide +kernel
theorem dX6_off_23 : decode cX6_off 23 = .ok (.bipush 20, 2) := by decide +kernel
theorem dX6_off_25 : decode cX6_off 25 = .ok (.invokestatic 97, 3) := by decide +kernel
theorem dX6_off_28 : decode cX6_off 28 = .ok (.ifCond .ne 7, 3) := by decide +kernel
theorem dX6_off_31 : decode cX6_off 31 = .ok (.ldc2_w 211, 3) := by decide +kernel
theorem dX6_off_34 : decode cX6_off 34 = .ok (.lreturn, 1) := by decide +kernel
theorem dX6_off_35 : decode cX6_off 35 = .ok (.aload_n 0, 1) := by decide +kernel
theorem dX6_off_36 : decode cX6_off 36 = .ok (.iload_n 1, 1) := by decide +kernel
theorem dX6_off_37 : decode cX6_off 37 = .ok (.iload_n 2, 1) := by decide +kernel
theorem dX6_off_38 : decode cX6_off 38 = .ok (.iload_n 3, 1) := by decide +kernel
theorem dX6_off_39 : decode cX6_off 39 = .ok (.invokevirtual 269, 3) := by decide +kernel
theorem dX6_off_42 : decode cX6_off 42 = .ok (.lstore 4, 2) := by decide +kernel
theorem dX6_off_44 : decode cX6_off 44 = .ok (.aload_n 0, 1) := by decide +kernel
theorem dX6_off_45 : decode cX6_off 45 = .ok (.invokevirtual 246, 3) := by decide +kernel
theorem dX6_off_48 : decode cX6_off 48 = .ok (.lload 4, 2) := by decide +kernel
theorem dX6_off_50 : decode cX6_off 50 = .ok (.aload_n 0, 1) := by decide +kernel
theorem dX6_off_51 : decode cX6_off 51 = .ok (.getfield 72, 3) := by decide +kernel
theorem dX6_off_54 : decode cX6_off 54 = .ok (.aload_n 0, 1) := by decide +kernel
theorem dX6_off_55 : decode cX6_off 55 = .ok (.iload_n 1, 1) := by decide +kernel
theorem dX6_off_56 : decode cX6_off 56 = .ok (.invokevirtual 229, 3) := by decide +kernel
theorem dX6_off_59 : decode cX6_off 59 = .ok (.laload, 1) := by decide +kernel
theorem dX6_off_60 : decode cX6_off 60 = .ok (.lsub, 1) := by decide +kernel
theorem dX6_off_61 : decode cX6_off 61 = .ok (.iload_n 3, 1) := by decide +kernel
theorem dX6_off_62 : decode cX6_off 62 = .ok (.i2l, 1) := by decide +kernel
theorem dX6_off_63 : decode cX6_off 63 = .ok (.aload_n 0, 1) := by decide +kernel
theorem dX6_off_64 : decode cX6_off 64 = .ok (.iload_n 1, 1) := by decide +kernel
theorem dX6_off_65 : decode cX6_off 65 = .ok (.iload_n 2, 1) := by decide +kernel
theorem dX6_off_66 : decode cX6_off 66 = .ok (.invokevirtual 249, 3) := by decide +kernel
theorem dX6_off_69 : decode cX6_off 69 = .ok (.lmul, 1) := by decide +kernel
theorem dX6_off_70 : decode cX6_off 70 = .ok (.lsub, 1) := by decide +kernel
theorem dX6_off_71 : decode cX6_off 71 = .ok (.lreturn, 1) := by decide +kernel
theorem dX6_sees_0 : decode cX6_sees 0 = .ok (.aload_n 0, 1) := by decide +kernel
theorem dX6_sees_1 : decode cX6_sees 1 = .ok (.iconst 0, 1) := by decide +kernel
theorem dX6_sees_2 : decode cX6_sees 2 = .ok (.putfield 93, 3) := by decide +kernel
theorem dX6_sees_5 : decode cX6_sees 5 = .ok (.aload_n 0, 1) := by decide +kernel
theorem dX6_sees_6 : decode cX6_sees 6 = .ok (.iload_n 1, 1) := by decide +kernel
theorem dX6_sees_7 : decode cX6_sees 7 = .ok (.invokevirtual 243, 3) := by decide +kernel
theorem dX6_sees_10 : decode cX6_sees 10 = .ok (.ifCond .ne 5, 3) := by decide +kernel
theorem dX6_sees_13 : decode cX6_sees 13 = .ok (.iconst (-1), 1) := by decide +kernel
theorem dX6_sees_14 : decode cX6_sees 14 = .ok (.ireturn, 1) := by decide +kernel
theorem dX6_sees_15 : decode cX6_sees 15 = .ok (.aload_n 0, 1) := by decide +kernel
theorem dX6_sees_16 : decode cX6_sees 16 = .ok (.getfield 202, 3) := by decide +kernel
theorem dX6_sees_19 : decode cX6_sees 19 = .ok (.bipush 6, 2) := by decide +kernel
theorem dX6_sees_21 : decode cX6_sees 21 = .ok (.if_icmp .ne 6, 3) := by decide +kernel
theorem dX6_sees_24 : decode cX6_sees 24 = .ok (.bipush (-3), 2) := by decide +kernel
theorem dX6_sees_26 : decode cX6_sees 26 = .ok (.ireturn, 1) := by decide +kernel
theorem dX6_sees_27 : decode cX6_sees 27 = .ok (.aload_n 0, 1) := by decide +kernel
theorem dX6_sees_28 : decode cX6_sees 28 = .ok (.getfield 59, 3) := by decide +kernel
theorem dX6_sees_31 : decode cX6_sees 31 = .ok (.aload_n 0, 1) := by decide +kernel
theorem dX6_sees_32 : decode cX6_sees 32 = .ok (.getfield 202, 3) := by decide +kernel
theorem dX6_sees_35 : decode cX6_sees 35 = .ok (.iload_n 1, 1) := by decide +kernel
theorem dX6_sees_36 : decode cX6_sees 36 = .ok (.iastore, 1) := by decide +kernel
theorem dX6_sees_37 : decode cX6_sees 37 = .ok (.aload_n 0, 1) := by decide +kernel
theorem dX6_sees_38 : decode cX6_sees 38 = .ok (.getfield 62, 3) := by decide +kernel
theorem dX6_sees_41 : decode cX6_sees 41 = .ok (.aload_n 0, 1) := by decide +kernel
theorem dX6_sees_42 : decode cX6_sees 42 = .ok (.getfield 202, 3) := by decide +kernel
theorem dX6_sees_45 : decode cX6_sees 45 = .ok (.lload_n 2, 1) := by decide +kernel
theorem dX6_sees_46 : decode cX6_sees 46 = .ok (.lastore, 1) := by decide +kernel
theorem dX6_sees_47 : decode cX6_sees 47 = .ok (.aload_n 0, 1) := by decide +kernel
theorem dX6_sees_48 : decode cX6_sees 48 = .ok (.dup, 1) := by decide +kernel
theorem dX6_sees_49 : decode cX6_sees 49 = .ok (.getfield 202, 3) := by decide +kernel
theorem dX6_sees_52 : decode cX6_sees 52 = .ok (.iconst 1, 1) := by decide +kernel
theorem dX6_sees_53 : decode cX6_sees 53 = .ok (.iadd, 1) := by decide +kernel
theorem dX6_sees_54 : decode cX6_sees 54 = .ok (.putfield 202, 3) := by decide +kernel
theorem dX6_sees_57 : decode cX6_sees 57 = .ok (.aload_n 0, 1) := by decide +kernel
theorem dX6_sees_58 : decode cX6_sees 58 = .ok (.getfield 202, 3) := by decide +kernel
theorem dX6_sees_61 : decode cX6_sees 61 = .ok (.ireturn, 1) := by decide +kernel
theorem dX6_forget_0 : decode cX6_forget 0 = .ok (.aload_n 0, 1) := by decide +kernel
theorem dX6_forget_1 : decode cX6_forget 1 = .ok (.iconst 0, 1) := by decide +kernel
theorem dX6_forget_2 : decode cX6_forget 2 = .ok (.putfield 93, 3) := by decide +kernel
theorem dX6_forget_5 : decode cX6_forget 5 = .ok (.aload_n 0, 1) := by decide +kernel
theorem dX6_forget_6 : decode cX6_forget 6 = .ok (.getfield 202, 3) := by decide +kernel
theorem dX6_forget_9 : decode cX6_forget 9 = .ok (.istore_n 1, 1) := by decide +kernel
theorem dX6_forget_10 : decode cX6_forget 10 = .ok (.aload_n 0, 1) := by decide +kernel
theorem dX6_forget_11 : decode cX6_forget 11 = .ok (.iconst 0, 1) := by decide +kernel
theorem dX6_forget_12 : decode cX6_forget 12 = .ok (.putfield 202, 3) := by decide +kernel
theorem dX6_forget_15 : decode cX6_forget 15 = .ok (.iload_n 1, 1) := by decide +kernel
theorem dX6_forget_16 : decode cX6_forget 16 = .ok (.ireturn, 1) := by decide +kernel
theorem dX6_unseen_0 : decode cX6_unseen 0 = .ok (.aload_n 0, 1) := by decide +kernel
theorem dX6_unseen_1 : decode cX6_unseen 1 = .ok (.iconst 0, 1) := by decide +kernel
theorem dX6_unseen_2 : decode cX6_unseen 2 = .ok (.putfield 93, 3) := by decide +kernel
theorem dX6_unseen_5 : decode cX6_unseen 5 = .ok (.iload_n 1, 1) := by decide +kernel
theorem dX6_unseen_6 : decode cX6_unseen 6 = .ok (.bipush (-20), 2) := by decide +kernel
theorem dX6_unseen_8 : decode cX6_unseen 8 = .ok (.bipush 20, 2) := by decide +kernel
theorem dX6_unseen_10 : decode cX6_unseen 10 = .ok (.invokestatic 97, 3) := by decide +kernel
theorem dX6_unseen_13 : decode cX6_unseen 13 = .ok (.ifCond .ne 5, 3) := by decide +kernel
theorem dX6_unseen_16 : decode cX6_unseen 16 = .ok (.iconst (-1), 1) := by decide +kernel
theorem dX6_unseen_17 : decode cX6_unseen 17 = .ok (.ireturn, 1) := by decide +kernel
theorem dX6_unseen_18 : decode cX6_unseen 18 = .ok (.iconst 0, 1) := by decide +kernel
theorem dX6_unseen_19 : decode cX6_unseen 19 = .ok (.istore_n 2, 1) := by decide +kernel
theorem dX6_unseen_20 : decode cX6_unseen 20 = .ok (.iconst 0, 1) := by decide +kernel
theorem dX6_unseen_21 : decode cX6_unseen 21 = .ok (.istore_n 3, 1) := by decide +kernel
theorem dX6_unseen_22 : decode cX6_unseen 22 = .ok (.iload_n 3, 1) := by decide +kernel
theorem dX6_unseen_23 : decode cX6_unseen 23 = .ok (.bipush 6, 2) := by decide +kernel
theorem dX6_unseen_25 : decode cX6_unseen 25 = .ok (.if_icmp .ge 81, 3) := by decide +kernel
theorem dX6_unseen_28 : decode cX6_unseen 28 = .ok (.iconst 1, 1) := by decide +kernel
theorem dX6_unseen_29 : decode cX6_unseen 29 = .ok (.istore 4, 2) := by decide +kernel
theorem dX6_unseen_31 : decode cX6_unseen 31 = .ok (.iconst 0, 1) := by decide +kernel
theorem dX6_unseen_32 : decode cX6_unseen 32 = .ok (.istore 5, 2) := by decide +kernel
theorem dX6_unseen_34 : decode cX6_unseen 34 = .ok (.iload 5, 2) := by decide +kernel
theorem dX6_unseen_36 : decode cX6_unseen 36 = .ok (.aload_n 0, 1) := by decide +kernel
theorem dX6_unseen_37 : decode cX6_unseen 37 = .ok (.getfield 202, 3) := by decide +kernel
theorem dX6_unseen_40 : decode cX6_unseen 40 = .ok (.if_icmp .ge 45, 3) := by decide +kernel
theorem dX6_unseen_43 : decode cX6_unseen 43 = .ok (.iload 4, 2) := by decide +kernel
theorem dX6_unseen_45 : decode cX6_unseen 45 = .ok (.ifCond .eq 31, 3) := by decide +kernel
theorem dX6_unseen_48 : decode cX6_unseen 48 = .ok (.aload_n 0, 1) := by decide +kernel
theorem dX6_unseen_49 : decode cX6_unseen 49 = .ok (.aload_n 0, 1) := by decide +kernel
theorem dX6_unseen_50 : decode cX6_unseen 50 = .ok (.getfield 59, 3) := by decide +kernel
theorem dX6_unseen_53 : decode cX6_unseen 53 = .ok (.iload 5, 2) := by decide +kernel
theorem dX6_unseen_55 : decode cX6_unseen 55 = .ok (.iaload, 1) := by decide +kernel
theorem dX6_unseen_56 : decode cX6_unseen 56 = .ok (.iload_n 3, 1) := by decide +kernel
theorem dX6_unseen_57 : decode cX6_unseen 57 = .ok (.iload_n 1, 1) := by decide +kernel
theorem dX6_unseen_58 : decode cX6_unseen 58 = .ok (.invokevirtual 269, 3) := by decide +kernel
theorem dX6_unseen_61 : decode cX6_unseen 61 = .ok (.aload_n 0, 1) := by decide +kernel
theorem dX6_unseen_62 : decode cX6_unseen 62 = .ok (.getfield 62, 3) := by decide +kernel
theorem dX6_unseen_65 : decode cX6_unseen 65 = .ok (.iload 5, 2) := by decide +kernel
theorem dX6_unseen_67 : decode cX6_unseen 67 = .ok (.laload, 1) := by decide +kernel
theorem dX6_unseen_68 : decode cX6_unseen 68 = .ok (.lcmp, 1) := by decide +kernel
theorem dX6_unseen_69 : decode cX6_unseen 69 = .ok (.ifCond .ne 7, 3) := by decide +kernel
theorem dX6_unseen_72 : decode cX6_unseen 72 = .ok (.iconst 1, 1) := by decide +kernel
theorem dX6_unseen_73 : decode cX6_unseen 73 = .ok (.goto 4, 3) := by decide +kernel
theorem dX6_unseen_76 : decode cX6_unseen 76 = .ok (.iconst 0, 1) := by decide +kernel
theorem dX6_unseen_77 : decode cX6_unseen 77 = .ok (.istore 4, 2) := by decide +kernel
theorem dX6_unseen_79 : decode cX6_unseen 79 = .ok (.iinc 5 1, 3) := by decide +kernel
theorem dX6_unseen_82 : decode cX6_unseen 82 = .ok (.goto (-48), 3) := by decide +kernel
theorem dX6_unseen_85 : decode cX6_unseen 85 = .ok (.iload_n 2, 1) := by decide +kernel
theorem dX6_unseen_86 : decode cX6_unseen 86 = .ok (.iload 4, 2) := by decide +kernel
theorem dX6_unseen_88 : decode cX6_unseen 88 = .ok (.ifCond .eq 9, 3) := by decide +kernel
theorem dX6_unseen_91 : decode cX6_unseen 91 = .ok (.iconst 1, 1) := by decide +kernel
theorem dX6_unseen_92 : decode cX6_unseen 92 = .ok (.iload_n 3, 1) := by decide +kernel
theorem dX6_unseen_93 : decode cX6_unseen 93 = .ok (.ishl, 1) := by decide +kernel
theorem dX6_unseen_94 : decode cX6_unseen 94 = .ok (.goto 4, 3) := by decide +kernel
theorem dX6_unseen_97 : decode cX6_unseen 97 = .ok (.iconst 0, 1) := by decide +kernel
theorem dX6_unseen_98 : decode cX6_unseen 98 = .ok (.ior, 1) := by decide +kernel
theorem dX6_unseen_99 : decode cX6_unseen 99 = .ok (.istore_n 2, 1) := by decide +kernel
theorem dX6_unseen_100 : decode cX6_unseen 100 = .ok (.iinc 3 1, 3) := by decide +kernel
theorem dX6_unseen_103 : decode cX6_unseen 103 = .ok (.goto (-81), 3) := by decide +kernel
theorem dX6_unseen_106 : decode cX6_unseen 106 = .ok (.iload_n 2, 1) := by decide +kernel
theorem dX6_unseen_107 : decode cX6_unseen 107 = .ok (.ireturn, 1) := by decide +kernel
theorem dX6_keep_0 : decode cX6_keep 0 = .ok (.aload_n 0, 1) := by decide +kernel
theorem dX6_keep_1 : decode cX6_keep 1 = .ok (.iconst 0, 1) := by decide +kernel
theorem dX6_keep_2 : decode cX6_keep 2 = .ok (.putfield 93, 3) := by decide +kernel
theorem dX6_keep_5 : decode cX6_keep 5 = .ok (.iload_n 1, 1) := by decide +kernel
theorem dX6_keep_6 : decode cX6_keep 6 = .ok (.iconst 0, 1) := by decide +kernel
theorem dX6_keep_7 : decode cX6_keep 7 = .ok (.iconst 1, 1) := by decide +kernel
theorem dX6_keep_8 : decode cX6_keep 8 = .ok (.invokestatic 97, 3) := by decide +kernel
theorem dX6_keep_11 : decode cX6_keep 11 = .ok (.ifCond .ne 5, 3) := by decide +kernel
theorem dX6_keep_14 : decode cX6_keep 14 = .ok (.iconst (-1), 1) := by decide +kernel
theorem dX6_keep_15 : decode cX6_keep 15 = .ok (.ireturn, 1) := by decide +kernel
theorem dX6_keep_16 : decode cX6_keep 16 = .ok (.iconst 0, 1) := by decide +kernel
theorem dX6_keep_17 : decode cX6_keep 17 = .ok (.istore_n 2, 1) := by decide +kernel
theorem dX6_keep_18 : decode cX6_keep 18 = .ok (.iload_n 2, 1) := by decide +kernel
theorem dX6_keep_19 : decode cX6_keep 19 = .ok (.bipush 48, 2) := by decide +kernel
theorem dX6_keep_21 : decode cX6_keep 21 = .ok (.if_icmp .ge 26, 3) := by decide +kernel
theorem dX6_keep_24 : decode cX6_keep 24 = .ok (.aload_n 0, 1) := by decide +kernel
theorem dX6_keep_25 : decode cX6_keep 25 = .ok (.getfield 52, 3) := by decide +kernel
theorem dX6_keep_28 : decode cX6_keep 28 = .ok (.bipush 48, 2) := by decide +kernel
theorem dX6_keep_30 : decode cX6_keep 30 = .ok (.iload_n 1, 1) := by decide +kernel
theorem dX6_keep_31 : decode cX6_keep 31 = .ok (.imul, 1) := by decide +kernel
theorem dX6_keep_32 : decode cX6_keep 32 = .ok (.iload_n 2, 1) := by decide +kernel
theorem dX6_keep_33 : decode cX6_keep 33 = .ok (.iadd, 1) := by decide +kernel
theorem dX6_keep_34 : decode cX6_keep 34 = .ok (.aload_n 0, 1) := by decide +kernel
theorem dX6_keep_35 : decode cX6_keep 35 = .ok (.getfield 46, 3) := by decide +kernel
theorem dX6_keep_38 : decode cX6_keep 38 = .ok (.iload_n 2, 1) := by decide +kernel
theorem dX6_keep_39 : decode cX6_keep 39 = .ok (.iaload, 1) := by decide +kernel
theorem dX6_keep_40 : decode cX6_keep 40 = .ok (.iastore, 1) := by decide +kernel
theorem dX6_keep_41 : decode cX6_keep 41 = .ok (.iinc 2 1, 3) := by decide +kernel
theorem dX6_keep_44 : decode cX6_keep 44 = .ok (.goto (-26), 3) := by decide +kernel
theorem dX6_keep_47 : decode cX6_keep 47 = .ok (.aload_n 0, 1) := by decide +kernel
theorem dX6_keep_48 : decode cX6_keep 48 = .ok (.getfield 55, 3) := by decide +kernel
theorem dX6_keep_51 : decode cX6_keep 51 = .ok (.iload_n 1, 1) := by decide +kernel
theorem dX6_keep_52 : decode cX6_keep 52 = .ok (.iconst 1, 1) := by decide +kernel
theorem dX6_keep_53 : decode cX6_keep 53 = .ok (.bastore, 1) := by decide +kernel
theorem dX6_keep_54 : decode cX6_keep 54 = .ok (.aload_n 0, 1) := by decide +kernel
theorem dX6_keep_55 : decode cX6_keep 55 = .ok (.getfield 199, 3) := by decide +kernel
theorem dX6_keep_58 : decode cX6_keep 58 = .ok (.ireturn, 1) := by decide +kernel
theorem dX6_back_0 : decode cX6_back 0 = .ok (.aload_n 0, 1) := by decide +kernel
theorem dX6_back_1 : decode cX6_back 1 = .ok (.iconst 0, 1) := by decide +kernel
theorem dX6_back_2 : decode cX6_back 2 = .ok (.putfield 93, 3) := by decide +kernel
theorem dX6_back_5 : decode cX6_back 5 = .ok (.iload_n 1, 1) := by decide +kernel
theorem dX6_back_6 : decode cX6_back 6 = .ok (.iconst 0, 1) := by decide +kernel
theorem dX6_back_7 : decode cX6_back 7 = .ok (.iconst 1, 1) := by decide +kernel
theorem dX6_back_8 : decode cX6_back 8 = .ok (.invokestatic 97, 3) := by decide +kernel
theorem dX6_back_11 : decode cX6_back 11 = .ok (.ifCond .ne 5, 3) := by decide +kernel
theorem dX6_back_14 : decode cX6_back 14 = .ok (.iconst (-1), 1) := by decide +kernel
theorem dX6_back_15 : decode cX6_back 15 = .ok (.ireturn, 1) := by decide +kernel
theorem dX6_back_16 : decode cX6_back 16 = .ok (.aload_n 0, 1) := by decide +kernel
theorem dX6_back_17 : decode cX6_back 17 = .ok (.getfield 55, 3) := by decide +kernel
theorem dX6_back_20 : decode cX6_back 20 = .ok (.iload_n 1, 1) := by decide +kernel
theorem dX6_back_21 : decode cX6_back 21 = .ok (.baload, 1) := by decide +kernel
theorem dX6_back_22 : decode cX6_back 22 = .ok (.ifCond .ne 6, 3) := by decide +kernel
theorem dX6_back_25 : decode cX6_back 25 = .ok (.bipush (-2), 2) := by decide +kernel
theorem dX6_back_27 : decode cX6_back 27 = .ok (.ireturn, 1) := by decide +kernel
theorem dX6_back_28 : decode cX6_back 28 = .ok (.iconst 0, 1) := by decide +kernel
theorem dX6_back_29 : decode cX6_back 29 = .ok (.istore_n 2, 1) := by decide +kernel
theorem dX6_back_30 : decode cX6_back 30 = .ok (.iload_n 2, 1) := by decide +kernel
theorem dX6_back_31 : decode cX6_back 31 = .ok (.bipush 48, 2) := by decide +kernel
theorem dX6_back_33 : decode cX6_back 33 = .ok (.if_icmp .ge 26, 3) := by decide +kernel
theorem dX6_back_36 : decode cX6_back 36 = .ok (.aload_n 0, 1) := by decide +kernel
theorem dX6_back_37 : decode cX6_back 37 = .ok (.getfield 46, 3) := by decide +kernel
theorem dX6_back_40 : decode cX6_back 40 = .ok (.iload_n 2, 1) := by decide +kernel
theorem dX6_back_41 : decode cX6_back 41 = .ok (.aload_n 0, 1) := by decide +kernel
theorem dX6_back_42 : decode cX6_back 42 = .ok (.getfield 52, 3) := by decide +kernel
theorem dX6_back_45 : decode cX6_back 45 = .ok (.bipush 48, 2) := by decide +kernel
theorem dX6_back_47 : decode cX6_back 47 = .ok (.iload_n 1, 1) := by decide +kernel
theorem dX6_back_48 : decode cX6_back 48 = .ok (.imul, 1) := by decide +kernel
theorem dX6_back_49 : decode cX6_back 49 = .ok (.iload_n 2, 1) := by decide +kernel
theorem dX6_back_50 : decode cX6_back 50 = .ok (.iadd, 1) := by decide +kernel
theorem dX6_back_51 : decode cX6_back 51 = .ok (.iaload, 1) := by decide +kernel
theorem dX6_back_52 : decode cX6_back 52 = .ok (.iastore, 1) := by decide +kernel
theorem dX6_back_53 : decode cX6_back 53 = .ok (.iinc 2 1, 3) := by decide +kernel
theorem dX6_back_56 : decode cX6_back 56 = .ok (.goto (-26), 3) := by decide +kernel
theorem dX6_back_59 : decode cX6_back 59 = .ok (.aload_n 0, 1) := by decide +kernel
theorem dX6_back_60 : decode cX6_back 60 = .ok (.iconst 0, 1) := by decide +kernel
theorem dX6_back_61 : decode cX6_back 61 = .ok (.putfield 205, 3) := by decide +kernel
theorem dX6_back_64 : decode cX6_back 64 = .ok (.aload_n 0, 1) := by decide +kernel
theorem dX6_back_65 : decode cX6_back 65 = .ok (.getfield 199, 3) := by decide +kernel
theorem dX6_back_68 : decode cX6_back 68 = .ok (.ireturn, 1) := by decide +kernel
theorem dX6_formula_0 : decode cX6_formula 0 = .ok (.aload_n 0, 1) := by decide +kernel
theorem dX6_formula_1 : decode cX6_formula 1 = .ok (.iconst 0, 1) := by decide +kernel
theorem dX6_formula_2 : decode cX6_formula 2 = .ok (.putfield 93, 3) := by decide +kernel
theorem dX6_formula_5 : decode cX6_formula 5 = .ok (.aload_n 0, 1) := by decide +kernel
theorem dX6_formula_6 : decode cX6_formula 6 = .ok (.iload_n 1, 1) := by decide +kernel
theorem dX6_formula_7 : decode cX6_formula 7 = .ok (.invokevirtual 243, 3) := by decide +kernel
theorem dX6_formula_10 : decode cX6_formula 10 = .ok (.ifCond .eq 12, 3) := by decide +kernel
theorem dX6_formula_13 : decode cX6_formula 13 = .ok (.iload_n 2, 1) := by decide +kernel
theorem dX6_formula_14 : decode cX6_formula 14 = .ok (.iconst 0, 1) := by decide +kernel
theorem dX6_formula_15 : decode cX6_formula 15 = .ok (.iconst 2, 1) := by decide +kernel
theorem dX6_formula_16 : decode cX6_formula 16 = .ok (.invokestatic 97, 3) := by decide +kernel
theorem dX6_formula_19 : decode cX6_formula 19 = .ok (.ifCond .ne 5, 3) := by decide +kernel
theorem dX6_formula_22 : decode cX6_formula 22 = .ok (.iconst (-1), 1) := by decide +kernel
theorem dX6_formula_23 : decode cX6_formula 23 = .ok (.ireturn, 1) := by decide +kernel
theorem dX6_formula_24 : decode cX6_formula 24 = .ok (.iconst 0, 1) := by decide +kernel
theorem dX6_formula_25 : decode cX6_formula 25 = .ok (.istore_n 3, 1) := by decide +kernel
theorem dX6_formula_26 : decode cX6_formula 26 = .ok (.iload_n 3, 1) := by decide +kernel
theorem dX6_formula_27 : decode cX6_formula 27 = .ok (.iload_n 1, 1) := by decide +kernel
theorem dX6_formula_28 : decode cX6_formula 28 = .ok (.if_icmp .gt 151, 3) := by decide +kernel
theorem dX6_formula_31 : decode cX6_formula 31 = .ok (.aload_n 0, 1) := by decide +kernel
theorem dX6_formula_32 : decode cX6_formula 32 = .ok (.getfield 81, 3) := by decide +kernel
theorem dX6_formula_35 : decode cX6_formula 35 = .ok (.iload_n 3, 1) := by decide +kernel
theorem dX6_formula_36 : decode cX6_formula 36 = .ok (.aload_n 0, 1) := by decide +kernel
theorem dX6_formula_37 : decode cX6_formula 37 = .ok (.getfield 13, 3) := by decide +kernel
theorem dX6_formula_40 : decode cX6_formula 40 = .ok (.iload_n 3, 1) := by decide +kernel
theorem dX6_formula_41 : decode cX6_formula 41 = .ok (.iaload, 1) := by decide +kernel
theorem dX6_formula_42 : decode cX6_formula 42 = .ok (.iastore, 1) := by decide +kernel
theorem dX6_formula_43 : decode cX6_formula 43 = .ok (.aload_n 0, 1) := by decide +kernel
theorem dX6_formula_44 : decode cX6_formula 44 = .ok (.getfield 84, 3) := by decide +kernel
theorem dX6_formula_47 : decode cX6_formula 47 = .ok (.iload_n 3, 1) := by decide +kernel
theorem dX6_formula_48 : decode cX6_formula 48 = .ok (.iconst 0, 1) := by decide +kernel
theorem dX6_formula_49 : decode cX6_formula 49 = .ok (.iastore, 1) := by decide +kernel
theorem dX6_formula_50 : decode cX6_formula 50 = .ok (.bipush 20, 2) := by decide +kernel
theorem dX6_formula_52 : decode cX6_formula 52 = .ok (.iload_n 3, 1) := by decide +kernel
theorem dX6_formula_53 : decode cX6_formula 53 = .ok (.imul, 1) := by decide +kernel
theorem dX6_formula_54 : decode cX6_formula 54 = .ok (.istore 4, 2) := by decide +kernel
theorem dX6_formula_56 : decode cX6_formula 56 = .ok (.iload 4, 2) := by decide +kernel
theorem dX6_formula_58 : decode cX6_formula 58 = .ok (.bipush 20, 2) := by decide +kernel
theorem dX6_formula_60 : decode cX6_formula 60 = .ok (.iload_n 3, 1) := by decide +kernel
theorem dX6_formula_61 : decode cX6_formula 61 = .ok (.imul, 1) := by decide +kernel
theorem dX6_formula_62 : decode cX6_formula 62 = .ok (.aload_n 0, 1) := by decide +kernel
theorem dX6_formula_63 : decode cX6_formula 63 = .ok (.getfield 13, 3) := by decide +kernel
theorem dX6_formula_66 : decode cX6_formula 66 = .ok (.iload_n 3, 1) := by decide +kernel
theorem dX6_formula_67 : decode cX6_formula 67 = .ok (.iaload, 1) := by decide +kernel
theorem dX6_formula_68 : decode cX6_formula 68 = .ok (.iadd, 1) := by decide +kernel
theorem dX6_formula_69 : decode cX6_formula 69 = .ok (.if_icmp .ge 104, 3) := by decide +kernel
theorem dX6_formula_72 : decode cX6_formula 72 = .ok (.aload_n 0, 1) := by decide +kernel
theorem dX6_formula_73 : decode cX6_formula 73 = .ok (.getfield 81, 3) := by decide +kernel
theorem dX6_formula_76 : decode cX6_formula 76 = .ok (.iload_n 3, 1) := by decide +kernel
theorem dX6_formula_77 : decode cX6_formula 77 = .ok (.dup2, 1) := by decide +kernel
theorem dX6_formula_78 : decode cX6_formula 78 = .ok (.iaload, 1) := by decide +kernel
theorem dX6_formula_79 : decode cX6_formula 79 = .ok (.aload_n 0, 1) := by decide +kernel
theorem dX6_formula_80 : decode cX6_formula 80 = .ok (.getfield 16, 3) := by decide +kernel
theorem dX6_formula_83 : decode cX6_formula 83 = .ok (.iload 4, 2) := by decide +kernel
theorem dX6_formula_85 : decode cX6_formula 85 = .ok (.iaload, 1) := by decide +kernel
theorem dX6_formula_86 : decode cX6_formula 86 = .ok (.iconst 2, 1) := by decide +kernel
theorem dX6_formula_87 : decode cX6_formula 87 = .ok (.if_icmp .ne 18, 3) := by decide +kernel
theorem dX6_formula_90 : decode cX6_formula 90 = .ok (.aload_n 0, 1) := by decide +kernel
theorem dX6_formula_91 : decode cX6_formula 91 = .ok (.getfield 81, 3) := by decide +kernel
theorem dX6_formula_94 : decode cX6_formula 94 = .ok (.aload_n 0, 1) := by decide +kernel
theorem dX6_formula_95 : decode cX6_formula 95 = .ok (.getfield 19, 3) := by decide +kernel
theorem dX6_formula_98 : decode cX6_formula 98 = .ok (.iload 4, 2) := by decide +kernel
theorem dX6_formula_100 : decode cX6_formula 100 = .ok (.iaload, 1) := by decide +kernel
theorem dX6_formula_101 : decode cX6_formula 101 = .ok (.iaload, 1) := by decide +kernel
theorem dX6_formula_102 : decode cX6_formula 102 = .ok (.goto 4, 3) := by decide +kernel
theorem dX6_formula_105 : decode cX6_formula 105 = .ok (.iconst 0, 1) := by decide +kernel
theorem dX6_formula_106 : decode cX6_formula 106 = .ok (.iadd, 1) := by decide +kernel
theorem dX6_formula_107 : decode cX6_formula 107 = .ok (.iastore, 1) := by decide +kernel
theorem dX6_formula_108 : decode cX6_formula 108 = .ok (.aload_n 0, 1) := by decide +kernel
theorem dX6_formula_109 : decode cX6_formula 109 = .ok (.getfield 84, 3) := by decide +kernel
theorem dX6_formula_112 : decode cX6_formula 112 = .ok (.iload_n 3, 1) := by decide +kernel
theorem dX6_formula_113 : decode cX6_formula 113 = .ok (.dup2, 1) := by decide +kernel
theorem dX6_formula_114 : decode cX6_formula 114 = .ok (.iaload, 1) := by decide +kernel
theorem dX6_formula_115 : decode cX6_formula 115 = .ok (.aload_n 0, 1) := by decide +kernel
theorem dX6_formula_116 : decode cX6_formula 116 = .ok (.getfield 16, 3) := by decide +kernel
theorem dX6_formula_119 : decode cX6_formula 119 = .ok (.iload 4, 2) := by decide +kernel
theorem dX6_formula_121 : decode cX6_formula 121 = .ok (.iaload, 1) := by decide +kernel
theorem dX6_formula_122 : decode cX6_formula 122 = .ok (.iconst 2, 1) := by decide +kernel
theorem dX6_formula_123 : decode cX6_formula 123 = .ok (.if_icmp .ne 18, 3) := by decide +kernel
theorem dX6_formula_126 : decode cX6_formula 126 = .ok (.aload_n 0, 1) := by decide +kernel
theorem dX6_formula_127 : decode cX6_formula 127 = .ok (.getfield 84, 3) := by decide +kernel
theorem dX6_formula_130 : decode cX6_formula 130 = .ok (.aload_n 0, 1) := by decide +kernel
theorem dX6_formula_131 : decode cX6_formula 131 = .ok (.getfield 19, 3) := by decide +kernel
theorem dX6_formula_134 : decode cX6_formula 134 = .ok (.iload 4, 2) := by decide +kernel
theorem dX6_formula_136 : decode cX6_formula 136 = .ok (.iaload, 1) := by decide +kernel
theorem dX6_formula_137 : decode cX6_formula 137 = .ok (.iaload, 1) := by decide +kernel
theorem dX6_formula_138 : decode cX6_formula 138 = .ok (.goto 27, 3) := by decide +kernel
theorem dX6_formula_141 : decode cX6_formula 141 = .ok (.aload_n 0, 1) := by decide +kernel
theorem dX6_formula_142 : decode cX6_formula 142 = .ok (.getfield 16, 3) := by decide +kernel
theorem dX6_formula_145 : decode cX6_formula 145 = .ok (.iload 4, 2) := by decide +kernel
theorem dX6_formula_147 : decode cX6_formula 147 = .ok (.iaload, 1) := by decide +kernel
theorem dX6_formula_148 : decode cX6_formula 148 = .ok (.iconst 1, 1) := by decide +kernel
theorem dX6_formula_149 : decode cX6_formula 149 = .ok (.if_icmp .ne 15, 3) := by decide +kernel
theorem dX6_formula_152 : decode cX6_formula 152 = .ok (.iconst 1, 1) := by decide +kernel
theorem dX6_formula_153 : decode cX6_formula 153 = .ok (.aload_n 0, 1) := by decide +kernel
theorem dX6_formula_154 : decode cX6_formula 154 = .ok (.getfield 19, 3) := by decide +kernel
theorem dX6_formula_157 : decode cX6_formula 157 = .ok (.iload 4, 2) := by decide +kernel
theorem dX6_formula_159 : decode cX6_formula 159 = .ok (.iaload, 1) := by decide +kernel
theorem dX6_formula_160 : decode cX6_formula 160 = .ok (.ishl, 1) := by decide +kernel
theorem dX6_formula_161 : decode cX6_formula 161 = .ok (.goto 4, 3) := by decide +kernel
theorem dX6_formula_164 : decode cX6_formula 164 = .ok (.iconst 0, 1) := by decide +kernel
theorem dX6_formula_165 : decode cX6_formula 165 = .ok (.ior, 1) := by decide +kernel
theorem dX6_formula_166 : decode cX6_formula 166 = .ok (.iastore, 1) := by decide +kernel
theorem dX6_formula_167 : decode cX6_formula 167 = .ok (.iinc 4 1, 3) := by decide +kernel
theorem dX6_formula_170 : decode cX6_formula 170 = .ok (.goto (-114), 3) := by decide +kernel
theorem dX6_formula_173 : decode cX6_formula 173 = .ok (.iinc 3 1, 3) := by decide +kernel
theorem dX6_formula_176 : decode cX6_formula 176 = .ok (.goto (-150), 3) := by decide +kernel
theorem dX6_formula_179 : decode cX6_formula 179 = .ok (.iload_n 2, 1) := by decide +kernel
theorem dX6_formula_180 : decode cX6_formula 180 = .ok (.ifCond .ne 12, 3) := by decide +kernel
theorem dX6_formula_183 : decode cX6_formula 183 = .ok (.aload_n 0, 1) := by decide +kernel
theorem dX6_formula_184 : decode cX6_formula 184 = .ok (.getfield 13, 3) := by decide +kernel
theorem dX6_formula_187 : decode cX6_formula 187 = .ok (.iload_n 1, 1) := by decide +kernel
theorem dX6_formula_188 : decode cX6_formula 188 = .ok (.iaload, 1) := by decide +kernel
theorem dX6_formula_189 : decode cX6_formula 189 = .ok (.goto 23, 3) := by decide +kernel
theorem dX6_formula_192 : decode cX6_formula 192 = .ok (.iload_n 2, 1) := by decide +kernel
theorem dX6_formula_193 : decode cX6_formula 193 = .ok (.iconst 1, 1) := by decide +kernel
theorem dX6_formula_194 : decode cX6_formula 194 = .ok (.if_icmp .ne 12, 3) := by decide +kernel
theorem dX6_formula_197 : decode cX6_formula 197 = .ok (.aload_n 0, 1) := by decide +kernel
theorem dX6_formula_198 : decode cX6_formula 198 = .ok (.getfield 81, 3) := by decide +kernel
theorem dX6_formula_201 : decode cX6_formula 201 = .ok (.iload_n 1, 1) := by decide +kernel
theorem dX6_formula_202 : decode cX6_formula 202 = .ok (.iaload, 1) := by decide +kernel
theorem dX6_formula_203 : decode cX6_formula 203 = .ok (.goto 9, 3) := by decide +kernel
theorem dX6_formula_206 : decode cX6_formula 206 = .ok (.aload_n 0, 1) := by decide +kernel
theorem dX6_formula_207 : decode cX6_formula 207 = .ok (.getfield 84, 3) := by decide +kernel
theorem dX6_formula_210 : decode cX6_formula 210 = .ok (.iload_n 1, 1) := by decide +kernel
theorem dX6_formula_211 : decode cX6_formula 211 = .ok (.iaload, 1) := by decide +kernel
theorem dX6_formula_212 : decode cX6_formula 212 = .ok (.ireturn, 1) := by decide +kernel
theorem dX6_count_0 : decode cX6_count 0 = .ok (.aload_n 0, 1) := by decide +kernel
theorem dX6_count_1 : decode cX6_count 1 = .ok (.iconst 0, 1) := by decide +kernel
theorem dX6_count_2 : decode cX6_count 2 = .ok (.putfield 93, 3) := by decide +kernel
theorem dX6_count_5 : decode cX6_count 5 = .ok (.iload_n 1, 1) := by decide +kernel
theorem dX6_count_6 : decode cX6_count 6 = .ok (.ifCond .ne 10, 3) := by decide +kernel
theorem dX6_count_9 : decode cX6_count 9 = .ok (.aload_n 0, 1) := by decide +kernel
theorem dX6_count_10 : decode cX6_count 10 = .ok (.getfield 199, 3) := by decide +kernel
theorem dX6_count_13 : decode cX6_count 13 = .ok (.goto 40, 3) := by decide +kernel
theorem dX6_count_16 : decode cX6_count 16 = .ok (.iload_n 1, 1) := by decide +kernel
theorem dX6_count_17 : decode cX6_count 17 = .ok (.iconst 1, 1) := by decide +kernel
theorem dX6_count_18 : decode cX6_count 18 = .ok (.if_icmp .ne 10, 3) := by decide +kernel
theorem dX6_count_21 : decode cX6_count 21 = .ok (.aload_n 0, 1) := by decide +kernel
theorem dX6_count_22 : decode cX6_count 22 = .ok (.getfield 202, 3) := by decide +kernel
theorem dX6_count_25 : decode cX6_count 25 = .ok (.goto 28, 3) := by decide +kernel
theorem dX6_count_28 : decode cX6_count 28 = .ok (.iload_n 1, 1) := by decide +kernel
theorem dX6_count_29 : decode cX6_count 29 = .ok (.iconst 2, 1) := by decide +kernel
theorem dX6_count_30 : decode cX6_count 30 = .ok (.if_icmp .ne 10, 3) := by decide +kernel
theorem dX6_count_33 : decode cX6_count 33 = .ok (.aload_n 0, 1) := by decide +kernel
theorem dX6_count_34 : decode cX6_count 34 = .ok (.getfield 101, 3) := by decide +kernel
theorem dX6_count_37 : decode cX6_count 37 = .ok (.goto 16, 3) := by decide +kernel
theorem dX6_count_40 : decode cX6_count 40 = .ok (.iload_n 1, 1) := by decide +kernel
theorem dX6_count_41 : decode cX6_count 41 = .ok (.iconst 3, 1) := by decide +kernel
theorem dX6_count_42 : decode cX6_count 42 = .ok (.if_icmp .ne 10, 3) := by decide +kernel
theorem dX6_count_45 : decode cX6_count 45 = .ok (.aload_n 0, 1) := by decide +kernel
theorem dX6_count_46 : decode cX6_count 46 = .ok (.getfield 205, 3) := by decide +kernel
theorem dX6_count_49 : decode cX6_count 49 = .ok (.goto 4, 3) := by decide +kernel
theorem dX6_count_52 : decode cX6_count 52 = .ok (.iconst (-1), 1) := by decide +kernel
theorem dX6_count_53 : decode cX6_count 53 = .ok (.ireturn, 1) := by decide +kernel
end
section
theorem dL_law_0 : decode cL_law 0 = .ok (.new 7, 3) := by decide +kernel
theorem dL_law_3 : decode cL_law 3 = .ok (.dup, 1) := by decide +kernel
theorem dL_law_4 : decode cL_law 4 = .ok (.invokespecial 9, 3) := by decide +kernel
theorem dL_law_7 : decode cL_law 7 = .ok (.astore_n 1, 1) := by decide +kernel
theorem dL_law_8 : decode cL_law 8 = .ok (.new 10, 3) := by decide +kernel
theorem dL_law_11 : decode cL_law 11 = .ok (.dup, 1) := by decide +kernel
theorem dL_law_12 : decode cL_law 12 = .ok (.invokespecial 12, 3) := by decide +kernel
theorem dL_law_15 : decode cL_law 15 = .ok (.astore_n 2, 1) := by decide +kernel
theorem dL_law_16 : decode cL_law 16 = .ok (.iconst 0, 1) := by decide +kernel
theorem dL_law_17 : decode cL_law 17 = .ok (.istore_n 3, 1) := by decide +kernel
theorem dL_law_18 : decode cL_law 18 = .ok (.iload_n 3, 1) := by decide +kernel
theorem dL_law_19 : decode cL_law 19 = .ok (.aload_n 0, 1) := by decide +kernel
theorem dL_law_20 : decode cL_law 20 = .ok (.arraylength, 1) := by decide +kernel
theorem dL_law_21 : decode cL_law 21 = .ok (.iconst 4, 1) := by decide +kernel
theorem dL_law_22 : decode cL_law 22 = .ok (.isub, 1) := by decide +kernel
theorem dL_law_23 : decode cL_law 23 = .ok (.if_icmp .gt 981, 3) := by decide +kernel
theorem dL_law_26 : decode cL_law 26 = .ok (.aload_n 0, 1) := by decide +kernel
theorem dL_law_27 : decode cL_law 27 = .ok (.iload_n 3, 1) := by decide +kernel
theorem dL_law_28 : decode cL_law 28 = .ok (.iaload, 1) := by decide +kernel
theorem dL_law_29 : decode cL_law 29 = .ok (.bipush 31, 2) := by decide +kernel
theorem dL_law_31 : decode cL_law 31 = .ok (.iand, 1) := by decide +kernel
theorem dL_law_32 : decode cL_law 32 = .ok (.tableswitch 966 0 26 #[124, 147, 160, 173, 207, 241, 274, 307, 350, 363, 387, 421, 465, 489, 523, 557, 591, 654, 688, 721, 765, 828, 841, 864, 887, 910, 943], 124) := by decide +kernel
theorem dL_law_156 : decode cL_law 156 = .ok (.aload_n 1, 1) := by decide +kernel
theorem dL_law_157 : decode cL_law 157 = .ok (.aload_n 0, 1) := by decide +kernel
theorem dL_law_158 : decode cL_law 158 = .ok (.iload_n 3, 1) := by decide +kernel
theorem dL_law_159 : decode cL_law 159 = .ok (.iconst 1, 1) := by decide +kernel
theorem dL_law_160 : decode cL_law 160 = .ok (.iadd, 1) := by decide +kernel
theorem dL_law_161 : decode cL_law 161 = .ok (.iaload, 1) := by decide +kernel
theorem dL_law_162 : decode cL_law 162 = .ok (.invokevirtual 13, 3) := by decide +kernel
theorem dL_law_165 : decode cL_law 165 = .ok (.aload_n 2, 1) := by decide +kernel
theorem dL_law_166 : decode cL_law 166 = .ok (.aload_n 0, 1) := by decide +kernel
theorem dL_law_167 : decode cL_law 167 = .ok (.iload_n 3, 1) := by decide +kernel
theorem dL_law_168 : decode cL_law 168 = .ok (.iconst 1, 1) := by decide +kernel
theorem dL_law_169 : decode cL_law 169 = .ok (.iadd, 1) := by decide +kernel
theorem dL_law_170 : decode cL_law 170 = .ok (.iaload, 1) := by decide +kernel
theorem dL_law_171 : decode cL_law 171 = .ok (.invokevirtual 17, 3) := by decide +kernel
theorem dL_law_174 : decode cL_law 174 = .ok (.if_icmp .eq 824, 3) := by decide +kernel
theorem dL_law_177 : decode cL_law 177 = .ok (.iconst 0, 1) := by decide +kernel
theorem dL_law_178 : decode cL_law 178 = .ok (.ireturn, 1) := by decide +kernel
theorem dL_law_179 : decode cL_law 179 = .ok (.aload_n 1, 1) := by decide +kernel
theorem dL_law_180 : decode cL_law 180 = .ok (.invokevirtual 18, 3) := by decide +kernel
theorem dL_law_183 : decode cL_law 183 = .ok (.aload_n 2, 1) := by decide +kernel
theorem dL_law_184 : decode cL_law 184 = .ok (.invokevirtual 22, 3) := by decide +kernel
theorem dL_law_187 : decode cL_law 187 = .ok (.if_icmp .eq 811, 3) := by decide +kernel
theorem dL_law_190 : decode cL_law 190 = .ok (.iconst 0, 1) := by decide +kernel
theorem dL_law_191 : decode cL_law 191 = .ok (.ireturn, 1) := by decide +kernel
theorem dL_law_192 : decode cL_law 192 = .ok (.aload_n 1, 1) := by decide +kernel
theorem dL_law_193 : decode cL_law 193 = .ok (.invokevirtual 23, 3) := by decide +kernel
theorem dL_law_196 : decode cL_law 196 = .ok (.aload_n 2, 1) := by decide +kernel
theorem dL_law_197 : decode cL_law 197 = .ok (.invokevirtual 26, 3) := by decide +kernel
theorem dL_law_200 : decode cL_law 200 = .ok (.if_icmp .eq 798, 3) := by decide +kernel
theorem dL_law_203 : decode cL_law 203 = .ok (.iconst 0, 1) := by decide +kernel
theorem dL_law_204 : decode cL_law 204 = .ok (.ireturn, 1) := by decide +kernel
theorem dL_law_205 : decode cL_law 205 = .ok (.aload_n 1, 1) := by decide +kernel
theorem dL_law_206 : decode cL_law 206 = .ok (.aload_n 0, 1) := by decide +kernel
theorem dL_law_207 : decode cL_law 207 = .ok (.iload_n 3, 1) := by decide +kernel
theorem dL_law_208 : decode cL_law 208 = .ok (.iconst 1, 1) := by decide +kernel
theorem dL_law_209 : decode cL_law 209 = .ok (.iadd, 1) := by decide +kernel
theorem dL_law_210 : decode cL_law 210 = .ok (.iaload, 1) := by decide +kernel
theorem dL_law_211 : decode cL_law 211 = .ok (.aload_n 0, 1) := by decide +kernel
theorem dL_law_212 : decode cL_law 212 = .ok (.iload_n 3, 1) := by decide +kernel
theorem dL_law_213 : decode cL_law 213 = .ok (.iconst 2, 1) := by decide +kernel
theorem dL_law_214 : decode cL_law 214 = .ok (.iadd, 1) := by decide +kernel
theorem dL_law_215 : decode cL_law 215 = .ok (.iaload, 1) := by decide +kernel
theorem dL_law_216 : decode cL_law 216 = .ok (.invokevirtual 27, 3) := by decide +kernel
theorem dL_law_219 : decode cL_law 219 = .ok (.aload_n 2, 1) := by decide +kernel
theorem dL_law_220 : decode cL_law 220 = .ok (.aload_n 0, 1) := by decide +kernel
theorem dL_law_221 : decode cL_law 221 = .ok (.iload_n 3, 1) := by decide +kernel
theorem dL_law_222 : decode cL_law 222 = .ok (.iconst 1, 1) := by decide +kernel
theorem dL_law_223 : decode cL_law 223 = .ok (.iadd, 1) := by decide +kernel
theorem dL_law_224 : decode cL_law 224 = .ok (.iaload, 1) := by decide +kernel
theorem dL_law_225 : decode cL_law 225 = .ok (.aload_n 0, 1) := by decide +kernel
theorem dL_law_226 : decode cL_law 226 = .ok (.iload_n 3, 1) := by decide +kernel
theorem dL_law_227 : decode cL_law 227 = .ok (.iconst 2, 1) := by decide +kernel
theorem dL_law_228 : decode cL_law 228 = .ok (.iadd, 1) := by decide +kernel
theorem dL_law_229 : decode cL_law 229 = .ok (.iaload, 1) := by decide +kernel
theorem dL_law_230 : decode cL_law 230 = .ok (.invokevirtual 31, 3) := by decide +kernel
theorem dL_law_233 : decode cL_law 233 = .ok (.lcmp, 1) := by decide +kernel
theorem dL_law_234 : decode cL_law 234 = .ok (.ifCond .eq 764, 3) := by decide +kernel
theorem dL_law_237 : decode cL_law 237 = .ok (.iconst 0, 1) := by decide +kernel
theorem dL_law_238 : decode cL_law 238 = .ok (.ireturn, 1) := by decide +kernel
theorem dL_law_239 : decode cL_law 239 = .ok (.aload_n 1, 1) := by decide +kernel
theorem dL_law_240 : decode cL_law 240 = .ok (.aload_n 0, 1) := by decide +kernel
theorem dL_law_241 : decode cL_law 241 = .ok (.iload_n 3, 1) := by decide +kernel
theorem dL_law_242 : decode cL_law 242 = .ok (.iconst 1, 1) := by decide +kernel
theorem dL_law_243 : decode cL_law 243 = .ok (.iadd, 1) := by decide +kernel
theorem dL_law_244 : decode cL_law 244 = .ok (.iaload, 1) := by decide +kernel
theorem dL_law_245 : decode cL_law 245 = .ok (.aload_n 0, 1) := by decide +kernel
theorem dL_law_246 : decode cL_law 246 = .ok (.iload_n 3, 1) := by decide +kernel
theorem dL_law_247 : decode cL_law 247 = .ok (.iconst 2, 1) := by decide +kernel
theorem dL_law_248 : decode cL_law 248 = .ok (.iadd, 1) := by decide +kernel
theorem dL_law_249 : decode cL_law 249 = .ok (.iaload, 1) := by decide +kernel
theorem dL_law_250 : decode cL_law 250 = .ok (.invokevirtual 32, 3) := by decide +kernel
theorem dL_law_253 : decode cL_law 253 = .ok (.aload_n 2, 1) := by decide +kernel
theorem dL_law_254 : decode cL_law 254 = .ok (.aload_n 0, 1) := by decide +kernel
theorem dL_law_255 : decode cL_law 255 = .ok (.iload_n 3, 1) := by decide +kernel
theorem dL_law_256 : decode cL_law 256 = .ok (.iconst 1, 1) := by decide +kernel
theorem dL_law_257 : decode cL_law 257 = .ok (.iadd, 1) := by decide +kernel
theorem dL_law_258 : decode cL_law 258 = .ok (.iaload, 1) := by decide +kernel
theorem dL_law_259 : decode cL_law 259 = .ok (.aload_n 0, 1) := by decide +kernel
theorem dL_law_260 : decode cL_law 260 = .ok (.iload_n 3, 1) := by decide +kernel
theorem dL_law_261 : decode cL_law 261 = .ok (.iconst 2, 1) := by decide +kernel
theorem dL_law_262 : decode cL_law 262 = .ok (.iadd, 1) := by decide +kernel
theorem dL_law_263 : decode cL_law 263 = .ok (.iaload, 1) := by decide +kernel
theorem dL_law_264 : decode cL_law 264 = .ok (.invokevirtual 35, 3) := by decide +kernel
theorem dL_law_267 : decode cL_law 267 = .ok (.lcmp, 1) := by decide +kernel
theorem dL_law_268 : decode cL_law 268 = .ok (.ifCond .eq 730, 3) := by decide +kernel
theorem dL_law_271 : decode cL_law 271 = .ok (.iconst 0, 1) := by decide +kernel
theorem dL_law_272 : decode cL_law 272 = .ok (.ireturn, 1) := by decide +kernel
theorem dL_law_273 : decode cL_law 273 = .ok (.aload_n 1, 1) := by decide +kernel
theorem dL_law_274 : decode cL_law 274 = .ok (.aload_n 0, 1) := by decide +kernel
theorem dL_law_275 : decode cL_law 275 = .ok (.iload_n 3, 1) := by decide +kernel
theorem dL_law_276 : decode cL_law 276 = .ok (.iconst 1, 1) := by decide +kernel
theorem dL_law_277 : decode cL_law 277 = .ok (.iadd, 1) := by decide +kernel
theorem dL_law_278 : decode cL_law 278 = .ok (.iaload, 1) := by decide +kernel
theorem dL_law_279 : decode cL_law 279 = .ok (.aload_n 0, 1) := by decide +kernel
theorem dL_law_280 : decode cL_law 280 = .ok (.iload_n 3, 1) := by decide +kernel
theorem dL_law_281 : decode cL_law 281 = .ok (.iconst 2, 1) := by decide +kernel
theorem dL_law_282 : decode cL_law 282 = .ok (.iadd, 1) := by decide +kernel
theorem dL_law_283 : decode cL_law 283 = .ok (.iaload, 1) := by decide +kernel
theorem dL_law_284 : decode cL_law 284 = .ok (.invokevirtual 36, 3) := by decide +kernel
theorem dL_law_287 : decode cL_law 287 = .ok (.aload_n 2, 1) := by decide +kernel
theorem dL_law_288 : decode cL_law 288 = .ok (.aload_n 0, 1) := by decide +kernel
theorem dL_law_289 : decode cL_law 289 = .ok (.iload_n 3, 1) := by decide +kernel
theorem dL_law_290 : decode cL_law 290 = .ok (.iconst 1, 1) := by decide +kernel
theorem dL_law_291 : decode cL_law 291 = .ok (.iadd, 1) := by decide +kernel
theorem dL_law_292 : decode cL_law 292 = .ok (.iaload, 1) := by decide +kernel
theorem dL_law_293 : decode cL_law 293 = .ok (.aload_n 0, 1) := by decide +kernel
theorem dL_law_294 : decode cL_law 294 = .ok (.iload_n 3, 1) := by decide +kernel
theorem dL_law_295 : decode cL_law 295 = .ok (.iconst 2, 1) := by decide +kernel
theorem dL_law_296 : decode cL_law 296 = .ok (.iadd, 1) := by decide +kernel
theorem dL_law_297 : decode cL_law 297 = .ok (.iaload, 1) := by decide +kernel
theorem dL_law_298 : decode cL_law 298 = .ok (.invokevirtual 40, 3) := by decide +kernel
theorem dL_law_301 : decode cL_law 301 = .ok (.if_icmp .eq 697, 3) := by decide +kernel
theorem dL_law_304 : decode cL_law 304 = .ok (.iconst 0, 1) := by decide +kernel
theorem dL_law_305 : decode cL_law 305 = .ok (.ireturn, 1) := by decide +kernel
theorem dL_law_306 : decode cL_law 306 = .ok (.aload_n 1, 1) := by decide +kernel
theorem dL_law_307 : decode cL_law 307 = .ok (.aload_n 0, 1) := by decide +kernel
theorem dL_law_308 : decode cL_law 308 = .ok (.iload_n 3, 1) := by decide +kernel
theorem dL_law_309 : decode cL_law 309 = .ok (.iconst 1, 1) := by decide +kernel
theorem dL_law_310 : decode cL_law 310 = .ok (.iadd, 1) := by decide +kernel
theorem dL_law_311 : decode cL_law 311 = .ok (.iaload, 1) := by decide +kernel
theorem dL_law_312 : decode cL_law 312 = .ok (.aload_n 0, 1) := by decide +kernel
theorem dL_law_313 : decode cL_law 313 = .ok (.iload_n 3, 1) := by decide +kernel
theorem dL_law_314 : decode cL_law 314 = .ok (.iconst 2, 1) := by decide +kernel
theorem dL_law_315 : decode cL_law 315 = .ok (.iadd, 1) := by decide +kernel
theorem dL_law_316 : decode cL_law 316 = .ok (.iaload, 1) := by decide +kernel
theorem dL_law_317 : decode cL_law 317 = .ok (.invokevirtual 41, 3) := by decide +kernel
theorem dL_law_320 : decode cL_law 320 = .ok (.aload_n 2, 1) := by decide +kernel
theorem dL_law_321 : decode cL_law 321 = .ok (.aload_n 0, 1) := by decide +kernel
theorem dL_law_322 : decode cL_law 322 = .ok (.iload_n 3, 1) := by decide +kernel
theorem dL_law_323 : decode cL_law 323 = .ok (.iconst 1, 1) := by decide +kernel
theorem dL_law_324 : decode cL_law 324 = .ok (.iadd, 1) := by decide +kernel
theorem dL_law_325 : decode cL_law 325 = .ok (.iaload, 1) := by decide +kernel
theorem dL_law_326 : decode cL_law 326 = .ok (.aload_n 0, 1) := by decide +kernel
theorem dL_law_327 : decode cL_law 327 = .ok (.iload_n 3, 1) := by decide +kernel
theorem dL_law_328 : decode cL_law 328 = .ok (.iconst 2, 1) := by decide +kernel
theorem dL_law_329 : decode cL_law 329 = .ok (.iadd, 1) := by decide +kernel
theorem dL_law_330 : decode cL_law 330 = .ok (.iaload, 1) := by decide +kernel
theorem dL_law_331 : decode cL_law 331 = .ok (.invokevirtual 44, 3) := by decide +kernel
theorem dL_law_334 : decode cL_law 334 = .ok (.if_icmp .eq 664, 3) := by decide +kernel
theorem dL_law_337 : decode cL_law 337 = .ok (.iconst 0, 1) := by decide +kernel
theorem dL_law_338 : decode cL_law 338 = .ok (.ireturn, 1) := by decide +kernel
theorem dL_law_339 : decode cL_law 339 = .ok (.aload_n 1, 1) := by decide +kernel
theorem dL_law_340 : decode cL_law 340 = .ok (.aload_n 0, 1) := by decide +kernel
theorem dL_law_341 : decode cL_law 341 = .ok (.iload_n 3, 1) := by decide +kernel
theorem dL_law_342 : decode cL_law 342 = .ok (.iconst 1, 1) := by decide +kernel
theorem dL_law_343 : decode cL_law 343 = .ok (.iadd, 1) := by decide +kernel
theorem dL_law_344 : decode cL_law 344 = .ok (.iaload, 1) := by decide +kernel
theorem dL_law_345 : decode cL_law 345 = .ok (.aload_n 0, 1) := by decide +kernel
theorem dL_law_346 : decode cL_law 346 = .ok (.iload_n 3, 1) := by decide +kernel
theorem dL_law_347 : decode cL_law 347 = .ok (.iconst 2, 1) := by decide +kernel
theorem dL_law_348 : decode cL_law 348 = .ok (.iadd, 1) := by decide +kernel
theorem dL_law_349 : decode cL_law 349 = .ok (.iaload, 1) := by decide +kernel
theorem dL_law_350 : decode cL_law 350 = .ok (.aload_n 0, 1) := by decide +kernel
theorem dL_law_351 : decode cL_law 351 = .ok (.iload_n 3, 1) := by decide +kernel
theorem dL_law_352 : decode cL_law 352 = .ok (.iconst 3, 1) := by decide +kernel
theorem dL_law_353 : decode cL_law 353 = .ok (.iadd, 1) := by decide +kernel
theorem dL_law_354 : decode cL_law 354 = .ok (.iaload, 1) := by decide +kernel
theorem dL_law_355 : decode cL_law 355 = .ok (.invokevirtual 45, 3) := by decide +kernel
theorem dL_law_358 : decode cL_law 358 = .ok (.aload_n 2, 1) := by decide +kernel
theorem dL_law_359 : decode cL_law 359 = .ok (.aload_n 0, 1) := by decide +kernel
theorem dL_law_360 : decode cL_law 360 = .ok (.iload_n 3, 1) := by decide +kernel
theorem dL_law_361 : decode cL_law 361 = .ok (.iconst 1, 1) := by decide +kernel
theorem dL_law_362 : decode cL_law 362 = .ok (.iadd, 1) := by decide +kernel
theorem dL_law_363 : decode cL_law 363 = .ok (.iaload, 1) := by decide +kernel
theorem dL_law_364 : decode cL_law 364 = .ok (.aload_n 0, 1) := by decide +kernel
theorem dL_law_365 : decode cL_law 365 = .ok (.iload_n 3, 1) := by decide +kernel
theorem dL_law_366 : decode cL_law 366 = .ok (.iconst 2, 1) := by decide +kernel
theorem dL_law_367 : decode cL_law 367 = .ok (.iadd, 1) := by decide +kernel
theorem dL_law_368 : decode cL_law 368 = .ok (.iaload, 1) := by decide +kernel
theorem dL_law_369 : decode cL_law 369 = .ok (.aload_n 0, 1) := by decide +kernel
theorem dL_law_370 : decode cL_law 370 = .ok (.iload_n 3, 1) := by decide +kernel
theorem dL_law_371 : decode cL_law 371 = .ok (.iconst 3, 1) := by decide +kernel
theorem dL_law_372 : decode cL_law 372 = .ok (.iadd, 1) := by decide +kernel
theorem dL_law_373 : decode cL_law 373 = .ok (.iaload, 1) := by decide +kernel
theorem dL_law_374 : decode cL_law 374 = .ok (.invokevirtual 49, 3) := by decide +kernel
theorem dL_law_377 : decode cL_law 377 = .ok (.if_icmp .eq 621, 3) := by decide +kernel
theorem dL_law_380 : decode cL_law 380 = .ok (.iconst 0, 1) := by decide +kernel
theorem dL_law_381 : decode cL_law 381 = .ok (.ireturn, 1) := by decide +kernel
theorem dL_law_382 : decode cL_law 382 = .ok (.aload_n 1, 1) := by decide +kernel
theorem dL_law_383 : decode cL_law 383 = .ok (.invokevirtual 50, 3) := by decide +kernel
theorem dL_law_386 : decode cL_law 386 = .ok (.aload_n 2, 1) := by decide +kernel
theorem dL_law_387 : decode cL_law 387 = .ok (.invokevirtual 53, 3) := by decide +kernel
theorem dL_law_390 : decode cL_law 390 = .ok (.if_icmp .eq 608, 3) := by decide +kernel
theorem dL_law_393 : decode cL_law 393 = .ok (.iconst 0, 1) := by decide +kernel
theorem dL_law_394 : decode cL_law 394 = .ok (.ireturn, 1) := by decide +kernel
theorem dL_law_395 : decode cL_law 395 = .ok (.aload_n 1, 1) := by decide +kernel
theorem dL_law_396 : decode cL_law 396 = .ok (.aload_n 0, 1) := by decide +kernel
theorem dL_law_397 : decode cL_law 397 = .ok (.iload_n 3, 1) := by decide +kernel
theorem dL_law_398 : decode cL_law 398 = .ok (.iconst 1, 1) := by decide +kernel
theorem dL_law_399 : decode cL_law 399 = .ok (.iadd, 1) := by decide +kernel
theorem dL_law_400 : decode cL_law 400 = .ok (.iaload, 1) := by decide +kernel
theorem dL_law_401 : decode cL_law 401 = .ok (.invokevirtual 54, 3) := by decide +kernel
theorem dL_law_404 : decode cL_law 404 = .ok (.aload_n 2, 1) := by decide +kernel
theorem dL_law_405 : decode cL_law 405 = .ok (.aload_n 0, 1) := by decide +kernel
theorem dL_law_406 : decode cL_law 406 = .ok (.iload_n 3, 1) := by decide +kernel
theorem dL_law_407 : decode cL_law 407 = .ok (.iconst 1, 1) := by decide +kernel
theorem dL_law_408 : decode cL_law 408 = .ok (.iadd, 1) := by decide +kernel
theorem dL_law_409 : decode cL_law 409 = .ok (.iaload, 1) := by decide +kernel
theorem dL_law_410 : decode cL_law 410 = .ok (.invokevirtual 58, 3) := by decide +kernel
theorem dL_law_413 : decode cL_law 413 = .ok (.lcmp, 1) := by decide +kernel
theorem dL_law_414 : decode cL_law 414 = .ok (.ifCond .eq 584, 3) := by decide +kernel
theorem dL_law_417 : decode cL_law 417 = .ok (.iconst 0, 1) := by decide +kernel
theorem dL_law_418 : decode cL_law 418 = .ok (.ireturn, 1) := by decide +kernel
theorem dL_law_419 : decode cL_law 419 = .ok (.aload_n 1, 1) := by decide +kernel
theorem dL_law_420 : decode cL_law 420 = .ok (.aload_n 0, 1) := by decide +kernel
theorem dL_law_421 : decode cL_law 421 = .ok (.iload_n 3, 1) := by decide +kernel
theorem dL_law_422 : decode cL_law 422 = .ok (.iconst 1, 1) := by decide +kernel
theorem dL_law_423 : decode cL_law 423 = .ok (.iadd, 1) := by decide +kernel
theorem dL_law_424 : decode cL_law 424 = .ok (.iaload, 1) := by decide +kernel
theorem dL_law_425 : decode cL_law 425 = .ok (.aload_n 0, 1) := by decide +kernel
theorem dL_law_426 : decode cL_law 426 = .ok (.iload_n 3, 1) := by decide +kernel
theorem dL_law_427 : decode cL_law 427 = .ok (.iconst 2, 1) := by decide +kernel
theorem dL_law_428 : decode cL_law 428 = .ok (.iadd, 1) := by decide +kernel
theorem dL_law_429 : decode cL_law 429 = .ok (.iaload, 1) := by decide +kernel
theorem dL_law_430 : decode cL_law 430 = .ok (.invokevirtual 59, 3) := by decide +kernel
theorem dL_law_433 : decode cL_law 433 = .ok (.aload_n 2, 1) := by decide +kernel
theorem dL_law_434 : decode cL_law 434 = .ok (.aload_n 0, 1) := by decide +kernel
theorem dL_law_435 : decode cL_law 435 = .ok (.iload_n 3, 1) := by decide +kernel
theorem dL_law_436 : decode cL_law 436 = .ok (.iconst 1, 1) := by decide +kernel
theorem dL_law_437 : decode cL_law 437 = .ok (.iadd, 1) := by decide +kernel
theorem dL_law_438 : decode cL_law 438 = .ok (.iaload, 1) := by decide +kernel
theorem dL_law_439 : decode cL_law 439 = .ok (.aload_n 0, 1) := by decide +kernel
theorem dL_law_440 : decode cL_law 440 = .ok (.iload_n 3, 1) := by decide +kernel
theorem dL_law_441 : decode cL_law 441 = .ok (.iconst 2, 1) := by decide +kernel
theorem dL_law_442 : decode cL_law 442 = .ok (.iadd, 1) := by decide +kernel
theorem dL_law_443 : decode cL_law 443 = .ok (.iaload, 1) := by decide +kernel
theorem dL_law_444 : decode cL_law 444 = .ok (.invokevirtual 62, 3) := by decide +kernel
theorem dL_law_447 : decode cL_law 447 = .ok (.lcmp, 1) := by decide +kernel
theorem dL_law_448 : decode cL_law 448 = .ok (.ifCond .eq 550, 3) := by decide +kernel
theorem dL_law_451 : decode cL_law 451 = .ok (.iconst 0, 1) := by decide +kernel
theorem dL_law_452 : decode cL_law 452 = .ok (.ireturn, 1) := by decide +kernel
theorem dL_law_453 : decode cL_law 453 = .ok (.aload_n 1, 1) := by decide +kernel
theorem dL_law_454 : decode cL_law 454 = .ok (.aload_n 0, 1) := by decide +kernel
theorem dL_law_455 : decode cL_law 455 = .ok (.iload_n 3, 1) := by decide +kernel
theorem dL_law_456 : decode cL_law 456 = .ok (.iconst 1, 1) := by decide +kernel
theorem dL_law_457 : decode cL_law 457 = .ok (.iadd, 1) := by decide +kernel
theorem dL_law_458 : decode cL_law 458 = .ok (.iaload, 1) := by decide +kernel
theorem dL_law_459 : decode cL_law 459 = .ok (.aload_n 0, 1) := by decide +kernel
theorem dL_law_460 : decode cL_law 460 = .ok (.iload_n 3, 1) := by decide +kernel
theorem dL_law_461 : decode cL_law 461 = .ok (.iconst 2, 1) := by decide +kernel
theorem dL_law_462 : decode cL_law 462 = .ok (.iadd, 1) := by decide +kernel
theorem dL_law_463 : decode cL_law 463 = .ok (.iaload, 1) := by decide +kernel
theorem dL_law_464 : decode cL_law 464 = .ok (.aload_n 0, 1) := by decide +kernel
theorem dL_law_465 : decode cL_law 465 = .ok (.iload_n 3, 1) := by decide +kernel
theorem dL_law_466 : decode cL_law 466 = .ok (.iconst 3, 1) := by decide +kernel
theorem dL_law_467 : decode cL_law 467 = .ok (.iadd, 1) := by decide +kernel
theorem dL_law_468 : decode cL_law 468 = .ok (.iaload, 1) := by decide +kernel
theorem dL_law_469 : decode cL_law 469 = .ok (.invokevirtual 63, 3) := by decide +kernel
theorem dL_law_472 : decode cL_law 472 = .ok (.aload_n 2, 1) := by decide +kernel
theorem dL_law_473 : decode cL_law 473 = .ok (.aload_n 0, 1) := by decide +kernel
theorem dL_law_474 : decode cL_law 474 = .ok (.iload_n 3, 1) := by decide +kernel
theorem dL_law_475 : decode cL_law 475 = .ok (.iconst 1, 1) := by decide +kernel
theorem dL_law_476 : decode cL_law 476 = .ok (.iadd, 1) := by decide +kernel
theorem dL_law_477 : decode cL_law 477 = .ok (.iaload, 1) := by decide +kernel
theorem dL_law_478 : decode cL_law 478 = .ok (.aload_n 0, 1) := by decide +kernel
theorem dL_law_479 : decode cL_law 479 = .ok (.iload_n 3, 1) := by decide +kernel
theorem dL_law_480 : decode cL_law 480 = .ok (.iconst 2, 1) := by decide +kernel
theorem dL_law_481 : decode cL_law 481 = .ok (.iadd, 1) := by decide +kernel
theorem dL_law_482 : decode cL_law 482 = .ok (.iaload, 1) := by decide +kernel
theorem dL_law_483 : decode cL_law 483 = .ok (.aload_n 0, 1) := by decide +kernel
theorem dL_law_484 : decode cL_law 484 = .ok (.iload_n 3, 1) := by decide +kernel
theorem dL_law_485 : decode cL_law 485 = .ok (.iconst 3, 1) := by decide +kernel
theorem dL_law_486 : decode cL_law 486 = .ok (.iadd, 1) := by decide +kernel
theorem dL_law_487 : decode cL_law 487 = .ok (.iaload, 1) := by decide +kernel
theorem dL_law_488 : decode cL_law 488 = .ok (.invokevirtual 67, 3) := by decide +kernel
theorem dL_law_491 : decode cL_law 491 = .ok (.lcmp, 1) := by decide +kernel
theorem dL_law_492 : decode cL_law 492 = .ok (.ifCond .eq 506, 3) := by decide +kernel
theorem dL_law_495 : decode cL_law 495 = .ok (.iconst 0, 1) := by decide +kernel
theorem dL_law_496 : decode cL_law 496 = .ok (.ireturn, 1) := by decide +kernel
theorem dL_law_497 : decode cL_law 497 = .ok (.aload_n 1, 1) := by decide +kernel
theorem dL_law_498 : decode cL_law 498 = .ok (.aload_n 0, 1) := by decide +kernel
theorem dL_law_499 : decode cL_law 499 = .ok (.iload_n 3, 1) := by decide +kernel
theorem dL_law_500 : decode cL_law 500 = .ok (.iconst 1, 1) := by decide +kernel
theorem dL_law_501 : decode cL_law 501 = .ok (.iadd, 1) := by decide +kernel
theorem dL_law_502 : decode cL_law 502 = .ok (.iaload, 1) := by decide +kernel
theorem dL_law_503 : decode cL_law 503 = .ok (.invokevirtual 68, 3) := by decide +kernel
theorem dL_law_506 : decode cL_law 506 = .ok (.aload_n 2, 1) := by decide +kernel
theorem dL_law_507 : decode cL_law 507 = .ok (.aload_n 0, 1) := by decide +kernel
theorem dL_law_508 : decode cL_law 508 = .ok (.iload_n 3, 1) := by decide +kernel
theorem dL_law_509 : decode cL_law 509 = .ok (.iconst 1, 1) := by decide +kernel
theorem dL_law_510 : decode cL_law 510 = .ok (.iadd, 1) := by decide +kernel
theorem dL_law_511 : decode cL_law 511 = .ok (.iaload, 1) := by decide +kernel
theorem dL_law_512 : decode cL_law 512 = .ok (.invokevirtual 71, 3) := by decide +kernel
theorem dL_law_515 : decode cL_law 515 = .ok (.lcmp, 1) := by decide +kernel
theorem dL_law_516 : decode cL_law 516 = .ok (.ifCond .eq 482, 3) := by decide +kernel
theorem dL_law_519 : decode cL_law 519 = .ok (.iconst 0, 1) := by decide +kernel
theorem dL_law_520 : decode cL_law 520 = .ok (.ireturn, 1) := by decide +kernel
theorem dL_law_521 : decode cL_law 521 = .ok (.aload_n 1, 1) := by decide +kernel
theorem dL_law_522 : decode cL_law 522 = .ok (.aload_n 0, 1) := by decide +kernel
theorem dL_law_523 : decode cL_law 523 = .ok (.iload_n 3, 1) := by decide +kernel
theorem dL_law_524 : decode cL_law 524 = .ok (.iconst 1, 1) := by decide +kernel
theorem dL_law_525 : decode cL_law 525 = .ok (.iadd, 1) := by decide +kernel
theorem dL_law_526 : decode cL_law 526 = .ok (.iaload, 1) := by decide +kernel
theorem dL_law_527 : decode cL_law 527 = .ok (.aload_n 0, 1) := by decide +kernel
theorem dL_law_528 : decode cL_law 528 = .ok (.iload_n 3, 1) := by decide +kernel
theorem dL_law_529 : decode cL_law 529 = .ok (.iconst 2, 1) := by decide +kernel
theorem dL_law_530 : decode cL_law 530 = .ok (.iadd, 1) := by decide +kernel
theorem dL_law_531 : decode cL_law 531 = .ok (.iaload, 1) := by decide +kernel
theorem dL_law_532 : decode cL_law 532 = .ok (.invokevirtual 72, 3) := by decide +kernel
theorem dL_law_535 : decode cL_law 535 = .ok (.aload_n 2, 1) := by decide +kernel
theorem dL_law_536 : decode cL_law 536 = .ok (.aload_n 0, 1) := by decide +kernel
theorem dL_law_537 : decode cL_law 537 = .ok (.iload_n 3, 1) := by decide +kernel
theorem dL_law_538 : decode cL_law 538 = .ok (.iconst 1, 1) := by decide +kernel
theorem dL_law_539 : decode cL_law 539 = .ok (.iadd, 1) := by decide +kernel
theorem dL_law_540 : decode cL_law 540 = .ok (.iaload, 1) := by decide +kernel
theorem dL_law_541 : decode cL_law 541 = .ok (.aload_n 0, 1) := by decide +kernel
theorem dL_law_542 : decode cL_law 542 = .ok (.iload_n 3, 1) := by decide +kernel
theorem dL_law_543 : decode cL_law 543 = .ok (.iconst 2, 1) := by decide +kernel
theorem dL_law_544 : decode cL_law 544 = .ok (.iadd, 1) := by decide +kernel
theorem dL_law_545 : decode cL_law 545 = .ok (.iaload, 1) := by decide +kernel
theorem dL_law_546 : decode cL_law 546 = .ok (.invokevirtual 75, 3) := by decide +kernel
theorem dL_law_549 : decode cL_law 549 = .ok (.lcmp, 1) := by decide +kernel
theorem dL_law_550 : decode cL_law 550 = .ok (.ifCond .eq 448, 3) := by decide +kernel
theorem dL_law_553 : decode cL_law 553 = .ok (.iconst 0, 1) := by decide +kernel
theorem dL_law_554 : decode cL_law 554 = .ok (.ireturn, 1) := by decide +kernel
theorem dL_law_555 : decode cL_law 555 = .ok (.aload_n 1, 1) := by decide +kernel
theorem dL_law_556 : decode cL_law 556 = .ok (.aload_n 0, 1) := by decide +kernel
theorem dL_law_557 : decode cL_law 557 = .ok (.iload_n 3, 1) := by decide +kernel
theorem dL_law_558 : decode cL_law 558 = .ok (.iconst 1, 1) := by decide +kernel
theorem dL_law_559 : decode cL_law 559 = .ok (.iadd, 1) := by decide +kernel
theorem dL_law_560 : decode cL_law 560 = .ok (.iaload, 1) := by decide +kernel
theorem dL_law_561 : decode cL_law 561 = .ok (.aload_n 0, 1) := by decide +kernel
theorem dL_law_562 : decode cL_law 562 = .ok (.iload_n 3, 1) := by decide +kernel
theorem dL_law_563 : decode cL_law 563 = .ok (.iconst 2, 1) := by decide +kernel
theorem dL_law_564 : decode cL_law 564 = .ok (.iadd, 1) := by decide +kernel
theorem dL_law_565 : decode cL_law 565 = .ok (.iaload, 1) := by decide +kernel
theorem dL_law_566 : decode cL_law 566 = .ok (.invokevirtual 76, 3) := by decide +kernel
theorem dL_law_569 : decode cL_law 569 = .ok (.aload_n 2, 1) := by decide +kernel
theorem dL_law_570 : decode cL_law 570 = .ok (.aload_n 0, 1) := by decide +kernel
theorem dL_law_571 : decode cL_law 571 = .ok (.iload_n 3, 1) := by decide +kernel
theorem dL_law_572 : decode cL_law 572 = .ok (.iconst 1, 1) := by decide +kernel
theorem dL_law_573 : decode cL_law 573 = .ok (.iadd, 1) := by decide +kernel
theorem dL_law_574 : decode cL_law 574 = .ok (.iaload, 1) := by decide +kernel
theorem dL_law_575 : decode cL_law 575 = .ok (.aload_n 0, 1) := by decide +kernel
theorem dL_law_576 : decode cL_law 576 = .ok (.iload_n 3, 1) := by decide +kernel
theorem dL_law_577 : decode cL_law 577 = .ok (.iconst 2, 1) := by decide +kernel
theorem dL_law_578 : decode cL_law 578 = .ok (.iadd, 1) := by decide +kernel
theorem dL_law_579 : decode cL_law 579 = .ok (.iaload, 1) := by decide +kernel
theorem dL_law_580 : decode cL_law 580 = .ok (.invokevirtual 79, 3) := by decide +kernel
theorem dL_law_583 : decode cL_law 583 = .ok (.lcmp, 1) := by decide +kernel
theorem dL_law_584 : decode cL_law 584 = .ok (.ifCond .eq 414, 3) := by decide +kernel
theorem dL_law_587 : decode cL_law 587 = .ok (.iconst 0, 1) := by decide +kernel
theorem dL_law_588 : decode cL_law 588 = .ok (.ireturn, 1) := by decide +kernel
theorem dL_law_589 : decode cL_law 589 = .ok (.aload_n 1, 1) := by decide +kernel
theorem dL_law_590 : decode cL_law 590 = .ok (.aload_n 0, 1) := by decide +kernel
theorem dL_law_591 : decode cL_law 591 = .ok (.iload_n 3, 1) := by decide +kernel
theorem dL_law_592 : decode cL_law 592 = .ok (.iconst 1, 1) := by decide +kernel
theorem dL_law_593 : decode cL_law 593 = .ok (.iadd, 1) := by decide +kernel
theorem dL_law_594 : decode cL_law 594 = .ok (.iaload, 1) := by decide +kernel
theorem dL_law_595 : decode cL_law 595 = .ok (.aload_n 0, 1) := by decide +kernel
theorem dL_law_596 : decode cL_law 596 = .ok (.iload_n 3, 1) := by decide +kernel
theorem dL_law_597 : decode cL_law 597 = .ok (.iconst 2, 1) := by decide +kernel
theorem dL_law_598 : decode cL_law 598 = .ok (.iadd, 1) := by decide +kernel
theorem dL_law_599 : decode cL_law 599 = .ok (.iaload, 1) := by decide +kernel
theorem dL_law_600 : decode cL_law 600 = .ok (.invokevirtual 80, 3) := by decide +kernel
theorem dL_law_603 : decode cL_law 603 = .ok (.aload_n 2, 1) := by decide +kernel
theorem dL_law_604 : decode cL_law 604 = .ok (.aload_n 0, 1) := by decide +kernel
theorem dL_law_605 : decode cL_law 605 = .ok (.iload_n 3, 1) := by decide +kernel
theorem dL_law_606 : decode cL_law 606 = .ok (.iconst 1, 1) := by decide +kernel
theorem dL_law_607 : decode cL_law 607 = .ok (.iadd, 1) := by decide +kernel
theorem dL_law_608 : decode cL_law 608 = .ok (.iaload, 1) := by decide +kernel
theorem dL_law_609 : decode cL_law 609 = .ok (.aload_n 0, 1) := by decide +kernel
theorem dL_law_610 : decode cL_law 610 = .ok (.iload_n 3, 1) := by decide +kernel
theorem dL_law_611 : decode cL_law 611 = .ok (.iconst 2, 1) := by decide +kernel
theorem dL_law_612 : decode cL_law 612 = .ok (.iadd, 1) := by decide +kernel
theorem dL_law_613 : decode cL_law 613 = .ok (.iaload, 1) := by decide +kernel
theorem dL_law_614 : decode cL_law 614 = .ok (.invokevirtual 83, 3) := by decide +kernel
theorem dL_law_617 : decode cL_law 617 = .ok (.lcmp, 1) := by decide +kernel
theorem dL_law_618 : decode cL_law 618 = .ok (.ifCond .eq 380, 3) := by decide +kernel
theorem dL_law_621 : decode cL_law 621 = .ok (.iconst 0, 1) := by decide +kernel
theorem dL_law_622 : decode cL_law 622 = .ok (.ireturn, 1) := by decide +kernel
theorem dL_law_623 : decode cL_law 623 = .ok (.aload_n 1, 1) := by decide +kernel
theorem dL_law_624 : decode cL_law 624 = .ok (.aload_n 0, 1) := by decide +kernel
theorem dL_law_625 : decode cL_law 625 = .ok (.iload_n 3, 1) := by decide +kernel
theorem dL_law_626 : decode cL_law 626 = .ok (.iconst 1, 1) := by decide +kernel
theorem dL_law_627 : decode cL_law 627 = .ok (.iadd, 1) := by decide +kernel
theorem dL_law_628 : decode cL_law 628 = .ok (.iaload, 1) := by decide +kernel
theorem dL_law_629 : decode cL_law 629 = .ok (.aload_n 0, 1) := by decide +kernel
theorem dL_law_630 : decode cL_law 630 = .ok (.iload_n 3, 1) := by decide +kernel
theorem dL_law_631 : decode cL_law 631 = .ok (.iconst 2, 1) := by decide +kernel
theorem dL_law_632 : decode cL_law 632 = .ok (.iadd, 1) := by decide +kernel
theorem dL_law_633 : decode cL_law 633 = .ok (.iaload, 1) := by decide +kernel
theorem dL_law_634 : decode cL_law 634 = .ok (.i2l, 1) := by decide +kernel
theorem dL_law_635 : decode cL_law 635 = .ok (.bipush 32, 2) := by decide +kernel
theorem dL_law_637 : decode cL_law 637 = .ok (.lshl, 1) := by decide +kernel
theorem dL_law_638 : decode cL_law 638 = .ok (.aload_n 0, 1) := by decide +kernel
theorem dL_law_639 : decode cL_law 639 = .ok (.iload_n 3, 1) := by decide +kernel
theorem dL_law_640 : decode cL_law 640 = .ok (.iconst 3, 1) := by decide +kernel
theorem dL_law_641 : decode cL_law 641 = .ok (.iadd, 1) := by decide +kernel
theorem dL_law_642 : decode cL_law 642 = .ok (.iaload, 1) := by decide +kernel
theorem dL_law_643 : decode cL_law 643 = .ok (.i2l, 1) := by decide +kernel
theorem dL_law_644 : decode cL_law 644 = .ok (.ldc2_w 84, 3) := by decide +kernel
theorem dL_law_647 : decode cL_law 647 = .ok (.land, 1) := by decide +kernel
theorem dL_law_648 : decode cL_law 648 = .ok (.lor, 1) := by decide +kernel
theorem dL_law_649 : decode cL_law 649 = .ok (.invokevirtual 86, 3) := by decide +kernel
theorem dL_law_652 : decode cL_law 652 = .ok (.aload_n 2, 1) := by decide +kernel
theorem dL_law_653 : decode cL_law 653 = .ok (.aload_n 0, 1) := by decide +kernel
theorem dL_law_654 : decode cL_law 654 = .ok (.iload_n 3, 1) := by decide +kernel
theorem dL_law_655 : decode cL_law 655 = .ok (.iconst 1, 1) := by decide +kernel
theorem dL_law_656 : decode cL_law 656 = .ok (.iadd, 1) := by decide +kernel
theorem dL_law_657 : decode cL_law 657 = .ok (.iaload, 1) := by decide +kernel
theorem dL_law_658 : decode cL_law 658 = .ok (.aload_n 0, 1) := by decide +kernel
theorem dL_law_659 : decode cL_law 659 = .ok (.iload_n 3, 1) := by decide +kernel
theorem dL_law_660 : decode cL_law 660 = .ok (.iconst 2, 1) := by decide +kernel
theorem dL_law_661 : decode cL_law 661 = .ok (.iadd, 1) := by decide +kernel
theorem dL_law_662 : decode cL_law 662 = .ok (.iaload, 1) := by decide +kernel
theorem dL_law_663 : decode cL_law 663 = .ok (.i2l, 1) := by decide +kernel
theorem dL_law_664 : decode cL_law 664 = .ok (.bipush 32, 2) := by decide +kernel
theorem dL_law_666 : decode cL_law 666 = .ok (.lshl, 1) := by decide +kernel
theorem dL_law_667 : decode cL_law 667 = .ok (.aload_n 0, 1) := by decide +kernel
theorem dL_law_668 : decode cL_law 668 = .ok (.iload_n 3, 1) := by decide +kernel
theorem dL_law_669 : decode cL_law 669 = .ok (.iconst 3, 1) := by decide +kernel
theorem dL_law_670 : decode cL_law 670 = .ok (.iadd, 1) := by decide +kernel
theorem dL_law_671 : decode cL_law 671 = .ok (.iaload, 1) := by decide +kernel
theorem dL_law_672 : decode cL_law 672 = .ok (.i2l, 1) := by decide +kernel
theorem dL_law_673 : decode cL_law 673 = .ok (.ldc2_w 84, 3) := by decide +kernel
theorem dL_law_676 : decode cL_law 676 = .ok (.land, 1) := by decide +kernel
theorem dL_law_677 : decode cL_law 677 = .ok (.lor, 1) := by decide +kernel
theorem dL_law_678 : decode cL_law 678 = .ok (.invokevirtual 90, 3) := by decide +kernel
theorem dL_law_681 : decode cL_law 681 = .ok (.if_icmp .eq 317, 3) := by decide +kernel
theorem dL_law_684 : decode cL_law 684 = .ok (.iconst 0, 1) := by decide +kernel
theorem dL_law_685 : decode cL_law 685 = .ok (.ireturn, 1) := by decide +kernel
theorem dL_law_686 : decode cL_law 686 = .ok (.aload_n 1, 1) := by decide +kernel
theorem dL_law_687 : decode cL_law 687 = .ok (.aload_n 0, 1) := by decide +kernel
theorem dL_law_688 : decode cL_law 688 = .ok (.iload_n 3, 1) := by decide +kernel
theorem dL_law_689 : decode cL_law 689 = .ok (.iconst 1, 1) := by decide +kernel
theorem dL_law_690 : decode cL_law 690 = .ok (.iadd, 1) := by decide +kernel
theorem dL_law_691 : decode cL_law 691 = .ok (.iaload, 1) := by decide +kernel
theorem dL_law_692 : decode cL_law 692 = .ok (.aload_n 0, 1) := by decide +kernel
theorem dL_law_693 : decode cL_law 693 = .ok (.iload_n 3, 1) := by decide +kernel
theorem dL_law_694 : decode cL_law 694 = .ok (.iconst 2, 1) := by decide +kernel
theorem dL_law_695 : decode cL_law 695 = .ok (.iadd, 1) := by decide +kernel
theorem dL_law_696 : decode cL_law 696 = .ok (.iaload, 1) := by decide +kernel
theorem dL_law_697 : decode cL_law 697 = .ok (.invokevirtual 91, 3) := by decide +kernel
theorem dL_law_700 : decode cL_law 700 = .ok (.aload_n 2, 1) := by decide +kernel
theorem dL_law_701 : decode cL_law 701 = .ok (.aload_n 0, 1) := by decide +kernel
theorem dL_law_702 : decode cL_law 702 = .ok (.iload_n 3, 1) := by decide +kernel
theorem dL_law_703 : decode cL_law 703 = .ok (.iconst 1, 1) := by decide +kernel
theorem dL_law_704 : decode cL_law 704 = .ok (.iadd, 1) := by decide +kernel
theorem dL_law_705 : decode cL_law 705 = .ok (.iaload, 1) := by decide +kernel
theorem dL_law_706 : decode cL_law 706 = .ok (.aload_n 0, 1) := by decide +kernel
theorem dL_law_707 : decode cL_law 707 = .ok (.iload_n 3, 1) := by decide +kernel
theorem dL_law_708 : decode cL_law 708 = .ok (.iconst 2, 1) := by decide +kernel
theorem dL_law_709 : decode cL_law 709 = .ok (.iadd, 1) := by decide +kernel
theorem dL_law_710 : decode cL_law 710 = .ok (.iaload, 1) := by decide +kernel
theorem dL_law_711 : decode cL_law 711 = .ok (.invokevirtual 94, 3) := by decide +kernel
theorem dL_law_714 : decode cL_law 714 = .ok (.lcmp, 1) := by decide +kernel
theorem dL_law_715 : decode cL_law 715 = .ok (.ifCond .eq 283, 3) := by decide +kernel
theorem dL_law_718 : decode cL_law 718 = .ok (.iconst 0, 1) := by decide +kernel
theorem dL_law_719 : decode cL_law 719 = .ok (.ireturn, 1) := by decide +kernel
theorem dL_law_720 : decode cL_law 720 = .ok (.aload_n 1, 1) := by decide +kernel
theorem dL_law_721 : decode cL_law 721 = .ok (.aload_n 0, 1) := by decide +kernel
theorem dL_law_722 : decode cL_law 722 = .ok (.iload_n 3, 1) := by decide +kernel
theorem dL_law_723 : decode cL_law 723 = .ok (.iconst 1, 1) := by decide +kernel
theorem dL_law_724 : decode cL_law 724 = .ok (.iadd, 1) := by decide +kernel
theorem dL_law_725 : decode cL_law 725 = .ok (.iaload, 1) := by decide +kernel
theorem dL_law_726 : decode cL_law 726 = .ok (.aload_n 0, 1) := by decide +kernel
theorem dL_law_727 : decode cL_law 727 = .ok (.iload_n 3, 1) := by decide +kernel
theorem dL_law_728 : decode cL_law 728 = .ok (.iconst 2, 1) := by decide +kernel
theorem dL_law_729 : decode cL_law 729 = .ok (.iadd, 1) := by decide +kernel
theorem dL_law_730 : decode cL_law 730 = .ok (.iaload, 1) := by decide +kernel
theorem dL_law_731 : decode cL_law 731 = .ok (.invokevirtual 95, 3) := by decide +kernel
theorem dL_law_734 : decode cL_law 734 = .ok (.aload_n 2, 1) := by decide +kernel
theorem dL_law_735 : decode cL_law 735 = .ok (.aload_n 0, 1) := by decide +kernel
theorem dL_law_736 : decode cL_law 736 = .ok (.iload_n 3, 1) := by decide +kernel
theorem dL_law_737 : decode cL_law 737 = .ok (.iconst 1, 1) := by decide +kernel
theorem dL_law_738 : decode cL_law 738 = .ok (.iadd, 1) := by decide +kernel
theorem dL_law_739 : decode cL_law 739 = .ok (.iaload, 1) := by decide +kernel
theorem dL_law_740 : decode cL_law 740 = .ok (.aload_n 0, 1) := by decide +kernel
theorem dL_law_741 : decode cL_law 741 = .ok (.iload_n 3, 1) := by decide +kernel
theorem dL_law_742 : decode cL_law 742 = .ok (.iconst 2, 1) := by decide +kernel
theorem dL_law_743 : decode cL_law 743 = .ok (.iadd, 1) := by decide +kernel
theorem dL_law_744 : decode cL_law 744 = .ok (.iaload, 1) := by decide +kernel
theorem dL_law_745 : decode cL_law 745 = .ok (.invokevirtual 98, 3) := by decide +kernel
theorem dL_law_748 : decode cL_law 748 = .ok (.if_icmp .eq 250, 3) := by decide +kernel
theorem dL_law_751 : decode cL_law 751 = .ok (.iconst 0, 1) := by decide +kernel
theorem dL_law_752 : decode cL_law 752 = .ok (.ireturn, 1) := by decide +kernel
theorem dL_law_753 : decode cL_law 753 = .ok (.aload_n 1, 1) := by decide +kernel
theorem dL_law_754 : decode cL_law 754 = .ok (.aload_n 0, 1) := by decide +kernel
theorem dL_law_755 : decode cL_law 755 = .ok (.iload_n 3, 1) := by decide +kernel
theorem dL_law_756 : decode cL_law 756 = .ok (.iconst 1, 1) := by decide +kernel
theorem dL_law_757 : decode cL_law 757 = .ok (.iadd, 1) := by decide +kernel
theorem dL_law_758 : decode cL_law 758 = .ok (.iaload, 1) := by decide +kernel
theorem dL_law_759 : decode cL_law 759 = .ok (.aload_n 0, 1) := by decide +kernel
theorem dL_law_760 : decode cL_law 760 = .ok (.iload_n 3, 1) := by decide +kernel
theorem dL_law_761 : decode cL_law 761 = .ok (.iconst 2, 1) := by decide +kernel
theorem dL_law_762 : decode cL_law 762 = .ok (.iadd, 1) := by decide +kernel
theorem dL_law_763 : decode cL_law 763 = .ok (.iaload, 1) := by decide +kernel
theorem dL_law_764 : decode cL_law 764 = .ok (.aload_n 0, 1) := by decide +kernel
theorem dL_law_765 : decode cL_law 765 = .ok (.iload_n 3, 1) := by decide +kernel
theorem dL_law_766 : decode cL_law 766 = .ok (.iconst 3, 1) := by decide +kernel
theorem dL_law_767 : decode cL_law 767 = .ok (.iadd, 1) := by decide +kernel
theorem dL_law_768 : decode cL_law 768 = .ok (.iaload, 1) := by decide +kernel
theorem dL_law_769 : decode cL_law 769 = .ok (.invokevirtual 99, 3) := by decide +kernel
theorem dL_law_772 : decode cL_law 772 = .ok (.aload_n 2, 1) := by decide +kernel
theorem dL_law_773 : decode cL_law 773 = .ok (.aload_n 0, 1) := by decide +kernel
theorem dL_law_774 : decode cL_law 774 = .ok (.iload_n 3, 1) := by decide +kernel
theorem dL_law_775 : decode cL_law 775 = .ok (.iconst 1, 1) := by decide +kernel
theorem dL_law_776 : decode cL_law 776 = .ok (.iadd, 1) := by decide +kernel
theorem dL_law_777 : decode cL_law 777 = .ok (.iaload, 1) := by decide +kernel
theorem dL_law_778 : decode cL_law 778 = .ok (.aload_n 0, 1) := by decide +kernel
theorem dL_law_779 : decode cL_law 779 = .ok (.iload_n 3, 1) := by decide +kernel
theorem dL_law_780 : decode cL_law 780 = .ok (.iconst 2, 1) := by decide +kernel
theorem dL_law_781 : decode cL_law 781 = .ok (.iadd, 1) := by decide +kernel
theorem dL_law_782 : decode cL_law 782 = .ok (.iaload, 1) := by decide +kernel
theorem dL_law_783 : decode cL_law 783 = .ok (.aload_n 0, 1) := by decide +kernel
theorem dL_law_784 : decode cL_law 784 = .ok (.iload_n 3, 1) := by decide +kernel
theorem dL_law_785 : decode cL_law 785 = .ok (.iconst 3, 1) := by decide +kernel
theorem dL_law_786 : decode cL_law 786 = .ok (.iadd, 1) := by decide +kernel
theorem dL_law_787 : decode cL_law 787 = .ok (.iaload, 1) := by decide +kernel
theorem dL_law_788 : decode cL_law 788 = .ok (.invokevirtual 102, 3) := by decide +kernel
theorem dL_law_791 : decode cL_law 791 = .ok (.lcmp, 1) := by decide +kernel
theorem dL_law_792 : decode cL_law 792 = .ok (.ifCond .eq 206, 3) := by decide +kernel
theorem dL_law_795 : decode cL_law 795 = .ok (.iconst 0, 1) := by decide +kernel
theorem dL_law_796 : decode cL_law 796 = .ok (.ireturn, 1) := by decide +kernel
theorem dL_law_797 : decode cL_law 797 = .ok (.aload_n 1, 1) := by decide +kernel
theorem dL_law_798 : decode cL_law 798 = .ok (.aload_n 0, 1) := by decide +kernel
theorem dL_law_799 : decode cL_law 799 = .ok (.iload_n 3, 1) := by decide +kernel
theorem dL_law_800 : decode cL_law 800 = .ok (.iconst 1, 1) := by decide +kernel
theorem dL_law_801 : decode cL_law 801 = .ok (.iadd, 1) := by decide +kernel
theorem dL_law_802 : decode cL_law 802 = .ok (.iaload, 1) := by decide +kernel
theorem dL_law_803 : decode cL_law 803 = .ok (.aload_n 0, 1) := by decide +kernel
theorem dL_law_804 : decode cL_law 804 = .ok (.iload_n 3, 1) := by decide +kernel
theorem dL_law_805 : decode cL_law 805 = .ok (.iconst 2, 1) := by decide +kernel
theorem dL_law_806 : decode cL_law 806 = .ok (.iadd, 1) := by decide +kernel
theorem dL_law_807 : decode cL_law 807 = .ok (.iaload, 1) := by decide +kernel
theorem dL_law_808 : decode cL_law 808 = .ok (.i2l, 1) := by decide +kernel
theorem dL_law_809 : decode cL_law 809 = .ok (.bipush 32, 2) := by decide +kernel
theorem dL_law_811 : decode cL_law 811 = .ok (.lshl, 1) := by decide +kernel
theorem dL_law_812 : decode cL_law 812 = .ok (.aload_n 0, 1) := by decide +kernel
theorem dL_law_813 : decode cL_law 813 = .ok (.iload_n 3, 1) := by decide +kernel
theorem dL_law_814 : decode cL_law 814 = .ok (.iconst 3, 1) := by decide +kernel
theorem dL_law_815 : decode cL_law 815 = .ok (.iadd, 1) := by decide +kernel
theorem dL_law_816 : decode cL_law 816 = .ok (.iaload, 1) := by decide +kernel
theorem dL_law_817 : decode cL_law 817 = .ok (.i2l, 1) := by decide +kernel
theorem dL_law_818 : decode cL_law 818 = .ok (.ldc2_w 84, 3) := by decide +kernel
theorem dL_law_821 : decode cL_law 821 = .ok (.land, 1) := by decide +kernel
theorem dL_law_822 : decode cL_law 822 = .ok (.lor, 1) := by decide +kernel
theorem dL_law_823 : decode cL_law 823 = .ok (.invokevirtual 103, 3) := by decide +kernel
theorem dL_law_826 : decode cL_law 826 = .ok (.aload_n 2, 1) := by decide +kernel
theorem dL_law_827 : decode cL_law 827 = .ok (.aload_n 0, 1) := by decide +kernel
theorem dL_law_828 : decode cL_law 828 = .ok (.iload_n 3, 1) := by decide +kernel
theorem dL_law_829 : decode cL_law 829 = .ok (.iconst 1, 1) := by decide +kernel
theorem dL_law_830 : decode cL_law 830 = .ok (.iadd, 1) := by decide +kernel
theorem dL_law_831 : decode cL_law 831 = .ok (.iaload, 1) := by decide +kernel
theorem dL_law_832 : decode cL_law 832 = .ok (.aload_n 0, 1) := by decide +kernel
theorem dL_law_833 : decode cL_law 833 = .ok (.iload_n 3, 1) := by decide +kernel
theorem dL_law_834 : decode cL_law 834 = .ok (.iconst 2, 1) := by decide +kernel
theorem dL_law_835 : decode cL_law 835 = .ok (.iadd, 1) := by decide +kernel
theorem dL_law_836 : decode cL_law 836 = .ok (.iaload, 1) := by decide +kernel
theorem dL_law_837 : decode cL_law 837 = .ok (.i2l, 1) := by decide +kernel
theorem dL_law_838 : decode cL_law 838 = .ok (.bipush 32, 2) := by decide +kernel
theorem dL_law_840 : decode cL_law 840 = .ok (.lshl, 1) := by decide +kernel
theorem dL_law_841 : decode cL_law 841 = .ok (.aload_n 0, 1) := by decide +kernel
theorem dL_law_842 : decode cL_law 842 = .ok (.iload_n 3, 1) := by decide +kernel
theorem dL_law_843 : decode cL_law 843 = .ok (.iconst 3, 1) := by decide +kernel
theorem dL_law_844 : decode cL_law 844 = .ok (.iadd, 1) := by decide +kernel
theorem dL_law_845 : decode cL_law 845 = .ok (.iaload, 1) := by decide +kernel
theorem dL_law_846 : decode cL_law 846 = .ok (.i2l, 1) := by decide +kernel
theorem dL_law_847 : decode cL_law 847 = .ok (.ldc2_w 84, 3) := by decide +kernel
theorem dL_law_850 : decode cL_law 850 = .ok (.land, 1) := by decide +kernel
theorem dL_law_851 : decode cL_law 851 = .ok (.lor, 1) := by decide +kernel
theorem dL_law_852 : decode cL_law 852 = .ok (.invokevirtual 106, 3) := by decide +kernel
theorem dL_law_855 : decode cL_law 855 = .ok (.if_icmp .eq 143, 3) := by decide +kernel
theorem dL_law_858 : decode cL_law 858 = .ok (.iconst 0, 1) := by decide +kernel
theorem dL_law_859 : decode cL_law 859 = .ok (.ireturn, 1) := by decide +kernel
theorem dL_law_860 : decode cL_law 860 = .ok (.aload_n 1, 1) := by decide +kernel
theorem dL_law_861 : decode cL_law 861 = .ok (.invokevirtual 107, 3) := by decide +kernel
theorem dL_law_864 : decode cL_law 864 = .ok (.aload_n 2, 1) := by decide +kernel
theorem dL_law_865 : decode cL_law 865 = .ok (.invokevirtual 110, 3) := by decide +kernel
theorem dL_law_868 : decode cL_law 868 = .ok (.if_icmp .eq 130, 3) := by decide +kernel
theorem dL_law_871 : decode cL_law 871 = .ok (.iconst 0, 1) := by decide +kernel
theorem dL_law_872 : decode cL_law 872 = .ok (.ireturn, 1) := by decide +kernel
theorem dL_law_873 : decode cL_law 873 = .ok (.aload_n 1, 1) := by decide +kernel
theorem dL_law_874 : decode cL_law 874 = .ok (.aload_n 0, 1) := by decide +kernel
theorem dL_law_875 : decode cL_law 875 = .ok (.iload_n 3, 1) := by decide +kernel
theorem dL_law_876 : decode cL_law 876 = .ok (.iconst 1, 1) := by decide +kernel
theorem dL_law_877 : decode cL_law 877 = .ok (.iadd, 1) := by decide +kernel
theorem dL_law_878 : decode cL_law 878 = .ok (.iaload, 1) := by decide +kernel
theorem dL_law_879 : decode cL_law 879 = .ok (.invokevirtual 111, 3) := by decide +kernel
theorem dL_law_882 : decode cL_law 882 = .ok (.aload_n 2, 1) := by decide +kernel
theorem dL_law_883 : decode cL_law 883 = .ok (.aload_n 0, 1) := by decide +kernel
theorem dL_law_884 : decode cL_law 884 = .ok (.iload_n 3, 1) := by decide +kernel
theorem dL_law_885 : decode cL_law 885 = .ok (.iconst 1, 1) := by decide +kernel
theorem dL_law_886 : decode cL_law 886 = .ok (.iadd, 1) := by decide +kernel
theorem dL_law_887 : decode cL_law 887 = .ok (.iaload, 1) := by decide +kernel
theorem dL_law_888 : decode cL_law 888 = .ok (.invokevirtual 114, 3) := by decide +kernel
theorem dL_law_891 : decode cL_law 891 = .ok (.if_icmp .eq 107, 3) := by decide +kernel
theorem dL_law_894 : decode cL_law 894 = .ok (.iconst 0, 1) := by decide +kernel
theorem dL_law_895 : decode cL_law 895 = .ok (.ireturn, 1) := by decide +kernel
theorem dL_law_896 : decode cL_law 896 = .ok (.aload_n 1, 1) := by decide +kernel
theorem dL_law_897 : decode cL_law 897 = .ok (.aload_n 0, 1) := by decide +kernel
theorem dL_law_898 : decode cL_law 898 = .ok (.iload_n 3, 1) := by decide +kernel
theorem dL_law_899 : decode cL_law 899 = .ok (.iconst 1, 1) := by decide +kernel
theorem dL_law_900 : decode cL_law 900 = .ok (.iadd, 1) := by decide +kernel
theorem dL_law_901 : decode cL_law 901 = .ok (.iaload, 1) := by decide +kernel
theorem dL_law_902 : decode cL_law 902 = .ok (.invokevirtual 115, 3) := by decide +kernel
theorem dL_law_905 : decode cL_law 905 = .ok (.aload_n 2, 1) := by decide +kernel
theorem dL_law_906 : decode cL_law 906 = .ok (.aload_n 0, 1) := by decide +kernel
theorem dL_law_907 : decode cL_law 907 = .ok (.iload_n 3, 1) := by decide +kernel
theorem dL_law_908 : decode cL_law 908 = .ok (.iconst 1, 1) := by decide +kernel
theorem dL_law_909 : decode cL_law 909 = .ok (.iadd, 1) := by decide +kernel
theorem dL_law_910 : decode cL_law 910 = .ok (.iaload, 1) := by decide +kernel
theorem dL_law_911 : decode cL_law 911 = .ok (.invokevirtual 118, 3) := by decide +kernel
theorem dL_law_914 : decode cL_law 914 = .ok (.if_icmp .eq 84, 3) := by decide +kernel
theorem dL_law_917 : decode cL_law 917 = .ok (.iconst 0, 1) := by decide +kernel
theorem dL_law_918 : decode cL_law 918 = .ok (.ireturn, 1) := by decide +kernel
theorem dL_law_919 : decode cL_law 919 = .ok (.aload_n 1, 1) := by decide +kernel
theorem dL_law_920 : decode cL_law 920 = .ok (.aload_n 0, 1) := by decide +kernel
theorem dL_law_921 : decode cL_law 921 = .ok (.iload_n 3, 1) := by decide +kernel
theorem dL_law_922 : decode cL_law 922 = .ok (.iconst 1, 1) := by decide +kernel
theorem dL_law_923 : decode cL_law 923 = .ok (.iadd, 1) := by decide +kernel
theorem dL_law_924 : decode cL_law 924 = .ok (.iaload, 1) := by decide +kernel
theorem dL_law_925 : decode cL_law 925 = .ok (.invokevirtual 119, 3) := by decide +kernel
theorem dL_law_928 : decode cL_law 928 = .ok (.aload_n 2, 1) := by decide +kernel
theorem dL_law_929 : decode cL_law 929 = .ok (.aload_n 0, 1) := by decide +kernel
theorem dL_law_930 : decode cL_law 930 = .ok (.iload_n 3, 1) := by decide +kernel
theorem dL_law_931 : decode cL_law 931 = .ok (.iconst 1, 1) := by decide +kernel
theorem dL_law_932 : decode cL_law 932 = .ok (.iadd, 1) := by decide +kernel
theorem dL_law_933 : decode cL_law 933 = .ok (.iaload, 1) := by decide +kernel
theorem dL_law_934 : decode cL_law 934 = .ok (.invokevirtual 122, 3) := by decide +kernel
theorem dL_law_937 : decode cL_law 937 = .ok (.if_icmp .eq 61, 3) := by decide +kernel
theorem dL_law_940 : decode cL_law 940 = .ok (.iconst 0, 1) := by decide +kernel
theorem dL_law_941 : decode cL_law 941 = .ok (.ireturn, 1) := by decide +kernel
theorem dL_law_942 : decode cL_law 942 = .ok (.aload_n 1, 1) := by decide +kernel
theorem dL_law_943 : decode cL_law 943 = .ok (.aload_n 0, 1) := by decide +kernel
theorem dL_law_944 : decode cL_law 944 = .ok (.iload_n 3, 1) := by decide +kernel
theorem dL_law_945 : decode cL_law 945 = .ok (.iconst 1, 1) := by decide +kernel
theorem dL_law_946 : decode cL_law 946 = .ok (.iadd, 1) := by decide +kernel
theorem dL_law_947 : decode cL_law 947 = .ok (.iaload, 1) := by decide +kernel
theorem dL_law_948 : decode cL_law 948 = .ok (.aload_n 0, 1) := by decide +kernel
theorem dL_law_949 : decode cL_law 949 = .ok (.iload_n 3, 1) := by decide +kernel
theorem dL_law_950 : decode cL_law 950 = .ok (.iconst 2, 1) := by decide +kernel
theorem dL_law_951 : decode cL_law 951 = .ok (.iadd, 1) := by decide +kernel
theorem dL_law_952 : decode cL_law 952 = .ok (.iaload, 1) := by decide +kernel
theorem dL_law_953 : decode cL_law 953 = .ok (.invokevirtual 123, 3) := by decide +kernel
theorem dL_law_956 : decode cL_law 956 = .ok (.aload_n 2, 1) := by decide +kernel
theorem dL_law_957 : decode cL_law 957 = .ok (.aload_n 0, 1) := by decide +kernel
theorem dL_law_958 : decode cL_law 958 = .ok (.iload_n 3, 1) := by decide +kernel
theorem dL_law_959 : decode cL_law 959 = .ok (.iconst 1, 1) := by decide +kernel
theorem dL_law_960 : decode cL_law 960 = .ok (.iadd, 1) := by decide +kernel
theorem dL_law_961 : decode cL_law 961 = .ok (.iaload, 1) := by decide +kernel
theorem dL_law_962 : decode cL_law 962 = .ok (.aload_n 0, 1) := by decide +kernel
theorem dL_law_963 : decode cL_law 963 = .ok (.iload_n 3, 1) := by decide +kernel
theorem dL_law_964 : decode cL_law 964 = .ok (.iconst 2, 1) := by decide +kernel
theorem dL_law_965 : decode cL_law 965 = .ok (.iadd, 1) := by decide +kernel
theorem dL_law_966 : decode cL_law 966 = .ok (.iaload, 1) := by decide +kernel
theorem dL_law_967 : decode cL_law 967 = .ok (.invokevirtual 126, 3) := by decide +kernel
theorem dL_law_970 : decode cL_law 970 = .ok (.if_icmp .eq 28, 3) := by decide +kernel
theorem dL_law_973 : decode cL_law 973 = .ok (.iconst 0, 1) := by decide +kernel
theorem dL_law_974 : decode cL_law 974 = .ok (.ireturn, 1) := by decide +kernel
theorem dL_law_975 : decode cL_law 975 = .ok (.aload_n 1, 1) := by decide +kernel
theorem dL_law_976 : decode cL_law 976 = .ok (.aload_n 0, 1) := by decide +kernel
theorem dL_law_977 : decode cL_law 977 = .ok (.iload_n 3, 1) := by decide +kernel
theorem dL_law_978 : decode cL_law 978 = .ok (.iconst 1, 1) := by decide +kernel
theorem dL_law_979 : decode cL_law 979 = .ok (.iadd, 1) := by decide +kernel
theorem dL_law_980 : decode cL_law 980 = .ok (.iaload, 1) := by decide +kernel
theorem dL_law_981 : decode cL_law 981 = .ok (.invokevirtual 127, 3) := by decide +kernel
theorem dL_law_984 : decode cL_law 984 = .ok (.aload_n 2, 1) := by decide +kernel
theorem dL_law_985 : decode cL_law 985 = .ok (.aload_n 0, 1) := by decide +kernel
theorem dL_law_986 : decode cL_law 986 = .ok (.iload_n 3, 1) := by decide +kernel
theorem dL_law_987 : decode cL_law 987 = .ok (.iconst 1, 1) := by decide +kernel
theorem dL_law_988 : decode cL_law 988 = .ok (.iadd, 1) := by decide +kernel
theorem dL_law_989 : decode cL_law 989 = .ok (.iaload, 1) := by decide +kernel
theorem dL_law_990 : decode cL_law 990 = .ok (.invokevirtual 130, 3) := by decide +kernel
theorem dL_law_993 : decode cL_law 993 = .ok (.if_icmp .eq 5, 3) := by decide +kernel
theorem dL_law_996 : decode cL_law 996 = .ok (.iconst 0, 1) := by decide +kernel
theorem dL_law_997 : decode cL_law 997 = .ok (.ireturn, 1) := by decide +kernel
theorem dL_law_998 : decode cL_law 998 = .ok (.iinc 3 4, 3) := by decide +kernel
theorem dL_law_1001 : decode cL_law 1001 = .ok (.goto (-983), 3) := by decide +kernel
theorem dL_law_1004 : decode cL_law 1004 = .ok (.iconst 1, 1) := by decide +kernel
theorem dL_law_1005 : decode cL_law 1005 = .ok (.ireturn, 1) := by decide +kernel
end
