section
-- ===== PART A: goes FIRST, ahead of the names: the tables' words, and 'selects' of the private methods out of them =====
/-- a private method of a class that the tables say can be made, by its rows of tables_1 -/
def lw_okq (q : MethodName × Nat) : Prop := (q.1.cls ≠ "java/lang/invoke/MethodHandle" ∧ q.1.cls ≠ "java/lang/invoke/VarHandle") ∧ Cond.instantiable q.1.cls q.2 ∈ tables_1 ∧ Cond.privateMethod q.1 ∈ tables_1 ∧ Cond.instanceMethod q.1 ∈ tables_1
theorem lw_p0 : lw_okq (⟨"DishPointer$History", "dropOldest", "()V"⟩, 2) := ⟨⟨by decide +kernel, by decide +kernel⟩, List.mem_of_getElem? (i := 211) (by decide +kernel), List.mem_of_getElem? (i := 286) (by decide +kernel), List.mem_of_getElem? (i := 287) (by decide +kernel)⟩
theorem lw_p1 : lw_okq (⟨"DishPointer$State", "isLowWayTaken", "()Z"⟩, 11) := ⟨⟨by decide +kernel, by decide +kernel⟩, List.mem_of_getElem? (i := 20) (by decide +kernel), List.mem_of_getElem? (i := 429) (by decide +kernel), List.mem_of_getElem? (i := 430) (by decide +kernel)⟩
theorem lw_p2 : lw_okq (⟨"DishPointer$Target", "ifBegun", "(I)I"⟩, 14) := ⟨⟨by decide +kernel, by decide +kernel⟩, List.mem_of_getElem? (i := 109) (by decide +kernel), List.mem_of_getElem? (i := 498) (by decide +kernel), List.mem_of_getElem? (i := 499) (by decide +kernel)⟩
theorem lw_p3 : lw_okq (⟨"DishPointer$State", "beginHold", "()V"⟩, 11) := ⟨⟨by decide +kernel, by decide +kernel⟩, List.mem_of_getElem? (i := 20) (by decide +kernel), List.mem_of_getElem? (i := 536) (by decide +kernel), List.mem_of_getElem? (i := 537) (by decide +kernel)⟩
theorem lw_p4 : lw_okq (⟨"DishPointer$State", "endWhatIsOver", "()V"⟩, 11) := ⟨⟨by decide +kernel, by decide +kernel⟩, List.mem_of_getElem? (i := 20) (by decide +kernel), List.mem_of_getElem? (i := 541) (by decide +kernel), List.mem_of_getElem? (i := 542) (by decide +kernel)⟩
theorem lw_p5 : lw_okq (⟨"DishPointer$State", "goOnWith", "(LDishPointer$Target;)V"⟩, 11) := ⟨⟨by decide +kernel, by decide +kernel⟩, List.mem_of_getElem? (i := 20) (by decide +kernel), List.mem_of_getElem? (i := 545) (by decide +kernel), List.mem_of_getElem? (i := 546) (by decide +kernel)⟩
theorem lw_p6 : lw_okq (⟨"DishPointer$State", "lookAtSlew", "(LDishPointer$Target;)V"⟩, 11) := ⟨⟨by decide +kernel, by decide +kernel⟩, List.mem_of_getElem? (i := 20) (by decide +kernel), List.mem_of_getElem? (i := 549) (by decide +kernel), List.mem_of_getElem? (i := 550) (by decide +kernel)⟩
theorem lw_p7 : lw_okq (⟨"DishPointer$State", "begin", "(LDishPointer$Target;)V"⟩, 11) := ⟨⟨by decide +kernel, by decide +kernel⟩, List.mem_of_getElem? (i := 20) (by decide +kernel), List.mem_of_getElem? (i := 554) (by decide +kernel), List.mem_of_getElem? (i := 555) (by decide +kernel)⟩
theorem lw_p8 : lw_okq (⟨"DishPointer$State", "nextEvent", "()I"⟩, 11) := ⟨⟨by decide +kernel, by decide +kernel⟩, List.mem_of_getElem? (i := 20) (by decide +kernel), List.mem_of_getElem? (i := 559) (by decide +kernel), List.mem_of_getElem? (i := 560) (by decide +kernel)⟩
theorem lw_p9 : lw_okq (⟨"DishPointer$State", "sooner", "(II)I"⟩, 11) := ⟨⟨by decide +kernel, by decide +kernel⟩, List.mem_of_getElem? (i := 20) (by decide +kernel), List.mem_of_getElem? (i := 563) (by decide +kernel), List.mem_of_getElem? (i := 564) (by decide +kernel)⟩
theorem lw_p10 : lw_okq (⟨"DishPointer$TargetText", "readPart", "(II)I"⟩, 6) := ⟨⟨by decide +kernel, by decide +kernel⟩, List.mem_of_getElem? (i := 228) (by decide +kernel), List.mem_of_getElem? (i := 604) (by decide +kernel), List.mem_of_getElem? (i := 605) (by decide +kernel)⟩
theorem lw_p11 : lw_okq (⟨"DishPointer$TargetText", "signAt", "(I)C"⟩, 6) := ⟨⟨by decide +kernel, by decide +kernel⟩, List.mem_of_getElem? (i := 228) (by decide +kernel), List.mem_of_getElem? (i := 608) (by decide +kernel), List.mem_of_getElem? (i := 609) (by decide +kernel)⟩
theorem lw_p12 : lw_okq (⟨"DishPointer$TargetText", "reasonAgainstEntry", "(II)I"⟩, 6) := ⟨⟨by decide +kernel, by decide +kernel⟩, List.mem_of_getElem? (i := 228) (by decide +kernel), List.mem_of_getElem? (i := 617) (by decide +kernel), List.mem_of_getElem? (i := 618) (by decide +kernel)⟩
theorem lw_p13 : lw_okq (⟨"DishPointerModel", "records", "()V"⟩, 12) := ⟨⟨by decide +kernel, by decide +kernel⟩, List.mem_of_getElem? (i := 627) (by decide +kernel), List.mem_of_getElem? (i := 681) (by decide +kernel), List.mem_of_getElem? (i := 682) (by decide +kernel)⟩
theorem lw_p14 : lw_okq (⟨"DishPointerModel", "day", "()I"⟩, 12) := ⟨⟨by decide +kernel, by decide +kernel⟩, List.mem_of_getElem? (i := 627) (by decide +kernel), List.mem_of_getElem? (i := 701) (by decide +kernel), List.mem_of_getElem? (i := 702) (by decide +kernel)⟩
theorem lw_p15 : lw_okq (⟨"DishPointerModel", "gustNow", "()I"⟩, 12) := ⟨⟨by decide +kernel, by decide +kernel⟩, List.mem_of_getElem? (i := 627) (by decide +kernel), List.mem_of_getElem? (i := 705) (by decide +kernel), List.mem_of_getElem? (i := 706) (by decide +kernel)⟩
def lw_privs_1 : List (MethodName × Nat) := [(⟨"DishPointer$History", "dropOldest", "()V"⟩, 2), (⟨"DishPointer$State", "isLowWayTaken", "()Z"⟩, 11), (⟨"DishPointer$Target", "ifBegun", "(I)I"⟩, 14), (⟨"DishPointer$State", "beginHold", "()V"⟩, 11), (⟨"DishPointer$State", "endWhatIsOver", "()V"⟩, 11), (⟨"DishPointer$State", "goOnWith", "(LDishPointer$Target;)V"⟩, 11), (⟨"DishPointer$State", "lookAtSlew", "(LDishPointer$Target;)V"⟩, 11), (⟨"DishPointer$State", "begin", "(LDishPointer$Target;)V"⟩, 11), (⟨"DishPointer$State", "nextEvent", "()I"⟩, 11), (⟨"DishPointer$State", "sooner", "(II)I"⟩, 11), (⟨"DishPointer$TargetText", "readPart", "(II)I"⟩, 6), (⟨"DishPointer$TargetText", "signAt", "(I)C"⟩, 6), (⟨"DishPointer$TargetText", "reasonAgainstEntry", "(II)I"⟩, 6), (⟨"DishPointerModel", "records", "()V"⟩, 12), (⟨"DishPointerModel", "day", "()I"⟩, 12), (⟨"DishPointerModel", "gustNow", "()I"⟩, 12)]
theorem lw_r1 : ∀ q ∈ lw_privs_1, lw_okq q := List.forall_mem_cons.mpr ⟨lw_p0, List.forall_mem_cons.mpr ⟨lw_p1, List.forall_mem_cons.mpr ⟨lw_p2, List.forall_mem_cons.mpr ⟨lw_p3, List.forall_mem_cons.mpr ⟨lw_p4, List.forall_mem_cons.mpr ⟨lw_p5, List.forall_mem_cons.mpr ⟨lw_p6, List.forall_mem_cons.mpr ⟨lw_p7, List.forall_mem_cons.mpr ⟨lw_p8, List.forall_mem_cons.mpr ⟨lw_p9, List.forall_mem_cons.mpr ⟨lw_p10, List.forall_mem_cons.mpr ⟨lw_p11, List.forall_mem_cons.mpr ⟨lw_p12, List.forall_mem_cons.mpr ⟨lw_p13, List.forall_mem_cons.mpr ⟨lw_p14, List.forall_mem_cons.mpr ⟨lw_p15, fun _ h => absurd h List.not_mem_nil⟩⟩⟩⟩⟩⟩⟩⟩⟩⟩⟩⟩⟩⟩⟩⟩
theorem lw_p16 : lw_okq (⟨"DishPointerModel", "kindOfDay", "()I"⟩, 12) := ⟨⟨by decide +kernel, by decide +kernel⟩, List.mem_of_getElem? (i := 627) (by decide +kernel), List.mem_of_getElem? (i := 709) (by decide +kernel), List.mem_of_getElem? (i := 710) (by decide +kernel)⟩
theorem lw_p17 : lw_okq (⟨"DishPointerModel", "manyIn", "(I)I"⟩, 12) := ⟨⟨by decide +kernel, by decide +kernel⟩, List.mem_of_getElem? (i := 627) (by decide +kernel), List.mem_of_getElem? (i := 713) (by decide +kernel), List.mem_of_getElem? (i := 714) (by decide +kernel)⟩
theorem lw_p18 : lw_okq (⟨"DishPointerModel", "of", "(II)I"⟩, 12) := ⟨⟨by decide +kernel, by decide +kernel⟩, List.mem_of_getElem? (i := 627) (by decide +kernel), List.mem_of_getElem? (i := 717) (by decide +kernel), List.mem_of_getElem? (i := 718) (by decide +kernel)⟩
theorem lw_p19 : lw_okq (⟨"DishPointerModel", "underWay", "()I"⟩, 12) := ⟨⟨by decide +kernel, by decide +kernel⟩, List.mem_of_getElem? (i := 627) (by decide +kernel), List.mem_of_getElem? (i := 721) (by decide +kernel), List.mem_of_getElem? (i := 722) (by decide +kernel)⟩
theorem lw_p20 : lw_okq (⟨"DishPointerModel", "minutesLeft", "()I"⟩, 12) := ⟨⟨by decide +kernel, by decide +kernel⟩, List.mem_of_getElem? (i := 627) (by decide +kernel), List.mem_of_getElem? (i := 726) (by decide +kernel), List.mem_of_getElem? (i := 727) (by decide +kernel)⟩
theorem lw_p21 : lw_okq (⟨"DishPointerModel", "stands", "(I)I"⟩, 12) := ⟨⟨by decide +kernel, by decide +kernel⟩, List.mem_of_getElem? (i := 627) (by decide +kernel), List.mem_of_getElem? (i := 730) (by decide +kernel), List.mem_of_getElem? (i := 731) (by decide +kernel)⟩
theorem lw_p22 : lw_okq (⟨"DishPointerModel", "ofAxis", "(II)I"⟩, 12) := ⟨⟨by decide +kernel, by decide +kernel⟩, List.mem_of_getElem? (i := 627) (by decide +kernel), List.mem_of_getElem? (i := 734) (by decide +kernel), List.mem_of_getElem? (i := 735) (by decide +kernel)⟩
theorem lw_p23 : lw_okq (⟨"DishPointerModel", "isPossible", "(II)Z"⟩, 12) := ⟨⟨by decide +kernel, by decide +kernel⟩, List.mem_of_getElem? (i := 627) (by decide +kernel), List.mem_of_getElem? (i := 747) (by decide +kernel), List.mem_of_getElem? (i := 748) (by decide +kernel)⟩
theorem lw_p24 : lw_okq (⟨"DishPointerModel", "finds", "(II)V"⟩, 12) := ⟨⟨by decide +kernel, by decide +kernel⟩, List.mem_of_getElem? (i := 627) (by decide +kernel), List.mem_of_getElem? (i := 751) (by decide +kernel), List.mem_of_getElem? (i := 752) (by decide +kernel)⟩
theorem lw_p25 : lw_okq (⟨"DishPointerModel", "isInRange", "(II)Z"⟩, 12) := ⟨⟨by decide +kernel, by decide +kernel⟩, List.mem_of_getElem? (i := 627) (by decide +kernel), List.mem_of_getElem? (i := 755) (by decide +kernel), List.mem_of_getElem? (i := 756) (by decide +kernel)⟩
theorem lw_p26 : lw_okq (⟨"DishPointerModel", "lengthOf", "(II)I"⟩, 12) := ⟨⟨by decide +kernel, by decide +kernel⟩, List.mem_of_getElem? (i := 627) (by decide +kernel), List.mem_of_getElem? (i := 759) (by decide +kernel), List.mem_of_getElem? (i := 760) (by decide +kernel)⟩
theorem lw_p27 : lw_okq (⟨"DishPointerModel", "timeOf", "(II)I"⟩, 12) := ⟨⟨by decide +kernel, by decide +kernel⟩, List.mem_of_getElem? (i := 627) (by decide +kernel), List.mem_of_getElem? (i := 766) (by decide +kernel), List.mem_of_getElem? (i := 767) (by decide +kernel)⟩
theorem lw_p28 : lw_okq (⟨"DishPointerModel", "placeOf", "(I)I"⟩, 12) := ⟨⟨by decide +kernel, by decide +kernel⟩, List.mem_of_getElem? (i := 627) (by decide +kernel), List.mem_of_getElem? (i := 775) (by decide +kernel), List.mem_of_getElem? (i := 776) (by decide +kernel)⟩
theorem lw_p29 : lw_okq (⟨"DishPointerModel", "isBetter", "(II)Z"⟩, 12) := ⟨⟨by decide +kernel, by decide +kernel⟩, List.mem_of_getElem? (i := 627) (by decide +kernel), List.mem_of_getElem? (i := 779) (by decide +kernel), List.mem_of_getElem? (i := 780) (by decide +kernel)⟩
theorem lw_p30 : lw_okq (⟨"DishPointerModel", "isCalm", "(I)Z"⟩, 12) := ⟨⟨by decide +kernel, by decide +kernel⟩, List.mem_of_getElem? (i := 627) (by decide +kernel), List.mem_of_getElem? (i := 783) (by decide +kernel), List.mem_of_getElem? (i := 784) (by decide +kernel)⟩
theorem lw_p31 : lw_okq (⟨"DishPointerModel", "slews", "(II)I"⟩, 12) := ⟨⟨by decide +kernel, by decide +kernel⟩, List.mem_of_getElem? (i := 627) (by decide +kernel), List.mem_of_getElem? (i := 791) (by decide +kernel), List.mem_of_getElem? (i := 792) (by decide +kernel)⟩
def lw_privs_2 : List (MethodName × Nat) := [(⟨"DishPointerModel", "kindOfDay", "()I"⟩, 12), (⟨"DishPointerModel", "manyIn", "(I)I"⟩, 12), (⟨"DishPointerModel", "of", "(II)I"⟩, 12), (⟨"DishPointerModel", "underWay", "()I"⟩, 12), (⟨"DishPointerModel", "minutesLeft", "()I"⟩, 12), (⟨"DishPointerModel", "stands", "(I)I"⟩, 12), (⟨"DishPointerModel", "ofAxis", "(II)I"⟩, 12), (⟨"DishPointerModel", "isPossible", "(II)Z"⟩, 12), (⟨"DishPointerModel", "finds", "(II)V"⟩, 12), (⟨"DishPointerModel", "isInRange", "(II)Z"⟩, 12), (⟨"DishPointerModel", "lengthOf", "(II)I"⟩, 12), (⟨"DishPointerModel", "timeOf", "(II)I"⟩, 12), (⟨"DishPointerModel", "placeOf", "(I)I"⟩, 12), (⟨"DishPointerModel", "isBetter", "(II)Z"⟩, 12), (⟨"DishPointerModel", "isCalm", "(I)Z"⟩, 12), (⟨"DishPointerModel", "slews", "(II)I"⟩, 12)]
theorem lw_r2 : ∀ q ∈ lw_privs_2, lw_okq q := List.forall_mem_cons.mpr ⟨lw_p16, List.forall_mem_cons.mpr ⟨lw_p17, List.forall_mem_cons.mpr ⟨lw_p18, List.forall_mem_cons.mpr ⟨lw_p19, List.forall_mem_cons.mpr ⟨lw_p20, List.forall_mem_cons.mpr ⟨lw_p21, List.forall_mem_cons.mpr ⟨lw_p22, List.forall_mem_cons.mpr ⟨lw_p23, List.forall_mem_cons.mpr ⟨lw_p24, List.forall_mem_cons.mpr ⟨lw_p25, List.forall_mem_cons.mpr ⟨lw_p26, List.forall_mem_cons.mpr ⟨lw_p27, List.forall_mem_cons.mpr ⟨lw_p28, List.forall_mem_cons.mpr ⟨lw_p29, List.forall_mem_cons.mpr ⟨lw_p30, List.forall_mem_cons.mpr ⟨lw_p31, fun _ h => absurd h List.not_mem_nil⟩⟩⟩⟩⟩⟩⟩⟩⟩⟩⟩⟩⟩⟩⟩⟩
theorem lw_p32 : lw_okq (⟨"DishPointerModel", "leads", "(II)V"⟩, 12) := ⟨⟨by decide +kernel, by decide +kernel⟩, List.mem_of_getElem? (i := 627) (by decide +kernel), List.mem_of_getElem? (i := 795) (by decide +kernel), List.mem_of_getElem? (i := 796) (by decide +kernel)⟩
theorem lw_p33 : lw_okq (⟨"DishPointerModel", "goes", "(II)V"⟩, 12) := ⟨⟨by decide +kernel, by decide +kernel⟩, List.mem_of_getElem? (i := 627) (by decide +kernel), List.mem_of_getElem? (i := 799) (by decide +kernel), List.mem_of_getElem? (i := 800) (by decide +kernel)⟩
theorem lw_p34 : lw_okq (⟨"DishPointerModel", "adds", "(IIIIII)V"⟩, 12) := ⟨⟨by decide +kernel, by decide +kernel⟩, List.mem_of_getElem? (i := 627) (by decide +kernel), List.mem_of_getElem? (i := 819) (by decide +kernel), List.mem_of_getElem? (i := 820) (by decide +kernel)⟩
theorem lw_p35 : lw_okq (⟨"DishPointerModel", "puts", "(III)V"⟩, 12) := ⟨⟨by decide +kernel, by decide +kernel⟩, List.mem_of_getElem? (i := 627) (by decide +kernel), List.mem_of_getElem? (i := 823) (by decide +kernel), List.mem_of_getElem? (i := 824) (by decide +kernel)⟩
theorem lw_p36 : lw_okq (⟨"DishPointerModel", "isTarget", "(I)Z"⟩, 12) := ⟨⟨by decide +kernel, by decide +kernel⟩, List.mem_of_getElem? (i := 627) (by decide +kernel), List.mem_of_getElem? (i := 831) (by decide +kernel), List.mem_of_getElem? (i := 832) (by decide +kernel)⟩
theorem lw_p37 : lw_okq (⟨"DishPointerModel", "whyNot", "(I)I"⟩, 12) := ⟨⟨by decide +kernel, by decide +kernel⟩, List.mem_of_getElem? (i := 627) (by decide +kernel), List.mem_of_getElem? (i := 843) (by decide +kernel), List.mem_of_getElem? (i := 844) (by decide +kernel)⟩
theorem lw_p38 : lw_okq (⟨"DishPointerModel", "nextOne", "()I"⟩, 12) := ⟨⟨by decide +kernel, by decide +kernel⟩, List.mem_of_getElem? (i := 627) (by decide +kernel), List.mem_of_getElem? (i := 851) (by decide +kernel), List.mem_of_getElem? (i := 852) (by decide +kernel)⟩
theorem lw_p39 : lw_okq (⟨"DishPointerModel", "comesFirst", "(II)Z"⟩, 12) := ⟨⟨by decide +kernel, by decide +kernel⟩, List.mem_of_getElem? (i := 627) (by decide +kernel), List.mem_of_getElem? (i := 855) (by decide +kernel), List.mem_of_getElem? (i := 856) (by decide +kernel)⟩
theorem lw_p40 : lw_okq (⟨"DishPointerModel", "runs", "(I)I"⟩, 12) := ⟨⟨by decide +kernel, by decide +kernel⟩, List.mem_of_getElem? (i := 627) (by decide +kernel), List.mem_of_getElem? (i := 863) (by decide +kernel), List.mem_of_getElem? (i := 864) (by decide +kernel)⟩
theorem lw_p41 : lw_okq (⟨"DishPointerModel", "minute", "()I"⟩, 12) := ⟨⟨by decide +kernel, by decide +kernel⟩, List.mem_of_getElem? (i := 627) (by decide +kernel), List.mem_of_getElem? (i := 867) (by decide +kernel), List.mem_of_getElem? (i := 868) (by decide +kernel)⟩
theorem lw_p42 : lw_okq (⟨"DishPointerModel", "pushes", "(I)V"⟩, 12) := ⟨⟨by decide +kernel, by decide +kernel⟩, List.mem_of_getElem? (i := 627) (by decide +kernel), List.mem_of_getElem? (i := 871) (by decide +kernel), List.mem_of_getElem? (i := 872) (by decide +kernel)⟩
theorem lw_p43 : lw_okq (⟨"DishPointerModel", "begins", "(I)V"⟩, 12) := ⟨⟨by decide +kernel, by decide +kernel⟩, List.mem_of_getElem? (i := 627) (by decide +kernel), List.mem_of_getElem? (i := 875) (by decide +kernel), List.mem_of_getElem? (i := 876) (by decide +kernel)⟩
theorem lw_p44 : lw_okq (⟨"DishPointerModel", "holds", "()V"⟩, 12) := ⟨⟨by decide +kernel, by decide +kernel⟩, List.mem_of_getElem? (i := 627) (by decide +kernel), List.mem_of_getElem? (i := 879) (by decide +kernel), List.mem_of_getElem? (i := 880) (by decide +kernel)⟩
theorem lw_p45 : lw_okq (⟨"DishPointerModel", "copies", "([I[I)V"⟩, 12) := ⟨⟨by decide +kernel, by decide +kernel⟩, List.mem_of_getElem? (i := 627) (by decide +kernel), List.mem_of_getElem? (i := 887) (by decide +kernel), List.mem_of_getElem? (i := 888) (by decide +kernel)⟩
theorem lw_p46 : lw_okq (⟨"DishPointerModel", "faultAt", "()I"⟩, 12) := ⟨⟨by decide +kernel, by decide +kernel⟩, List.mem_of_getElem? (i := 627) (by decide +kernel), List.mem_of_getElem? (i := 907) (by decide +kernel), List.mem_of_getElem? (i := 908) (by decide +kernel)⟩
theorem lw_p47 : lw_okq (⟨"DishPointerModel", "reason", "(I)I"⟩, 12) := ⟨⟨by decide +kernel, by decide +kernel⟩, List.mem_of_getElem? (i := 627) (by decide +kernel), List.mem_of_getElem? (i := 911) (by decide +kernel), List.mem_of_getElem? (i := 912) (by decide +kernel)⟩
def lw_privs_3 : List (MethodName × Nat) := [(⟨"DishPointerModel", "leads", "(II)V"⟩, 12), (⟨"DishPointerModel", "goes", "(II)V"⟩, 12), (⟨"DishPointerModel", "adds", "(IIIIII)V"⟩, 12), (⟨"DishPointerModel", "puts", "(III)V"⟩, 12), (⟨"DishPointerModel", "isTarget", "(I)Z"⟩, 12), (⟨"DishPointerModel", "whyNot", "(I)I"⟩, 12), (⟨"DishPointerModel", "nextOne", "()I"⟩, 12), (⟨"DishPointerModel", "comesFirst", "(II)Z"⟩, 12), (⟨"DishPointerModel", "runs", "(I)I"⟩, 12), (⟨"DishPointerModel", "minute", "()I"⟩, 12), (⟨"DishPointerModel", "pushes", "(I)V"⟩, 12), (⟨"DishPointerModel", "begins", "(I)V"⟩, 12), (⟨"DishPointerModel", "holds", "()V"⟩, 12), (⟨"DishPointerModel", "copies", "([I[I)V"⟩, 12), (⟨"DishPointerModel", "faultAt", "()I"⟩, 12), (⟨"DishPointerModel", "reason", "(I)I"⟩, 12)]
theorem lw_r3 : ∀ q ∈ lw_privs_3, lw_okq q := List.forall_mem_cons.mpr ⟨lw_p32, List.forall_mem_cons.mpr ⟨lw_p33, List.forall_mem_cons.mpr ⟨lw_p34, List.forall_mem_cons.mpr ⟨lw_p35, List.forall_mem_cons.mpr ⟨lw_p36, List.forall_mem_cons.mpr ⟨lw_p37, List.forall_mem_cons.mpr ⟨lw_p38, List.forall_mem_cons.mpr ⟨lw_p39, List.forall_mem_cons.mpr ⟨lw_p40, List.forall_mem_cons.mpr ⟨lw_p41, List.forall_mem_cons.mpr ⟨lw_p42, List.forall_mem_cons.mpr ⟨lw_p43, List.forall_mem_cons.mpr ⟨lw_p44, List.forall_mem_cons.mpr ⟨lw_p45, List.forall_mem_cons.mpr ⟨lw_p46, List.forall_mem_cons.mpr ⟨lw_p47, fun _ h => absurd h List.not_mem_nil⟩⟩⟩⟩⟩⟩⟩⟩⟩⟩⟩⟩⟩⟩⟩⟩
theorem lw_p48 : lw_okq (⟨"DishPointerModel", "isPart", "(II)Z"⟩, 12) := ⟨⟨by decide +kernel, by decide +kernel⟩, List.mem_of_getElem? (i := 627) (by decide +kernel), List.mem_of_getElem? (i := 915) (by decide +kernel), List.mem_of_getElem? (i := 916) (by decide +kernel)⟩
def lw_privs_4 : List (MethodName × Nat) := [(⟨"DishPointerModel", "isPart", "(II)Z"⟩, 12)]
theorem lw_r4 : ∀ q ∈ lw_privs_4, lw_okq q := List.forall_mem_cons.mpr ⟨lw_p48, fun _ h => absurd h List.not_mem_nil⟩
def lw_privs : List (MethodName × Nat) := lw_privs_1 ++ (lw_privs_2 ++ (lw_privs_3 ++ (lw_privs_4)))
def lw_tbl : List Cond := k2_sels lw_privs ++ tables_1
theorem lw_privs_ok : ∀ q ∈ lw_privs, lw_okq q := by
  show ∀ q ∈ lw_privs_1 ++ (lw_privs_2 ++ (lw_privs_3 ++ (lw_privs_4))), lw_okq q
  exact List.forall_mem_append.mpr ⟨lw_r1, List.forall_mem_append.mpr ⟨lw_r2, List.forall_mem_append.mpr ⟨lw_r3, lw_r4⟩⟩⟩
-- ===== end of PART A; then your names; then what follows =====
end
section
/-! ===== BEGIN words of one list among another's, by their places ===== -/
theorem goodIn_r {big : List Cond} (ws : List Cond) (ps : List Nat) (hp : ws = ps.filterMap (fun i => big[i]?)) (h : ws.all goodWord = true) : GoodIn big ws := by
  intro w hw
  have h1 := List.all_eq_true.mp h w hw
  rw [hp] at hw
  obtain ⟨i, -, hi⟩ := List.mem_filterMap.mp hw
  have hm : w ∈ big := by first | exact List.mem_of_getElem? hi | exact List.getElem?_mem hi
  exact ⟨hm, good_of_word h1⟩
theorem goodIn_app {big a b : List Cond} (ha : GoodIn big a) (hb : GoodIn big b) : GoodIn big (a ++ b) := fun w h => (List.mem_append.mp h).elim (ha w) (hb w)
theorem goodIn_ca {big a b : List Cond} {c : Cond} (ha : GoodIn big (c :: a)) (hb : GoodIn big b) : GoodIn big (c :: (a ++ b)) := fun w h => (List.mem_cons.mp h).elim (fun e => ha w (List.mem_cons.mpr (Or.inl e))) (fun h => (List.mem_append.mp h).elim (fun h => ha w (List.mem_cons.mpr (Or.inr h))) (hb w))
theorem goodIn_sub {big ws : List Cond} (hm : ∀ w ∈ ws, w ∈ big) (h : ws.all goodWord = true) : GoodIn big ws := fun w hw => ⟨hm w hw, good_of_word (List.all_eq_true.mp h w hw)⟩
/-! ===== END ===== -/

/-! ===== BEGIN printed: names, fields, word lists, decode rows ===== -/
def RX0 : String := "DishPointer$Axis"
def TX0 : u_T := fun k => match k with
  | 0 => ("DishPointer$Axis", "least", "I", true)
  | 1 => ("DishPointer$Axis", "most", "I", true)
  | 2 => ("DishPointer$Axis", "start", "I", true)
  | 3 => ("DishPointer$Axis", "play", "I", false)
  | 4 => ("DishPointer$Axis", "side", "I", false)
  | 5 => ("DishPointer$Axis", "speed", "I", false)
  | 6 => ("DishPointer$Axis", "motor", "I", false)
  | 7 => ("DishPointer$Axis", "slack", "I", false)
  | 8 => ("DishPointer$Axis", "wentUp", "I", false)
  | _ => ("DishPointer$Axis", "wentDown", "I", false)
def tyX0 : Nat → FieldType := fun k => match k with
  | 0 => .int
  | 1 => .int
  | 2 => .int
  | 3 => .int
  | 4 => .int
  | 5 => .int
  | 6 => .int
  | 7 => .int
  | 8 => .int
  | _ => .int
abbrev wsX00 : List Cond := u_ws RX0 TX0 10
theorem nmX0 : ∀ a, a < 10 → ∀ b, b < 10 → a ≠ b → (TX0 a).2.1 ≠ (TX0 b).2.1 := by decide +kernel
theorem tyX0_ok : ∀ k, k < 10 → parseFieldDescriptor (TX0 k).2.2.1 = some (tyX0 k) := by decide +kernel
abbrev cX0_init : ByteArray := prog_2_method_1_code
def yX0_init : MethodName := ⟨RX0, "<init>", "(IIIII)V"⟩
abbrev cX0_copyFrom : ByteArray := prog_2_method_2_code
def yX0_copyFrom : MethodName := ⟨RX0, "copyFrom", "(LDishPointer$Axis;)V"⟩
abbrev cX0_dish : ByteArray := prog_2_method_3_code
def yX0_dish : MethodName := ⟨RX0, "dish", "()I"⟩
abbrev cX0_reaches : ByteArray := prog_2_method_4_code
def yX0_reaches : MethodName := ⟨RX0, "reaches", "(I)Z"⟩
abbrev cX0_change : ByteArray := prog_2_method_5_code
def yX0_change : MethodName := ⟨RX0, "change", "(II)I"⟩
abbrev cX0_moveTo : ByteArray := prog_2_method_6_code
def yX0_moveTo : MethodName := ⟨RX0, "moveTo", "(I)V"⟩
abbrev cX0_follow : ByteArray := prog_2_method_7_code
def yX0_follow : MethodName := ⟨RX0, "follow", "(LDishPointer$Way;)V"⟩
abbrev cX0_tell : ByteArray := prog_2_method_8_code
def yX0_tell : MethodName := ⟨RX0, "tell", "(I)I"⟩
def RX1 : String := "DishPointer$History"
def TX1 : u_T := fun k => match k with
  | 0 => ("DishPointer$History", "states", "[LDishPointer$State;", true)
  | _ => ("DishPointer$History", "size", "I", false)
def tyX1 : Nat → FieldType := fun k => match k with
  | 0 => .array (.object "DishPointer$State")
  | _ => .int
abbrev wsX10 : List Cond := u_ws RX1 TX1 2
theorem nmX1 : ∀ a, a < 2 → ∀ b, b < 2 → a ≠ b → (TX1 a).2.1 ≠ (TX1 b).2.1 := by decide +kernel
theorem tyX1_ok : ∀ k, k < 2 → parseFieldDescriptor (TX1 k).2.2.1 = some (tyX1 k) := by decide +kernel
abbrev cX1_init : ByteArray := prog_3_method_1_code
def yX1_init : MethodName := ⟨RX1, "<init>", "()V"⟩
abbrev cX1_record : ByteArray := prog_3_method_2_code
def yX1_record : MethodName := ⟨RX1, "record", "(LDishPointer$State;)V"⟩
abbrev cX1_dropOldest : ByteArray := prog_3_method_3_code
def yX1_dropOldest : MethodName := ⟨RX1, "dropOldest", "()V"⟩
abbrev cX1_restoreLatest : ByteArray := prog_3_method_4_code
def yX1_restoreLatest : MethodName := ⟨RX1, "restoreLatest", "(LDishPointer$State;)V"⟩
def RX2 : String := "DishPointer$State"
def TX2 : u_T := fun k => match k with
  | 0 => ("DishPointer$State", "time", "I", false)
  | 1 => ("DishPointer$State", "slews", "I", false)
  | 2 => ("DishPointer$State", "holds", "I", false)
  | 3 => ("DishPointer$State", "settings", "[I", true)
  | 4 => ("DishPointer$State", "gusts", "[I", true)
  | 5 => ("DishPointer$State", "azimuth", "LDishPointer$Axis;", true)
  | 6 => ("DishPointer$State", "elevation", "LDishPointer$Axis;", true)
  | 7 => ("DishPointer$State", "targets", "[LDishPointer$Target;", true)
  | 8 => ("DishPointer$State", "lowWay", "LDishPointer$Way;", true)
  | 9 => ("DishPointer$State", "highWay", "LDishPointer$Way;", true)
  | _ => ("DishPointer$State", "riseWay", "LDishPointer$Way;", true)
def tyX2 : Nat → FieldType := fun k => match k with
  | 0 => .int
  | 1 => .int
  | 2 => .int
  | 3 => .array .int
  | 4 => .array .int
  | 5 => .object "DishPointer$Axis"
  | 6 => .object "DishPointer$Axis"
  | 7 => .array (.object "DishPointer$Target")
  | 8 => .object "DishPointer$Way"
  | 9 => .object "DishPointer$Way"
  | _ => .object "DishPointer$Way"
abbrev wsX20 : List Cond := u_ws RX2 TX2 11
theorem nmX2 : ∀ a, a < 11 → ∀ b, b < 11 → a ≠ b → (TX2 a).2.1 ≠ (TX2 b).2.1 := by decide +kernel
theorem tyX2_ok : ∀ k, k < 11 → parseFieldDescriptor (TX2 k).2.2.1 = some (tyX2 k) := by decide +kernel
abbrev cX2_init : ByteArray := prog_4_method_1_code
def yX2_init : MethodName := ⟨RX2, "<init>", "()V"⟩
abbrev cX2_copyFrom : ByteArray := prog_4_method_2_code
def yX2_copyFrom : MethodName := ⟨RX2, "copyFrom", "(LDishPointer$State;)V"⟩
abbrev cX2_changeSetting : ByteArray := prog_4_method_3_code
def yX2_changeSetting : MethodName := ⟨RX2, "changeSetting", "(II)I"⟩
abbrev cX2_changeGust : ByteArray := prog_4_method_4_code
def yX2_changeGust : MethodName := ⟨RX2, "changeGust", "(II)I"⟩
abbrev cX2_axisNumber : ByteArray := prog_4_method_5_code
def yX2_axisNumber : MethodName := ⟨RX2, "axisNumber", "(I)LDishPointer$Axis;"⟩
abbrev cX2_day : ByteArray := prog_4_method_6_code
def yX2_day : MethodName := ⟨RX2, "day", "()I"⟩
abbrev cX2_gustToday : ByteArray := prog_4_method_7_code
def yX2_gustToday : MethodName := ⟨RX2, "gustToday", "()I"⟩
abbrev cX2_kindOfDay : ByteArray := prog_4_method_8_code
def yX2_kindOfDay : MethodName := ⟨RX2, "kindOfDay", "()I"⟩
abbrev cX2_tell : ByteArray := prog_4_method_9_code
def yX2_tell : MethodName := ⟨RX2, "tell", "(I)I"⟩
abbrev cX2_plannedWay : ByteArray := prog_4_method_10_code
def yX2_plannedWay : MethodName := ⟨RX2, "plannedWay", "(II)LDishPointer$Way;"⟩
abbrev cX2_wayRise : ByteArray := prog_4_method_11_code
def yX2_wayRise : MethodName := ⟨RX2, "wayRise", "(I)LDishPointer$Way;"⟩
abbrev cX2_wayAround : ByteArray := prog_4_method_12_code
def yX2_wayAround : MethodName := ⟨RX2, "wayAround", "(I)LDishPointer$Way;"⟩
abbrev cX2_isLowWayTaken : ByteArray := prog_4_method_13_code
def yX2_isLowWayTaken : MethodName := ⟨RX2, "isLowWayTaken", "()Z"⟩
abbrev cX2_followWays : ByteArray := prog_4_method_14_code
def yX2_followWays : MethodName := ⟨RX2, "followWays", "(LDishPointer$Way;LDishPointer$Way;)I"⟩
abbrev cX2_hasTarget : ByteArray := prog_4_method_15_code
def yX2_hasTarget : MethodName := ⟨RX2, "hasTarget", "(I)Z"⟩
abbrev cX2_targetsIn : ByteArray := prog_4_method_16_code
def yX2_targetsIn : MethodName := ⟨RX2, "targetsIn", "(I)I"⟩
abbrev cX2_numberUnderWay : ByteArray := prog_4_method_17_code
def yX2_numberUnderWay : MethodName := ⟨RX2, "numberUnderWay", "()I"⟩
abbrev cX2_minutesUntilDone : ByteArray := prog_4_method_18_code
def yX2_minutesUntilDone : MethodName := ⟨RX2, "minutesUntilDone", "()I"⟩
abbrev cX2_append : ByteArray := prog_4_method_19_code
def yX2_append : MethodName := ⟨RX2, "append", "(IIIIII)I"⟩
abbrev cX2_remove : ByteArray := prog_4_method_20_code
def yX2_remove : MethodName := ⟨RX2, "remove", "(I)V"⟩
abbrev cX2_reasonAgainst : ByteArray := prog_4_method_21_code
def yX2_reasonAgainst : MethodName := ⟨RX2, "reasonAgainst", "(LDishPointer$Target;)I"⟩
abbrev cX2_bestToBegin : ByteArray := prog_4_method_22_code
def yX2_bestToBegin : MethodName := ⟨RX2, "bestToBegin", "()I"⟩
abbrev cX2_letPass : ByteArray := prog_4_method_23_code
def yX2_letPass : MethodName := ⟨RX2, "letPass", "(I)V"⟩
abbrev cX2_nextEvent : ByteArray := prog_4_method_24_code
def yX2_nextEvent : MethodName := ⟨RX2, "nextEvent", "()I"⟩
abbrev cX2_sooner : ByteArray := prog_4_method_25_code
def yX2_sooner : MethodName := ⟨RX2, "sooner", "(II)I"⟩
abbrev cX2_beginHold : ByteArray := prog_4_method_26_code
def yX2_beginHold : MethodName := ⟨RX2, "beginHold", "()V"⟩
abbrev cX2_endWhatIsOver : ByteArray := prog_4_method_27_code
def yX2_endWhatIsOver : MethodName := ⟨RX2, "endWhatIsOver", "()V"⟩
abbrev cX2_goOnWith : ByteArray := prog_4_method_28_code
def yX2_goOnWith : MethodName := ⟨RX2, "goOnWith", "(LDishPointer$Target;)V"⟩
abbrev cX2_lookAtSlew : ByteArray := prog_4_method_29_code
def yX2_lookAtSlew : MethodName := ⟨RX2, "lookAtSlew", "(LDishPointer$Target;)V"⟩
abbrev cX2_begin : ByteArray := prog_4_method_30_code
def yX2_begin : MethodName := ⟨RX2, "begin", "(LDishPointer$Target;)V"⟩
def RX3 : String := "DishPointer$Target"
def TX3 : u_T := fun k => match k with
  | 0 => ("DishPointer$Target", "azimuth", "I", false)
  | 1 => ("DishPointer$Target", "elevation", "I", false)
  | 2 => ("DishPointer$Target", "from", "I", false)
  | 3 => ("DishPointer$Target", "to", "I", false)
  | 4 => ("DishPointer$Target", "dwell", "I", false)
  | 5 => ("DishPointer$Target", "priority", "I", false)
  | 6 => ("DishPointer$Target", "state", "I", false)
  | 7 => ("DishPointer$Target", "begunAt", "I", false)
  | 8 => ("DishPointer$Target", "slewedAt", "I", false)
  | 9 => ("DishPointer$Target", "doneAt", "I", false)
  | 10 => ("DishPointer$Target", "error", "I", false)
  | 11 => ("DishPointer$Target", "breaks", "I", false)
  | 12 => ("DishPointer$Target", "place", "I", false)
  | _ => ("DishPointer$Target", "slewLookedAt", "Z", false)
def tyX3 : Nat → FieldType := fun k => match k with
  | 0 => .int
  | 1 => .int
  | 2 => .int
  | 3 => .int
  | 4 => .int
  | 5 => .int
  | 6 => .int
  | 7 => .int
  | 8 => .int
  | 9 => .int
  | 10 => .int
  | 11 => .int
  | 12 => .int
  | _ => .boolean
abbrev wsX30 : List Cond := u_ws RX3 TX3 14
theorem nmX3 : ∀ a, a < 14 → ∀ b, b < 14 → a ≠ b → (TX3 a).2.1 ≠ (TX3 b).2.1 := by decide +kernel
theorem tyX3_ok : ∀ k, k < 14 → parseFieldDescriptor (TX3 k).2.2.1 = some (tyX3 k) := by decide +kernel
abbrev cX3_init : ByteArray := prog_5_method_1_code
def yX3_init : MethodName := ⟨RX3, "<init>", "()V"⟩
abbrev cX3_copyFrom : ByteArray := prog_5_method_2_code
def yX3_copyFrom : MethodName := ⟨RX3, "copyFrom", "(LDishPointer$Target;)V"⟩
abbrev cX3_tell : ByteArray := prog_5_method_3_code
def yX3_tell : MethodName := ⟨RX3, "tell", "(I)I"⟩
abbrev cX3_ifBegun : ByteArray := prog_5_method_4_code
def yX3_ifBegun : MethodName := ⟨RX3, "ifBegun", "(I)I"⟩
abbrev cX3_isBetterThan : ByteArray := prog_5_method_5_code
def yX3_isBetterThan : MethodName := ⟨RX3, "isBetterThan", "(LDishPointer$Target;)Z"⟩
def RX4 : String := "DishPointer$TargetText"
def TX4 : u_T := fun k => match k with
  | 0 => ("DishPointer$TargetText", "signs", "[C", true)
  | 1 => ("DishPointer$TargetText", "length", "I", false)
  | 2 => ("DishPointer$TargetText", "numbers", "[I", true)
  | 3 => ("DishPointer$TargetText", "entries", "I", false)
  | 4 => ("DishPointer$TargetText", "faultPlace", "I", false)
  | _ => ("DishPointer$TargetText", "faultReason", "I", false)
def tyX4 : Nat → FieldType := fun k => match k with
  | 0 => .array .char
  | 1 => .int
  | 2 => .array .int
  | 3 => .int
  | 4 => .int
  | _ => .int
abbrev wsX40 : List Cond := u_ws RX4 TX4 6
theorem nmX4 : ∀ a, a < 6 → ∀ b, b < 6 → a ≠ b → (TX4 a).2.1 ≠ (TX4 b).2.1 := by decide +kernel
theorem tyX4_ok : ∀ k, k < 6 → parseFieldDescriptor (TX4 k).2.2.1 = some (tyX4 k) := by decide +kernel
abbrev cX4_init : ByteArray := prog_6_method_1_code
def yX4_init : MethodName := ⟨RX4, "<init>", "()V"⟩
abbrev cX4_append : ByteArray := prog_6_method_2_code
def yX4_append : MethodName := ⟨RX4, "append", "(C)V"⟩
abbrev cX4_signAt : ByteArray := prog_6_method_3_code
def yX4_signAt : MethodName := ⟨RX4, "signAt", "(I)C"⟩
abbrev cX4_check : ByteArray := prog_6_method_4_code
def yX4_check : MethodName := ⟨RX4, "check", "(I)V"⟩
abbrev cX4_reasonAgainstEntry : ByteArray := prog_6_method_5_code
def yX4_reasonAgainstEntry : MethodName := ⟨RX4, "reasonAgainstEntry", "(II)I"⟩
abbrev cX4_readTarget : ByteArray := prog_6_method_6_code
def yX4_readTarget : MethodName := ⟨RX4, "readTarget", "(I)I"⟩
abbrev cX4_readPart : ByteArray := prog_6_method_7_code
def yX4_readPart : MethodName := ⟨RX4, "readPart", "(II)I"⟩
abbrev cX4_isDigit : ByteArray := prog_6_method_8_code
def yX4_isDigit : MethodName := ⟨RX4, "isDigit", "(C)Z"⟩
def RX5 : String := "DishPointer$Way"
def TX5 : u_T := fun k => match k with
  | 0 => ("DishPointer$Way", "place", "I", false)
  | 1 => ("DishPointer$Way", "turn", "I", false)
  | 2 => ("DishPointer$Way", "end", "I", false)
  | 3 => ("DishPointer$Way", "length", "I", false)
  | 4 => ("DishPointer$Way", "time", "I", false)
  | 5 => ("DishPointer$Way", "turns", "Z", false)
  | _ => ("DishPointer$Way", "possible", "Z", false)
def tyX5 : Nat → FieldType := fun k => match k with
  | 0 => .int
  | 1 => .int
  | 2 => .int
  | 3 => .int
  | 4 => .int
  | 5 => .boolean
  | _ => .boolean
abbrev wsX50 : List Cond := u_ws RX5 TX5 7
theorem nmX5 : ∀ a, a < 7 → ∀ b, b < 7 → a ≠ b → (TX5 a).2.1 ≠ (TX5 b).2.1 := by decide +kernel
theorem tyX5_ok : ∀ k, k < 7 → parseFieldDescriptor (TX5 k).2.2.1 = some (tyX5 k) := by decide +kernel
abbrev cX5_init : ByteArray := prog_7_method_1_code
def yX5_init : MethodName := ⟨RX5, "<init>", "()V"⟩
abbrev cX5_plan : ByteArray := prog_7_method_2_code
def yX5_plan : MethodName := ⟨RX5, "plan", "(LDishPointer$Axis;II)V"⟩
abbrev cX5_tell : ByteArray := prog_7_method_3_code
def yX5_tell : MethodName := ⟨RX5, "tell", "(I)I"⟩
def RX6 : String := "DishPointer"
def TX6 : u_T := fun k => match k with
  | 0 => ("DishPointer", "now", "LDishPointer$State;", true)
  | 1 => ("DishPointer", "trial", "LDishPointer$State;", true)
  | 2 => ("DishPointer", "history", "LDishPointer$History;", true)
  | _ => ("DishPointer", "text", "LDishPointer$TargetText;", true)
def tyX6 : Nat → FieldType := fun k => match k with
  | 0 => .object "DishPointer$State"
  | 1 => .object "DishPointer$State"
  | 2 => .object "DishPointer$History"
  | _ => .object "DishPointer$TargetText"
abbrev wsX60 : List Cond := u_ws RX6 TX6 4
theorem nmX6 : ∀ a, a < 4 → ∀ b, b < 4 → a ≠ b → (TX6 a).2.1 ≠ (TX6 b).2.1 := by decide +kernel
theorem tyX6_ok : ∀ k, k < 4 → parseFieldDescriptor (TX6 k).2.2.1 = some (tyX6 k) := by decide +kernel
abbrev cX6_init : ByteArray := prog_1_method_1_code
def yX6_init : MethodName := ⟨RX6, "<init>", "()V"⟩
abbrev cX6_set : ByteArray := prog_1_method_2_code
def yX6_set : MethodName := ⟨RX6, "set", "(II)I"⟩
abbrev cX6_setAxis : ByteArray := prog_1_method_3_code
def yX6_setAxis : MethodName := ⟨RX6, "setAxis", "(III)I"⟩
abbrev cX6_gust : ByteArray := prog_1_method_4_code
def yX6_gust : MethodName := ⟨RX6, "gust", "(II)I"⟩
abbrev cX6_count : ByteArray := prog_1_method_5_code
def yX6_count : MethodName := ⟨RX6, "count", "(I)I"⟩
abbrev cX6_axis : ByteArray := prog_1_method_6_code
def yX6_axis : MethodName := ⟨RX6, "axis", "(II)I"⟩
abbrev cX6_way : ByteArray := prog_1_method_7_code
def yX6_way : MethodName := ⟨RX6, "way", "(III)I"⟩
abbrev cX6_placeFor : ByteArray := prog_1_method_8_code
def yX6_placeFor : MethodName := ⟨RX6, "placeFor", "(I)I"⟩
abbrev cX6_slew : ByteArray := prog_1_method_9_code
def yX6_slew : MethodName := ⟨RX6, "slew", "(II)I"⟩
abbrev cX6_isWound : ByteArray := prog_1_method_10_code
def yX6_isWound : MethodName := ⟨RX6, "isWound", "()I"⟩
abbrev cX6_add : ByteArray := prog_1_method_11_code
def yX6_add : MethodName := ⟨RX6, "add", "(IIIIII)I"⟩
abbrev cX6_drop : ByteArray := prog_1_method_12_code
def yX6_drop : MethodName := ⟨RX6, "drop", "(I)I"⟩
abbrev cX6_target : ByteArray := prog_1_method_13_code
def yX6_target : MethodName := ⟨RX6, "target", "(II)I"⟩
abbrev cX6_why : ByteArray := prog_1_method_14_code
def yX6_why : MethodName := ⟨RX6, "why", "(I)I"⟩
abbrev cX6_next : ByteArray := prog_1_method_15_code
def yX6_next : MethodName := ⟨RX6, "next", "()I"⟩
abbrev cX6_run : ByteArray := prog_1_method_16_code
def yX6_run : MethodName := ⟨RX6, "run", "(I)I"⟩
abbrev cX6_ifRun : ByteArray := prog_1_method_17_code
def yX6_ifRun : MethodName := ⟨RX6, "ifRun", "(I)I"⟩
abbrev cX6_undo : ByteArray := prog_1_method_18_code
def yX6_undo : MethodName := ⟨RX6, "undo", "()I"⟩
abbrev cX6_type : ByteArray := prog_1_method_19_code
def yX6_type : MethodName := ⟨RX6, "type", "(I)I"⟩
abbrev cX6_clearText : ByteArray := prog_1_method_20_code
def yX6_clearText : MethodName := ⟨RX6, "clearText", "()I"⟩
abbrev cX6_fault : ByteArray := prog_1_method_21_code
def yX6_fault : MethodName := ⟨RX6, "fault", "(I)I"⟩
abbrev cX6_enter : ByteArray := prog_1_method_22_code
def yX6_enter : MethodName := ⟨RX6, "enter", "()I"⟩
abbrev cX6_isBetween : ByteArray := prog_1_method_23_code
def yX6_isBetween : MethodName := ⟨RX6, "isBetween", "(III)Z"⟩
abbrev cX6_foundTarget : ByteArray := prog_1_method_24_code
def yX6_foundTarget : MethodName := ⟨RX6, "foundTarget", "(I)I"⟩
abbrev cX6_isTargetInRange : ByteArray := prog_1_method_25_code
def yX6_isTargetInRange : MethodName := ⟨RX6, "isTargetInRange", "(IIIIII)Z"⟩
def RX7 : String := "DishPointerModel"
def TX7 : u_T := fun k => match k with
  | 0 => ("DishPointerModel", "s", "[I", true)
  | 1 => ("DishPointerModel", "was", "[I", true)
  | 2 => ("DishPointerModel", "aside", "[I", true)
  | 3 => ("DishPointerModel", "states", "I", false)
  | 4 => ("DishPointerModel", "text", "[I", true)
  | 5 => ("DishPointerModel", "typed", "I", false)
  | 6 => ("DishPointerModel", "turn", "I", false)
  | 7 => ("DishPointerModel", "turns", "Z", false)
  | 8 => ("DishPointerModel", "end", "I", false)
  | 9 => ("DishPointerModel", "at", "I", false)
  | 10 => ("DishPointerModel", "parts", "[I", true)
  | _ => ("DishPointerModel", "kept", "I", false)
def tyX7 : Nat → FieldType := fun k => match k with
  | 0 => .array .int
  | 1 => .array .int
  | 2 => .array .int
  | 3 => .int
  | 4 => .array .int
  | 5 => .int
  | 6 => .int
  | 7 => .boolean
  | 8 => .int
  | 9 => .int
  | 10 => .array .int
  | _ => .int
abbrev wsX70 : List Cond := u_ws RX7 TX7 12
theorem nmX7 : ∀ a, a < 12 → ∀ b, b < 12 → a ≠ b → (TX7 a).2.1 ≠ (TX7 b).2.1 := by decide +kernel
theorem tyX7_ok : ∀ k, k < 12 → parseFieldDescriptor (TX7 k).2.2.1 = some (tyX7 k) := by decide +kernel
abbrev cX7_init : ByteArray := prog_9_method_1_code
def yX7_init : MethodName := ⟨RX7, "<init>", "()V"⟩
abbrev cX7_in : ByteArray := prog_9_method_3_code
def yX7_in : MethodName := ⟨RX7, "in", "(III)Z"⟩
abbrev cX7_copies : ByteArray := prog_9_method_4_code
def yX7_copies : MethodName := ⟨RX7, "copies", "([I[I)V"⟩
abbrev cX7_records : ByteArray := prog_9_method_5_code
def yX7_records : MethodName := ⟨RX7, "records", "()V"⟩
abbrev cX7_ofAxis : ByteArray := prog_9_method_6_code
def yX7_ofAxis : MethodName := ⟨RX7, "ofAxis", "(II)I"⟩
abbrev cX7_of : ByteArray := prog_9_method_7_code
def yX7_of : MethodName := ⟨RX7, "of", "(II)I"⟩
abbrev cX7_puts : ByteArray := prog_9_method_8_code
def yX7_puts : MethodName := ⟨RX7, "puts", "(III)V"⟩
abbrev cX7_isTarget : ByteArray := prog_9_method_9_code
def yX7_isTarget : MethodName := ⟨RX7, "isTarget", "(I)Z"⟩
abbrev cX7_day : ByteArray := prog_9_method_10_code
def yX7_day : MethodName := ⟨RX7, "day", "()I"⟩
abbrev cX7_gustNow : ByteArray := prog_9_method_11_code
def yX7_gustNow : MethodName := ⟨RX7, "gustNow", "()I"⟩
abbrev cX7_kindOfDay : ByteArray := prog_9_method_12_code
def yX7_kindOfDay : MethodName := ⟨RX7, "kindOfDay", "()I"⟩
abbrev cX7_stands : ByteArray := prog_9_method_13_code
def yX7_stands : MethodName := ⟨RX7, "stands", "(I)I"⟩
abbrev cX7_finds : ByteArray := prog_9_method_14_code
def yX7_finds : MethodName := ⟨RX7, "finds", "(II)V"⟩
abbrev cX7_isInRange : ByteArray := prog_9_method_15_code
def yX7_isInRange : MethodName := ⟨RX7, "isInRange", "(II)Z"⟩
abbrev cX7_isPossible : ByteArray := prog_9_method_16_code
def yX7_isPossible : MethodName := ⟨RX7, "isPossible", "(II)Z"⟩
abbrev cX7_apart : ByteArray := prog_9_method_17_code
def yX7_apart : MethodName := ⟨RX7, "apart", "(II)I"⟩
abbrev cX7_lengthOf : ByteArray := prog_9_method_18_code
def yX7_lengthOf : MethodName := ⟨RX7, "lengthOf", "(II)I"⟩
abbrev cX7_timeOf : ByteArray := prog_9_method_19_code
def yX7_timeOf : MethodName := ⟨RX7, "timeOf", "(II)I"⟩
abbrev cX7_isCalm : ByteArray := prog_9_method_20_code
def yX7_isCalm : MethodName := ⟨RX7, "isCalm", "(I)Z"⟩
abbrev cX7_isBetter : ByteArray := prog_9_method_21_code
def yX7_isBetter : MethodName := ⟨RX7, "isBetter", "(II)Z"⟩
abbrev cX7_placeOf : ByteArray := prog_9_method_22_code
def yX7_placeOf : MethodName := ⟨RX7, "placeOf", "(I)I"⟩
abbrev cX7_goes : ByteArray := prog_9_method_23_code
def yX7_goes : MethodName := ⟨RX7, "goes", "(II)V"⟩
abbrev cX7_leads : ByteArray := prog_9_method_24_code
def yX7_leads : MethodName := ⟨RX7, "leads", "(II)V"⟩
abbrev cX7_slews : ByteArray := prog_9_method_25_code
def yX7_slews : MethodName := ⟨RX7, "slews", "(II)I"⟩
abbrev cX7_mostOf : ByteArray := prog_9_method_26_code
def yX7_mostOf : MethodName := ⟨RX7, "mostOf", "(I)I"⟩
abbrev cX7_set : ByteArray := prog_9_method_27_code
def yX7_set : MethodName := ⟨RX7, "set", "(II)I"⟩
abbrev cX7_isOfAxis : ByteArray := prog_9_method_28_code
def yX7_isOfAxis : MethodName := ⟨RX7, "isOfAxis", "(II)Z"⟩
abbrev cX7_setAxis : ByteArray := prog_9_method_29_code
def yX7_setAxis : MethodName := ⟨RX7, "setAxis", "(III)I"⟩
abbrev cX7_gust : ByteArray := prog_9_method_30_code
def yX7_gust : MethodName := ⟨RX7, "gust", "(II)I"⟩
abbrev cX7_underWay : ByteArray := prog_9_method_31_code
def yX7_underWay : MethodName := ⟨RX7, "underWay", "()I"⟩
abbrev cX7_manyIn : ByteArray := prog_9_method_32_code
def yX7_manyIn : MethodName := ⟨RX7, "manyIn", "(I)I"⟩
abbrev cX7_minutesLeft : ByteArray := prog_9_method_33_code
def yX7_minutesLeft : MethodName := ⟨RX7, "minutesLeft", "()I"⟩
abbrev cX7_count : ByteArray := prog_9_method_34_code
def yX7_count : MethodName := ⟨RX7, "count", "(I)I"⟩
abbrev cX7_axis : ByteArray := prog_9_method_35_code
def yX7_axis : MethodName := ⟨RX7, "axis", "(II)I"⟩
abbrev cX7_way : ByteArray := prog_9_method_36_code
def yX7_way : MethodName := ⟨RX7, "way", "(III)I"⟩
abbrev cX7_placeFor : ByteArray := prog_9_method_37_code
def yX7_placeFor : MethodName := ⟨RX7, "placeFor", "(I)I"⟩
abbrev cX7_slew : ByteArray := prog_9_method_38_code
def yX7_slew : MethodName := ⟨RX7, "slew", "(II)I"⟩
abbrev cX7_isWound : ByteArray := prog_9_method_39_code
def yX7_isWound : MethodName := ⟨RX7, "isWound", "()I"⟩
abbrev cX7_isWindow : ByteArray := prog_9_method_40_code
def yX7_isWindow : MethodName := ⟨RX7, "isWindow", "(II)Z"⟩
abbrev cX7_isGood : ByteArray := prog_9_method_41_code
def yX7_isGood : MethodName := ⟨RX7, "isGood", "(IIIIII)Z"⟩
abbrev cX7_adds : ByteArray := prog_9_method_42_code
def yX7_adds : MethodName := ⟨RX7, "adds", "(IIIIII)V"⟩
abbrev cX7_add : ByteArray := prog_9_method_43_code
def yX7_add : MethodName := ⟨RX7, "add", "(IIIIII)I"⟩
abbrev cX7_drop : ByteArray := prog_9_method_44_code
def yX7_drop : MethodName := ⟨RX7, "drop", "(I)I"⟩
abbrev cX7_target : ByteArray := prog_9_method_45_code
def yX7_target : MethodName := ⟨RX7, "target", "(II)I"⟩
abbrev cX7_whyNot : ByteArray := prog_9_method_46_code
def yX7_whyNot : MethodName := ⟨RX7, "whyNot", "(I)I"⟩
abbrev cX7_why : ByteArray := prog_9_method_47_code
def yX7_why : MethodName := ⟨RX7, "why", "(I)I"⟩
abbrev cX7_comesFirst : ByteArray := prog_9_method_48_code
def yX7_comesFirst : MethodName := ⟨RX7, "comesFirst", "(II)Z"⟩
abbrev cX7_nextOne : ByteArray := prog_9_method_49_code
def yX7_nextOne : MethodName := ⟨RX7, "nextOne", "()I"⟩
abbrev cX7_next : ByteArray := prog_9_method_50_code
def yX7_next : MethodName := ⟨RX7, "next", "()I"⟩
abbrev cX7_pushes : ByteArray := prog_9_method_51_code
def yX7_pushes : MethodName := ⟨RX7, "pushes", "(I)V"⟩
abbrev cX7_begins : ByteArray := prog_9_method_52_code
def yX7_begins : MethodName := ⟨RX7, "begins", "(I)V"⟩
abbrev cX7_holds : ByteArray := prog_9_method_53_code
def yX7_holds : MethodName := ⟨RX7, "holds", "()V"⟩
abbrev cX7_minute : ByteArray := prog_9_method_54_code
def yX7_minute : MethodName := ⟨RX7, "minute", "()I"⟩
abbrev cX7_runs : ByteArray := prog_9_method_55_code
def yX7_runs : MethodName := ⟨RX7, "runs", "(I)I"⟩
abbrev cX7_run : ByteArray := prog_9_method_56_code
def yX7_run : MethodName := ⟨RX7, "run", "(I)I"⟩
abbrev cX7_ifRun : ByteArray := prog_9_method_57_code
def yX7_ifRun : MethodName := ⟨RX7, "ifRun", "(I)I"⟩
abbrev cX7_undo : ByteArray := prog_9_method_58_code
def yX7_undo : MethodName := ⟨RX7, "undo", "()I"⟩
abbrev cX7_type : ByteArray := prog_9_method_59_code
def yX7_type : MethodName := ⟨RX7, "type", "(I)I"⟩
abbrev cX7_clearText : ByteArray := prog_9_method_60_code
def yX7_clearText : MethodName := ⟨RX7, "clearText", "()I"⟩
abbrev cX7_isPart : ByteArray := prog_9_method_61_code
def yX7_isPart : MethodName := ⟨RX7, "isPart", "(II)Z"⟩
abbrev cX7_reason : ByteArray := prog_9_method_62_code
def yX7_reason : MethodName := ⟨RX7, "reason", "(I)I"⟩
abbrev cX7_faultAt : ByteArray := prog_9_method_63_code
def yX7_faultAt : MethodName := ⟨RX7, "faultAt", "()I"⟩
abbrev cX7_fault : ByteArray := prog_9_method_64_code
def yX7_fault : MethodName := ⟨RX7, "fault", "(I)I"⟩
abbrev cX7_enter : ByteArray := prog_9_method_65_code
def yX7_enter : MethodName := ⟨RX7, "enter", "()I"⟩
def RJ9 : String := "java/lang/Math"
def TJ9 : u_T := fun k => match k with
  | _ => ("", "", "", false)
def tyJ9 : Nat → FieldType := fun k => match k with
  | _ => .int
abbrev wsJ90 : List Cond := u_ws RJ9 TJ9 0
theorem nmJ9 : ∀ a, a < 0 → ∀ b, b < 0 → a ≠ b → (TJ9 a).2.1 ≠ (TJ9 b).2.1 := by decide +kernel
theorem tyJ9_ok : ∀ k, k < 0 → parseFieldDescriptor (TJ9 k).2.2.1 = some (tyJ9 k) := by decide +kernel
abbrev cJ9_floorMod_7cf53 : ByteArray := prog_10_method_50_code
def yJ9_floorMod_7cf53 : MethodName := ⟨RJ9, "floorMod", "(II)I"⟩
abbrev cJ9_abs_0f7a4 : ByteArray := prog_10_method_59_code
def yJ9_abs_0f7a4 : MethodName := ⟨RJ9, "abs", "(I)I"⟩
abbrev cJ9_max_7cf53 : ByteArray := prog_10_method_65_code
def yJ9_max_7cf53 : MethodName := ⟨RJ9, "max", "(II)I"⟩
abbrev cJ9_min_7cf53 : ByteArray := prog_10_method_69_code
def yJ9_min_7cf53 : MethodName := ⟨RJ9, "min", "(II)I"⟩
def RJ10 : String := "java/lang/System"
def TJ10 : u_T := fun k => match k with
  | _ => ("", "", "", false)
def tyJ10 : Nat → FieldType := fun k => match k with
  | _ => .int
abbrev wsJ100 : List Cond := u_ws RJ10 TJ10 0
theorem nmJ10 : ∀ a, a < 0 → ∀ b, b < 0 → a ≠ b → (TJ10 a).2.1 ≠ (TJ10 b).2.1 := by decide +kernel
theorem tyJ10_ok : ∀ k, k < 0 → parseFieldDescriptor (TJ10 k).2.2.1 = some (tyJ10 k) := by decide +kernel
def RL : String := "DishPointerLaw"
abbrev cL_law : ByteArray := code
def yL_law : MethodName := ⟨RL, "law", "([I)Z"⟩
def wsX0_init : List Cond := .code yX0_init cX0_init 6 none :: ([.methodLink RX0 3 objectInit, .instanceMethod objectInit, .code objectInit ⟨#[0xb1]⟩ 1 none, .fieldLink RX0 9 "DishPointer$Axis" "least" "I", .fieldLink RX0 15 "DishPointer$Axis" "most" "I", .fieldLink RX0 18 "DishPointer$Axis" "start" "I", .fieldLink RX0 21 "DishPointer$Axis" "motor" "I", .fieldLink RX0 24 "DishPointer$Axis" "play" "I", .fieldLink RX0 27 "DishPointer$Axis" "speed" "I"] ++ wsX00)
def wsX0_copyFrom : List Cond := .code yX0_copyFrom cX0_copyFrom 2 none :: ([.fieldLink RX0 24 "DishPointer$Axis" "play" "I", .fieldLink RX0 30 "DishPointer$Axis" "side" "I", .fieldLink RX0 27 "DishPointer$Axis" "speed" "I", .fieldLink RX0 21 "DishPointer$Axis" "motor" "I", .fieldLink RX0 33 "DishPointer$Axis" "slack" "I", .fieldLink RX0 36 "DishPointer$Axis" "wentUp" "I", .fieldLink RX0 39 "DishPointer$Axis" "wentDown" "I"] ++ wsX00)
def wsX0_dish : List Cond := .code yX0_dish cX0_dish 1 (some .int) :: ([.fieldLink RX0 21 "DishPointer$Axis" "motor" "I", .fieldLink RX0 33 "DishPointer$Axis" "slack" "I"] ++ wsX00)
def wsX0_reaches : List Cond := .code yX0_reaches cX0_reaches 2 (some .boolean) :: ([.fieldLink RX0 9 "DishPointer$Axis" "least" "I", .fieldLink RX0 15 "DishPointer$Axis" "most" "I"] ++ wsX00)
def wsX0_tell : List Cond := .code yX0_tell cX0_tell 2 (some .int) :: ([.fieldLink RX0 24 "DishPointer$Axis" "play" "I", .fieldLink RX0 30 "DishPointer$Axis" "side" "I", .fieldLink RX0 27 "DishPointer$Axis" "speed" "I", .fieldLink RX0 21 "DishPointer$Axis" "motor" "I", .fieldLink RX0 33 "DishPointer$Axis" "slack" "I", .fieldLink RX0 36 "DishPointer$Axis" "wentUp" "I", .fieldLink RX0 39 "DishPointer$Axis" "wentDown" "I", .fieldLink RX0 18 "DishPointer$Axis" "start" "I", .constant RX0 71 (-100001), .methodLink RX0 67 yX0_dish, .instanceMethod yX0_dish, .selects RX0 yX0_dish yX0_dish, .initialized RX0, .code yX0_dish cX0_dish 1 (some .int)] ++ wsX00)
def wsX0_change : List Cond := .code yX0_change cX0_change 4 (some .int) :: ([.fieldLink RX0 24 "DishPointer$Axis" "play" "I", .fieldLink RX0 33 "DishPointer$Axis" "slack" "I", .methodLink RX0 46 Lib.Math.min.name, .static Lib.Math.min.name, .initialized "java/lang/Math", .code Lib.Math.min.name Lib.Math.min.code 2 (some .int), .fieldLink RX0 30 "DishPointer$Axis" "side" "I", .fieldLink RX0 27 "DishPointer$Axis" "speed" "I", .methodLink RX0 42 yX0_tell, .instanceMethod yX0_tell, .selects RX0 yX0_tell yX0_tell, .initialized RX0, .code yX0_tell cX0_tell 2 (some .int), .fieldLink RX0 21 "DishPointer$Axis" "motor" "I", .fieldLink RX0 36 "DishPointer$Axis" "wentUp" "I", .fieldLink RX0 39 "DishPointer$Axis" "wentDown" "I", .fieldLink RX0 18 "DishPointer$Axis" "start" "I", .constant RX0 71 (-100001), .methodLink RX0 67 yX0_dish, .instanceMethod yX0_dish, .selects RX0 yX0_dish yX0_dish, .code yX0_dish cX0_dish 1 (some .int)] ++ wsX00)
def wsX0_moveTo : List Cond := .code yX0_moveTo cX0_moveTo 3 none :: ([.fieldLink RX0 21 "DishPointer$Axis" "motor" "I", .fieldLink RX0 36 "DishPointer$Axis" "wentUp" "I", .fieldLink RX0 33 "DishPointer$Axis" "slack" "I", .fieldLink RX0 24 "DishPointer$Axis" "play" "I", .methodLink RX0 46 Lib.Math.min.name, .static Lib.Math.min.name, .initialized "java/lang/Math", .code Lib.Math.min.name Lib.Math.min.code 2 (some .int), .fieldLink RX0 39 "DishPointer$Axis" "wentDown" "I", .methodLink RX0 52 Lib.Math.max.name, .static Lib.Math.max.name, .code Lib.Math.max.name Lib.Math.max.code 2 (some .int)] ++ wsX00)
def wsX0_follow : List Cond := .code yX0_follow cX0_follow 2 none :: ([.fieldLink RX0 55 "DishPointer$Way" "turn" "I", .fieldLink RX0 64 "DishPointer$Way" "end" "I", .methodLink RX0 60 yX0_moveTo, .instanceMethod yX0_moveTo, .selects RX0 yX0_moveTo yX0_moveTo, .initialized RX0, .code yX0_moveTo cX0_moveTo 3 none, .fieldLink RX0 21 "DishPointer$Axis" "motor" "I", .fieldLink RX0 36 "DishPointer$Axis" "wentUp" "I", .fieldLink RX0 33 "DishPointer$Axis" "slack" "I", .fieldLink RX0 24 "DishPointer$Axis" "play" "I", .methodLink RX0 46 Lib.Math.min.name, .static Lib.Math.min.name, .initialized "java/lang/Math", .code Lib.Math.min.name Lib.Math.min.code 2 (some .int), .fieldLink RX0 39 "DishPointer$Axis" "wentDown" "I", .methodLink RX0 52 Lib.Math.max.name, .static Lib.Math.max.name, .code Lib.Math.max.name Lib.Math.max.code 2 (some .int)] ++ wsX50 ++ wsX00)
def wsX5_init : List Cond := .code yX5_init cX5_init 1 none :: ([.methodLink RX5 3 objectInit, .instanceMethod objectInit, .code objectInit ⟨#[0xb1]⟩ 1 none])
def wsX3_init : List Cond := .code yX3_init cX3_init 1 none :: ([.methodLink RX3 3 objectInit, .instanceMethod objectInit, .code objectInit ⟨#[0xb1]⟩ 1 none, .fieldLink RX3 9 "DishPointer$Target" "state" "I"] ++ wsX30)
def wsX2_init_r1 : List Cond := [Cond.methodLink RX2 3 objectInit, Cond.instanceMethod objectInit, Cond.code objectInit ⟨#[0xb1]⟩ 1 none, Cond.arrayClass .int, Cond.fieldLink RX2 9 "DishPointer$State" "settings" "[I", Cond.fieldLink RX2 15 "DishPointer$State" "gusts" "[I", Cond.classLink RX2 18 RX0, Cond.instantiable RX0 10, Cond.initialized RX0, Cond.fieldLink RX2 23 "DishPointer$State" "azimuth" "LDishPointer$Axis;", Cond.fieldLink RX2 27 "DishPointer$State" "elevation" "LDishPointer$Axis;", Cond.classLink RX2 30 RX3, Cond.fieldLink RX2 32 "DishPointer$State" "targets" "[LDishPointer$Target;", Cond.classLink RX2 36 RX5, Cond.instantiable RX5 7, Cond.initialized RX5, Cond.fieldLink RX2 39 "DishPointer$State" "lowWay" "LDishPointer$Way;", Cond.fieldLink RX2 43 "DishPointer$State" "highWay" "LDishPointer$Way;", Cond.fieldLink RX2 46 "DishPointer$State" "riseWay" "LDishPointer$Way;", Cond.instantiable RX3 14, Cond.initialized RX3, Cond.methodLink RX2 20 yX0_init, Cond.instanceMethod yX0_init, Cond.code yX0_init cX0_init 6 none]
def wsX2_init_r2 : List Cond := [Cond.methodLink RX0 3 objectInit, Cond.fieldLink RX0 9 "DishPointer$Axis" "least" "I", Cond.fieldLink RX0 15 "DishPointer$Axis" "most" "I", Cond.fieldLink RX0 18 "DishPointer$Axis" "start" "I", Cond.fieldLink RX0 21 "DishPointer$Axis" "motor" "I", Cond.fieldLink RX0 24 "DishPointer$Axis" "play" "I", Cond.fieldLink RX0 27 "DishPointer$Axis" "speed" "I", Cond.instanceMethod yX5_init, Cond.code yX5_init cX5_init 1 none, Cond.methodLink RX5 3 objectInit, Cond.instanceMethod yX3_init, Cond.code yX3_init cX3_init 1 none, Cond.methodLink RX3 3 objectInit, Cond.fieldLink RX3 9 "DishPointer$Target" "state" "I"]
def wsX2_init : List Cond := .code yX2_init cX2_init 2 none :: ((wsX2_init_r1 ++ wsX2_init_r2) ++ wsX20 ++ wsX00 ++ wsX50 ++ wsX30)
def wsX1_init_r1 : List Cond := [Cond.methodLink RX1 3 objectInit, Cond.instanceMethod objectInit, Cond.code objectInit ⟨#[0xb1]⟩ 1 none, Cond.classLink RX1 9 RX2, Cond.fieldLink RX1 11 "DishPointer$History" "states" "[LDishPointer$State;", Cond.instantiable RX2 11, Cond.initialized RX2, Cond.methodLink RX1 17 yX2_init, Cond.instanceMethod yX2_init, Cond.code yX2_init cX2_init 2 none, Cond.methodLink RX2 3 objectInit, Cond.arrayClass .int, Cond.fieldLink RX2 9 "DishPointer$State" "settings" "[I", Cond.fieldLink RX2 15 "DishPointer$State" "gusts" "[I", Cond.classLink RX2 18 RX0, Cond.instantiable RX0 10, Cond.initialized RX0, Cond.fieldLink RX2 23 "DishPointer$State" "azimuth" "LDishPointer$Axis;", Cond.fieldLink RX2 27 "DishPointer$State" "elevation" "LDishPointer$Axis;", Cond.classLink RX2 30 RX3, Cond.fieldLink RX2 32 "DishPointer$State" "targets" "[LDishPointer$Target;", Cond.classLink RX2 36 RX5, Cond.instantiable RX5 7, Cond.initialized RX5]
def wsX1_init_r2 : List Cond := [Cond.fieldLink RX2 39 "DishPointer$State" "lowWay" "LDishPointer$Way;", Cond.fieldLink RX2 43 "DishPointer$State" "highWay" "LDishPointer$Way;", Cond.fieldLink RX2 46 "DishPointer$State" "riseWay" "LDishPointer$Way;", Cond.instantiable RX3 14, Cond.initialized RX3, Cond.methodLink RX2 20 yX0_init, Cond.instanceMethod yX0_init, Cond.code yX0_init cX0_init 6 none, Cond.methodLink RX0 3 objectInit, Cond.fieldLink RX0 9 "DishPointer$Axis" "least" "I", Cond.fieldLink RX0 15 "DishPointer$Axis" "most" "I", Cond.fieldLink RX0 18 "DishPointer$Axis" "start" "I", Cond.fieldLink RX0 21 "DishPointer$Axis" "motor" "I", Cond.fieldLink RX0 24 "DishPointer$Axis" "play" "I", Cond.fieldLink RX0 27 "DishPointer$Axis" "speed" "I", Cond.instanceMethod yX5_init, Cond.code yX5_init cX5_init 1 none, Cond.methodLink RX5 3 objectInit, Cond.instanceMethod yX3_init, Cond.code yX3_init cX3_init 1 none, Cond.methodLink RX3 3 objectInit, Cond.fieldLink RX3 9 "DishPointer$Target" "state" "I"]
def wsX1_init : List Cond := .code yX1_init cX1_init 2 none :: ((wsX1_init_r1 ++ wsX1_init_r2) ++ wsX10 ++ wsX20 ++ wsX00 ++ wsX50 ++ wsX30)
def wsX1_dropOldest : List Cond := .code yX1_dropOldest cX1_dropOldest 3 none :: ([.fieldLink RX1 11 "DishPointer$History" "states" "[LDishPointer$State;", .fieldLink RX1 18 "DishPointer$History" "size" "I"] ++ wsX10)
def wsX3_copyFrom : List Cond := .code yX3_copyFrom cX3_copyFrom 2 none :: ([.fieldLink RX3 15 "DishPointer$Target" "azimuth" "I", .fieldLink RX3 18 "DishPointer$Target" "elevation" "I", .fieldLink RX3 21 "DishPointer$Target" "from" "I", .fieldLink RX3 24 "DishPointer$Target" "to" "I", .fieldLink RX3 27 "DishPointer$Target" "dwell" "I", .fieldLink RX3 30 "DishPointer$Target" "priority" "I", .fieldLink RX3 9 "DishPointer$Target" "state" "I", .fieldLink RX3 33 "DishPointer$Target" "begunAt" "I", .fieldLink RX3 36 "DishPointer$Target" "slewedAt" "I", .fieldLink RX3 39 "DishPointer$Target" "doneAt" "I", .fieldLink RX3 42 "DishPointer$Target" "error" "I", .fieldLink RX3 45 "DishPointer$Target" "breaks" "I", .fieldLink RX3 48 "DishPointer$Target" "place" "I", .fieldLink RX3 51 "DishPointer$Target" "slewLookedAt" "Z"] ++ wsX30)
def wsX2_copyFrom_r1 : List Cond := [Cond.fieldLink RX2 50 "DishPointer$State" "time" "I", Cond.fieldLink RX2 54 "DishPointer$State" "slews" "I", Cond.fieldLink RX2 57 "DishPointer$State" "holds" "I", Cond.fieldLink RX2 9 "DishPointer$State" "settings" "[I", Cond.methodLink RX2 60 arraycopyName, Cond.native arraycopyName, Cond.static arraycopyName, Cond.initialized "java/lang/System", Cond.fieldLink RX2 15 "DishPointer$State" "gusts" "[I", Cond.fieldLink RX2 23 "DishPointer$State" "azimuth" "LDishPointer$Axis;", Cond.fieldLink RX2 27 "DishPointer$State" "elevation" "LDishPointer$Axis;", Cond.fieldLink RX2 32 "DishPointer$State" "targets" "[LDishPointer$Target;", Cond.methodLink RX2 66 yX0_copyFrom, Cond.instanceMethod yX0_copyFrom, Cond.selects RX0 yX0_copyFrom yX0_copyFrom, Cond.initialized RX0, Cond.code yX0_copyFrom cX0_copyFrom 2 none, Cond.fieldLink RX0 24 "DishPointer$Axis" "play" "I", Cond.fieldLink RX0 30 "DishPointer$Axis" "side" "I", Cond.fieldLink RX0 27 "DishPointer$Axis" "speed" "I", Cond.fieldLink RX0 21 "DishPointer$Axis" "motor" "I", Cond.fieldLink RX0 33 "DishPointer$Axis" "slack" "I", Cond.fieldLink RX0 36 "DishPointer$Axis" "wentUp" "I", Cond.fieldLink RX0 39 "DishPointer$Axis" "wentDown" "I"]
def wsX2_copyFrom_r2 : List Cond := [Cond.methodLink RX2 70 yX3_copyFrom, Cond.instanceMethod yX3_copyFrom, Cond.selects RX3 yX3_copyFrom yX3_copyFrom, Cond.initialized RX3, Cond.code yX3_copyFrom cX3_copyFrom 2 none, Cond.fieldLink RX3 15 "DishPointer$Target" "azimuth" "I", Cond.fieldLink RX3 18 "DishPointer$Target" "elevation" "I", Cond.fieldLink RX3 21 "DishPointer$Target" "from" "I", Cond.fieldLink RX3 24 "DishPointer$Target" "to" "I", Cond.fieldLink RX3 27 "DishPointer$Target" "dwell" "I", Cond.fieldLink RX3 30 "DishPointer$Target" "priority" "I", Cond.fieldLink RX3 9 "DishPointer$Target" "state" "I", Cond.fieldLink RX3 33 "DishPointer$Target" "begunAt" "I", Cond.fieldLink RX3 36 "DishPointer$Target" "slewedAt" "I", Cond.fieldLink RX3 39 "DishPointer$Target" "doneAt" "I", Cond.fieldLink RX3 42 "DishPointer$Target" "error" "I", Cond.fieldLink RX3 45 "DishPointer$Target" "breaks" "I", Cond.fieldLink RX3 48 "DishPointer$Target" "place" "I", Cond.fieldLink RX3 51 "DishPointer$Target" "slewLookedAt" "Z"]
def wsX2_copyFrom : List Cond := .code yX2_copyFrom cX2_copyFrom 3 none :: ((wsX2_copyFrom_r1 ++ wsX2_copyFrom_r2) ++ wsX20 ++ wsX00 ++ wsX30)
def wsX1_record_r1 : List Cond := [Cond.fieldLink RX1 18 "DishPointer$History" "size" "I", Cond.fieldLink RX1 11 "DishPointer$History" "states" "[LDishPointer$State;", Cond.methodLink RX1 22 yX1_dropOldest, Cond.instanceMethod yX1_dropOldest, Cond.selects RX1 yX1_dropOldest yX1_dropOldest, Cond.initialized RX1, Cond.code yX1_dropOldest cX1_dropOldest 3 none, Cond.methodLink RX1 25 yX2_copyFrom, Cond.instanceMethod yX2_copyFrom, Cond.selects RX2 yX2_copyFrom yX2_copyFrom, Cond.initialized RX2, Cond.code yX2_copyFrom cX2_copyFrom 3 none, Cond.fieldLink RX2 50 "DishPointer$State" "time" "I", Cond.fieldLink RX2 54 "DishPointer$State" "slews" "I", Cond.fieldLink RX2 57 "DishPointer$State" "holds" "I", Cond.fieldLink RX2 9 "DishPointer$State" "settings" "[I", Cond.methodLink RX2 60 arraycopyName, Cond.native arraycopyName, Cond.static arraycopyName, Cond.initialized "java/lang/System", Cond.fieldLink RX2 15 "DishPointer$State" "gusts" "[I", Cond.fieldLink RX2 23 "DishPointer$State" "azimuth" "LDishPointer$Axis;", Cond.fieldLink RX2 27 "DishPointer$State" "elevation" "LDishPointer$Axis;", Cond.fieldLink RX2 32 "DishPointer$State" "targets" "[LDishPointer$Target;"]
def wsX1_record_r2 : List Cond := [Cond.methodLink RX2 66 yX0_copyFrom, Cond.instanceMethod yX0_copyFrom, Cond.selects RX0 yX0_copyFrom yX0_copyFrom, Cond.initialized RX0, Cond.code yX0_copyFrom cX0_copyFrom 2 none, Cond.fieldLink RX0 24 "DishPointer$Axis" "play" "I", Cond.fieldLink RX0 30 "DishPointer$Axis" "side" "I", Cond.fieldLink RX0 27 "DishPointer$Axis" "speed" "I", Cond.fieldLink RX0 21 "DishPointer$Axis" "motor" "I", Cond.fieldLink RX0 33 "DishPointer$Axis" "slack" "I", Cond.fieldLink RX0 36 "DishPointer$Axis" "wentUp" "I", Cond.fieldLink RX0 39 "DishPointer$Axis" "wentDown" "I", Cond.methodLink RX2 70 yX3_copyFrom, Cond.instanceMethod yX3_copyFrom, Cond.selects RX3 yX3_copyFrom yX3_copyFrom, Cond.initialized RX3, Cond.code yX3_copyFrom cX3_copyFrom 2 none, Cond.fieldLink RX3 15 "DishPointer$Target" "azimuth" "I", Cond.fieldLink RX3 18 "DishPointer$Target" "elevation" "I", Cond.fieldLink RX3 21 "DishPointer$Target" "from" "I", Cond.fieldLink RX3 24 "DishPointer$Target" "to" "I", Cond.fieldLink RX3 27 "DishPointer$Target" "dwell" "I", Cond.fieldLink RX3 30 "DishPointer$Target" "priority" "I", Cond.fieldLink RX3 9 "DishPointer$Target" "state" "I"]
def wsX1_record_r3 : List Cond := [Cond.fieldLink RX3 33 "DishPointer$Target" "begunAt" "I", Cond.fieldLink RX3 36 "DishPointer$Target" "slewedAt" "I", Cond.fieldLink RX3 39 "DishPointer$Target" "doneAt" "I", Cond.fieldLink RX3 42 "DishPointer$Target" "error" "I", Cond.fieldLink RX3 45 "DishPointer$Target" "breaks" "I", Cond.fieldLink RX3 48 "DishPointer$Target" "place" "I", Cond.fieldLink RX3 51 "DishPointer$Target" "slewLookedAt" "Z"]
def wsX1_record : List Cond := .code yX1_record cX1_record 2 none :: ((wsX1_record_r1 ++ (wsX1_record_r2 ++ wsX1_record_r3)) ++ wsX10 ++ wsX20 ++ wsX00 ++ wsX30)
def wsX1_restoreLatest_r1 : List Cond := [Cond.fieldLink RX1 18 "DishPointer$History" "size" "I", Cond.fieldLink RX1 11 "DishPointer$History" "states" "[LDishPointer$State;", Cond.methodLink RX1 25 yX2_copyFrom, Cond.instanceMethod yX2_copyFrom, Cond.selects RX2 yX2_copyFrom yX2_copyFrom, Cond.initialized RX2, Cond.code yX2_copyFrom cX2_copyFrom 3 none, Cond.fieldLink RX2 50 "DishPointer$State" "time" "I", Cond.fieldLink RX2 54 "DishPointer$State" "slews" "I", Cond.fieldLink RX2 57 "DishPointer$State" "holds" "I", Cond.fieldLink RX2 9 "DishPointer$State" "settings" "[I", Cond.methodLink RX2 60 arraycopyName, Cond.native arraycopyName, Cond.static arraycopyName, Cond.initialized "java/lang/System", Cond.fieldLink RX2 15 "DishPointer$State" "gusts" "[I", Cond.fieldLink RX2 23 "DishPointer$State" "azimuth" "LDishPointer$Axis;", Cond.fieldLink RX2 27 "DishPointer$State" "elevation" "LDishPointer$Axis;", Cond.fieldLink RX2 32 "DishPointer$State" "targets" "[LDishPointer$Target;", Cond.methodLink RX2 66 yX0_copyFrom, Cond.instanceMethod yX0_copyFrom, Cond.selects RX0 yX0_copyFrom yX0_copyFrom, Cond.initialized RX0, Cond.code yX0_copyFrom cX0_copyFrom 2 none]
def wsX1_restoreLatest_r2 : List Cond := [Cond.fieldLink RX0 24 "DishPointer$Axis" "play" "I", Cond.fieldLink RX0 30 "DishPointer$Axis" "side" "I", Cond.fieldLink RX0 27 "DishPointer$Axis" "speed" "I", Cond.fieldLink RX0 21 "DishPointer$Axis" "motor" "I", Cond.fieldLink RX0 33 "DishPointer$Axis" "slack" "I", Cond.fieldLink RX0 36 "DishPointer$Axis" "wentUp" "I", Cond.fieldLink RX0 39 "DishPointer$Axis" "wentDown" "I", Cond.methodLink RX2 70 yX3_copyFrom, Cond.instanceMethod yX3_copyFrom, Cond.selects RX3 yX3_copyFrom yX3_copyFrom, Cond.initialized RX3, Cond.code yX3_copyFrom cX3_copyFrom 2 none, Cond.fieldLink RX3 15 "DishPointer$Target" "azimuth" "I", Cond.fieldLink RX3 18 "DishPointer$Target" "elevation" "I", Cond.fieldLink RX3 21 "DishPointer$Target" "from" "I", Cond.fieldLink RX3 24 "DishPointer$Target" "to" "I", Cond.fieldLink RX3 27 "DishPointer$Target" "dwell" "I", Cond.fieldLink RX3 30 "DishPointer$Target" "priority" "I", Cond.fieldLink RX3 9 "DishPointer$Target" "state" "I", Cond.fieldLink RX3 33 "DishPointer$Target" "begunAt" "I", Cond.fieldLink RX3 36 "DishPointer$Target" "slewedAt" "I", Cond.fieldLink RX3 39 "DishPointer$Target" "doneAt" "I", Cond.fieldLink RX3 42 "DishPointer$Target" "error" "I", Cond.fieldLink RX3 45 "DishPointer$Target" "breaks" "I"]
def wsX1_restoreLatest_r3 : List Cond := [Cond.fieldLink RX3 48 "DishPointer$Target" "place" "I", Cond.fieldLink RX3 51 "DishPointer$Target" "slewLookedAt" "Z"]
def wsX1_restoreLatest : List Cond := .code yX1_restoreLatest cX1_restoreLatest 2 none :: ((wsX1_restoreLatest_r1 ++ (wsX1_restoreLatest_r2 ++ wsX1_restoreLatest_r3)) ++ wsX10 ++ wsX20 ++ wsX00 ++ wsX30)
def wsX2_changeSetting : List Cond := .code yX2_changeSetting cX2_changeSetting 4 (some .int) :: ([.fieldLink RX2 9 "DishPointer$State" "settings" "[I"] ++ wsX20)
def wsX2_changeGust : List Cond := .code yX2_changeGust cX2_changeGust 4 (some .int) :: ([.fieldLink RX2 15 "DishPointer$State" "gusts" "[I"] ++ wsX20)
def wsX2_axisNumber : List Cond := .code yX2_axisNumber cX2_axisNumber 2 (some (.object "DishPointer$Axis")) :: ([.fieldLink RX2 23 "DishPointer$State" "azimuth" "LDishPointer$Axis;", .fieldLink RX2 27 "DishPointer$State" "elevation" "LDishPointer$Axis;"] ++ wsX20)
def wsX2_day : List Cond := .code yX2_day cX2_day 1 (some .int) :: ([.fieldLink RX2 50 "DishPointer$State" "time" "I"] ++ wsX20)
def wsX2_gustToday : List Cond := .code yX2_gustToday cX2_gustToday 2 (some .int) :: ([.fieldLink RX2 15 "DishPointer$State" "gusts" "[I", .methodLink RX2 73 yX2_day, .instanceMethod yX2_day, .selects RX2 yX2_day yX2_day, .initialized RX2, .code yX2_day cX2_day 1 (some .int), .fieldLink RX2 50 "DishPointer$State" "time" "I"] ++ wsX20)
def wsX2_kindOfDay : List Cond := .code yX2_kindOfDay cX2_kindOfDay 2 (some .int) :: ([.fieldLink RX2 9 "DishPointer$State" "settings" "[I", .methodLink RX2 77 yX2_gustToday, .instanceMethod yX2_gustToday, .selects RX2 yX2_gustToday yX2_gustToday, .initialized RX2, .code yX2_gustToday cX2_gustToday 2 (some .int), .fieldLink RX2 15 "DishPointer$State" "gusts" "[I", .methodLink RX2 73 yX2_day, .instanceMethod yX2_day, .selects RX2 yX2_day yX2_day, .code yX2_day cX2_day 1 (some .int), .fieldLink RX2 50 "DishPointer$State" "time" "I"] ++ wsX20)
def wsJ9_floorMod_7cf53 : List Cond := .code yJ9_floorMod_7cf53 cJ9_floorMod_7cf53 3 (some .int) :: ([])
def wsX2_tell_r1 : List Cond := [Cond.fieldLink RX2 50 "DishPointer$State" "time" "I", Cond.fieldLink RX2 9 "DishPointer$State" "settings" "[I", Cond.fieldLink RX2 54 "DishPointer$State" "slews" "I", Cond.fieldLink RX2 57 "DishPointer$State" "holds" "I", Cond.fieldLink RX2 23 "DishPointer$State" "azimuth" "LDishPointer$Axis;", Cond.constant RX2 86 (36000), Cond.constant RX2 93 (-100001), Cond.methodLink RX2 73 yX2_day, Cond.instanceMethod yX2_day, Cond.selects RX2 yX2_day yX2_day, Cond.initialized RX2, Cond.code yX2_day cX2_day 1 (some .int), Cond.methodLink RX2 77 yX2_gustToday, Cond.instanceMethod yX2_gustToday, Cond.selects RX2 yX2_gustToday yX2_gustToday, Cond.code yX2_gustToday cX2_gustToday 2 (some .int), Cond.fieldLink RX2 15 "DishPointer$State" "gusts" "[I", Cond.methodLink RX2 80 yX2_kindOfDay, Cond.instanceMethod yX2_kindOfDay, Cond.selects RX2 yX2_kindOfDay yX2_kindOfDay, Cond.code yX2_kindOfDay cX2_kindOfDay 2 (some .int), Cond.methodLink RX2 83 yX0_dish, Cond.instanceMethod yX0_dish, Cond.selects RX0 yX0_dish yX0_dish]
def wsX2_tell_r2 : List Cond := [Cond.initialized RX0, Cond.code yX0_dish cX0_dish 1 (some .int), Cond.fieldLink RX0 21 "DishPointer$Axis" "motor" "I", Cond.fieldLink RX0 33 "DishPointer$Axis" "slack" "I", Cond.methodLink RX2 87 yJ9_floorMod_7cf53, Cond.static yJ9_floorMod_7cf53, Cond.initialized RJ9, Cond.code yJ9_floorMod_7cf53 cJ9_floorMod_7cf53 3 (some .int)]
def wsX2_tell : List Cond := .code yX2_tell cX2_tell 2 (some .int) :: ((wsX2_tell_r1 ++ wsX2_tell_r2) ++ wsX20 ++ wsX00)
def wsX5_plan_r1 : List Cond := [Cond.fieldLink RX5 15 "DishPointer$Way" "place" "I", Cond.fieldLink RX5 21 "DishPointer$Axis" "side" "I", Cond.fieldLink RX5 24 "DishPointer$Axis" "slack" "I", Cond.fieldLink RX5 27 "DishPointer$Axis" "play" "I", Cond.fieldLink RX5 30 "DishPointer$Way" "turns" "Z", Cond.fieldLink RX5 34 "DishPointer$Way" "turn" "I", Cond.fieldLink RX5 37 "DishPointer$Way" "end" "I", Cond.fieldLink RX5 40 "DishPointer$Axis" "motor" "I", Cond.fieldLink RX5 47 "DishPointer$Way" "possible" "Z", Cond.methodLink RX5 50 Lib.Math.abs.name, Cond.static Lib.Math.abs.name, Cond.initialized "java/lang/Math", Cond.code Lib.Math.abs.name Lib.Math.abs.code 1 (some .int), Cond.fieldLink RX5 56 "DishPointer$Way" "length" "I", Cond.fieldLink RX5 59 "DishPointer$Axis" "speed" "I", Cond.fieldLink RX5 62 "DishPointer$Way" "time" "I", Cond.methodLink RX5 9 yX0_dish, Cond.instanceMethod yX0_dish, Cond.selects RX0 yX0_dish yX0_dish, Cond.initialized RX0, Cond.code yX0_dish cX0_dish 1 (some .int), Cond.fieldLink RX0 21 "DishPointer$Axis" "motor" "I", Cond.fieldLink RX0 33 "DishPointer$Axis" "slack" "I", Cond.methodLink RX5 43 yX0_reaches]
def wsX5_plan_r2 : List Cond := [Cond.instanceMethod yX0_reaches, Cond.selects RX0 yX0_reaches yX0_reaches, Cond.code yX0_reaches cX0_reaches 2 (some .boolean), Cond.fieldLink RX0 9 "DishPointer$Axis" "least" "I", Cond.fieldLink RX0 15 "DishPointer$Axis" "most" "I"]
def wsX5_plan : List Cond := .code yX5_plan cX5_plan 6 none :: ((wsX5_plan_r1 ++ wsX5_plan_r2) ++ wsX50 ++ wsX00)
def wsX2_plannedWay_r1 : List Cond := [Cond.fieldLink RX2 43 "DishPointer$State" "highWay" "LDishPointer$Way;", Cond.fieldLink RX2 46 "DishPointer$State" "riseWay" "LDishPointer$Way;", Cond.fieldLink RX2 9 "DishPointer$State" "settings" "[I", Cond.methodLink RX2 94 yX2_axisNumber, Cond.instanceMethod yX2_axisNumber, Cond.selects RX2 yX2_axisNumber yX2_axisNumber, Cond.initialized RX2, Cond.code yX2_axisNumber cX2_axisNumber 2 (some (.object "DishPointer$Axis")), Cond.fieldLink RX2 23 "DishPointer$State" "azimuth" "LDishPointer$Axis;", Cond.fieldLink RX2 27 "DishPointer$State" "elevation" "LDishPointer$Axis;", Cond.methodLink RX2 98 yX5_plan, Cond.instanceMethod yX5_plan, Cond.selects RX5 yX5_plan yX5_plan, Cond.initialized RX5, Cond.code yX5_plan cX5_plan 6 none, Cond.fieldLink RX5 15 "DishPointer$Way" "place" "I", Cond.fieldLink RX5 21 "DishPointer$Axis" "side" "I", Cond.fieldLink RX5 24 "DishPointer$Axis" "slack" "I", Cond.fieldLink RX5 27 "DishPointer$Axis" "play" "I", Cond.fieldLink RX5 30 "DishPointer$Way" "turns" "Z", Cond.fieldLink RX5 34 "DishPointer$Way" "turn" "I", Cond.fieldLink RX5 37 "DishPointer$Way" "end" "I", Cond.fieldLink RX5 40 "DishPointer$Axis" "motor" "I", Cond.fieldLink RX5 47 "DishPointer$Way" "possible" "Z"]
def wsX2_plannedWay_r2 : List Cond := [Cond.methodLink RX5 50 Lib.Math.abs.name, Cond.static Lib.Math.abs.name, Cond.initialized "java/lang/Math", Cond.code Lib.Math.abs.name Lib.Math.abs.code 1 (some .int), Cond.fieldLink RX5 56 "DishPointer$Way" "length" "I", Cond.fieldLink RX5 59 "DishPointer$Axis" "speed" "I", Cond.fieldLink RX5 62 "DishPointer$Way" "time" "I", Cond.methodLink RX5 9 yX0_dish, Cond.instanceMethod yX0_dish, Cond.selects RX0 yX0_dish yX0_dish, Cond.initialized RX0, Cond.code yX0_dish cX0_dish 1 (some .int), Cond.fieldLink RX0 21 "DishPointer$Axis" "motor" "I", Cond.fieldLink RX0 33 "DishPointer$Axis" "slack" "I", Cond.methodLink RX5 43 yX0_reaches, Cond.instanceMethod yX0_reaches, Cond.selects RX0 yX0_reaches yX0_reaches, Cond.code yX0_reaches cX0_reaches 2 (some .boolean), Cond.fieldLink RX0 9 "DishPointer$Axis" "least" "I", Cond.fieldLink RX0 15 "DishPointer$Axis" "most" "I"]
def wsX2_plannedWay : List Cond := .code yX2_plannedWay cX2_plannedWay 4 (some (.object "DishPointer$Way")) :: ((wsX2_plannedWay_r1 ++ wsX2_plannedWay_r2) ++ wsX20 ++ wsX50 ++ wsX00)
def wsX2_wayRise_r1 : List Cond := [Cond.fieldLink RX2 46 "DishPointer$State" "riseWay" "LDishPointer$Way;", Cond.fieldLink RX2 27 "DishPointer$State" "elevation" "LDishPointer$Axis;", Cond.fieldLink RX2 9 "DishPointer$State" "settings" "[I", Cond.methodLink RX2 98 yX5_plan, Cond.instanceMethod yX5_plan, Cond.selects RX5 yX5_plan yX5_plan, Cond.initialized RX5, Cond.code yX5_plan cX5_plan 6 none, Cond.fieldLink RX5 15 "DishPointer$Way" "place" "I", Cond.fieldLink RX5 21 "DishPointer$Axis" "side" "I", Cond.fieldLink RX5 24 "DishPointer$Axis" "slack" "I", Cond.fieldLink RX5 27 "DishPointer$Axis" "play" "I", Cond.fieldLink RX5 30 "DishPointer$Way" "turns" "Z", Cond.fieldLink RX5 34 "DishPointer$Way" "turn" "I", Cond.fieldLink RX5 37 "DishPointer$Way" "end" "I", Cond.fieldLink RX5 40 "DishPointer$Axis" "motor" "I", Cond.fieldLink RX5 47 "DishPointer$Way" "possible" "Z", Cond.methodLink RX5 50 Lib.Math.abs.name, Cond.static Lib.Math.abs.name, Cond.initialized "java/lang/Math", Cond.code Lib.Math.abs.name Lib.Math.abs.code 1 (some .int), Cond.fieldLink RX5 56 "DishPointer$Way" "length" "I", Cond.fieldLink RX5 59 "DishPointer$Axis" "speed" "I", Cond.fieldLink RX5 62 "DishPointer$Way" "time" "I"]
def wsX2_wayRise_r2 : List Cond := [Cond.methodLink RX5 9 yX0_dish, Cond.instanceMethod yX0_dish, Cond.selects RX0 yX0_dish yX0_dish, Cond.initialized RX0, Cond.code yX0_dish cX0_dish 1 (some .int), Cond.fieldLink RX0 21 "DishPointer$Axis" "motor" "I", Cond.fieldLink RX0 33 "DishPointer$Axis" "slack" "I", Cond.methodLink RX5 43 yX0_reaches, Cond.instanceMethod yX0_reaches, Cond.selects RX0 yX0_reaches yX0_reaches, Cond.code yX0_reaches cX0_reaches 2 (some .boolean), Cond.fieldLink RX0 9 "DishPointer$Axis" "least" "I", Cond.fieldLink RX0 15 "DishPointer$Axis" "most" "I"]
def wsX2_wayRise : List Cond := .code yX2_wayRise cX2_wayRise 2 (some (.object "DishPointer$Way")) :: ((wsX2_wayRise_r1 ++ wsX2_wayRise_r2) ++ wsX20 ++ wsX50 ++ wsX00)
def wsX2_isLowWayTaken : List Cond := .code yX2_isLowWayTaken cX2_isLowWayTaken 5 (some .boolean) :: ([.fieldLink RX2 39 "DishPointer$State" "lowWay" "LDishPointer$Way;", .fieldLink RX2 110 "DishPointer$Way" "place" "I", .methodLink RX2 113 Lib.Math.abs.name, .static Lib.Math.abs.name, .initialized "java/lang/Math", .code Lib.Math.abs.name Lib.Math.abs.code 1 (some .int), .fieldLink RX2 43 "DishPointer$State" "highWay" "LDishPointer$Way;", .fieldLink RX2 9 "DishPointer$State" "settings" "[I", .fieldLink RX2 117 "DishPointer$Way" "length" "I"] ++ wsX20 ++ wsX50)
def wsX2_wayAround_r1 : List Cond := [Cond.fieldLink RX2 39 "DishPointer$State" "lowWay" "LDishPointer$Way;", Cond.fieldLink RX2 23 "DishPointer$State" "azimuth" "LDishPointer$Axis;", Cond.constant RX2 86 (36000), Cond.fieldLink RX2 9 "DishPointer$State" "settings" "[I", Cond.fieldLink RX2 43 "DishPointer$State" "highWay" "LDishPointer$Way;", Cond.fieldLink RX2 102 "DishPointer$Way" "possible" "Z", Cond.methodLink RX2 98 yX5_plan, Cond.instanceMethod yX5_plan, Cond.selects RX5 yX5_plan yX5_plan, Cond.initialized RX5, Cond.code yX5_plan cX5_plan 6 none, Cond.fieldLink RX5 15 "DishPointer$Way" "place" "I", Cond.fieldLink RX5 21 "DishPointer$Axis" "side" "I", Cond.fieldLink RX5 24 "DishPointer$Axis" "slack" "I", Cond.fieldLink RX5 27 "DishPointer$Axis" "play" "I", Cond.fieldLink RX5 30 "DishPointer$Way" "turns" "Z", Cond.fieldLink RX5 34 "DishPointer$Way" "turn" "I", Cond.fieldLink RX5 37 "DishPointer$Way" "end" "I", Cond.fieldLink RX5 40 "DishPointer$Axis" "motor" "I", Cond.fieldLink RX5 47 "DishPointer$Way" "possible" "Z", Cond.methodLink RX5 50 Lib.Math.abs.name, Cond.static Lib.Math.abs.name, Cond.initialized "java/lang/Math", Cond.code Lib.Math.abs.name Lib.Math.abs.code 1 (some .int)]
def wsX2_wayAround_r2 : List Cond := [Cond.fieldLink RX5 56 "DishPointer$Way" "length" "I", Cond.fieldLink RX5 59 "DishPointer$Axis" "speed" "I", Cond.fieldLink RX5 62 "DishPointer$Way" "time" "I", Cond.methodLink RX5 9 yX0_dish, Cond.instanceMethod yX0_dish, Cond.selects RX0 yX0_dish yX0_dish, Cond.initialized RX0, Cond.code yX0_dish cX0_dish 1 (some .int), Cond.fieldLink RX0 21 "DishPointer$Axis" "motor" "I", Cond.fieldLink RX0 33 "DishPointer$Axis" "slack" "I", Cond.methodLink RX5 43 yX0_reaches, Cond.instanceMethod yX0_reaches, Cond.selects RX0 yX0_reaches yX0_reaches, Cond.code yX0_reaches cX0_reaches 2 (some .boolean), Cond.fieldLink RX0 9 "DishPointer$Axis" "least" "I", Cond.fieldLink RX0 15 "DishPointer$Axis" "most" "I", Cond.methodLink RX2 106 yX2_isLowWayTaken, Cond.instanceMethod yX2_isLowWayTaken, Cond.selects RX2 yX2_isLowWayTaken yX2_isLowWayTaken, Cond.initialized RX2, Cond.code yX2_isLowWayTaken cX2_isLowWayTaken 5 (some .boolean), Cond.fieldLink RX2 110 "DishPointer$Way" "place" "I", Cond.methodLink RX2 113 Lib.Math.abs.name, Cond.fieldLink RX2 117 "DishPointer$Way" "length" "I"]
def wsX2_wayAround : List Cond := .code yX2_wayAround cX2_wayAround 2 (some (.object "DishPointer$Way")) :: ((wsX2_wayAround_r1 ++ wsX2_wayAround_r2) ++ wsX20 ++ wsX50 ++ wsX00)
def wsX2_followWays_r1 : List Cond := [Cond.fieldLink RX2 23 "DishPointer$State" "azimuth" "LDishPointer$Axis;", Cond.fieldLink RX2 27 "DishPointer$State" "elevation" "LDishPointer$Axis;", Cond.fieldLink RX2 54 "DishPointer$State" "slews" "I", Cond.fieldLink RX2 124 "DishPointer$Way" "time" "I", Cond.methodLink RX2 125 Lib.Math.max.name, Cond.static Lib.Math.max.name, Cond.initialized "java/lang/Math", Cond.code Lib.Math.max.name Lib.Math.max.code 2 (some .int), Cond.methodLink RX2 120 yX0_follow, Cond.instanceMethod yX0_follow, Cond.selects RX0 yX0_follow yX0_follow, Cond.initialized RX0, Cond.code yX0_follow cX0_follow 2 none, Cond.fieldLink RX0 55 "DishPointer$Way" "turn" "I", Cond.fieldLink RX0 64 "DishPointer$Way" "end" "I", Cond.methodLink RX0 60 yX0_moveTo, Cond.instanceMethod yX0_moveTo, Cond.selects RX0 yX0_moveTo yX0_moveTo, Cond.code yX0_moveTo cX0_moveTo 3 none, Cond.fieldLink RX0 21 "DishPointer$Axis" "motor" "I", Cond.fieldLink RX0 36 "DishPointer$Axis" "wentUp" "I", Cond.fieldLink RX0 33 "DishPointer$Axis" "slack" "I", Cond.fieldLink RX0 24 "DishPointer$Axis" "play" "I", Cond.methodLink RX0 46 Lib.Math.min.name]
def wsX2_followWays_r2 : List Cond := [Cond.static Lib.Math.min.name, Cond.code Lib.Math.min.name Lib.Math.min.code 2 (some .int), Cond.fieldLink RX0 39 "DishPointer$Axis" "wentDown" "I", Cond.methodLink RX0 52 Lib.Math.max.name]
def wsX2_followWays : List Cond := .code yX2_followWays cX2_followWays 3 (some .int) :: ((wsX2_followWays_r1 ++ wsX2_followWays_r2) ++ wsX20 ++ wsX50 ++ wsX00)
def wsX2_hasTarget : List Cond := .code yX2_hasTarget cX2_hasTarget 2 (some .boolean) :: ([.fieldLink RX2 32 "DishPointer$State" "targets" "[LDishPointer$Target;", .fieldLink RX2 128 "DishPointer$Target" "state" "I"] ++ wsX20 ++ wsX30)
def wsX2_targetsIn : List Cond := .code yX2_targetsIn cX2_targetsIn 7 (some .int) :: ([.fieldLink RX2 32 "DishPointer$State" "targets" "[LDishPointer$Target;", .fieldLink RX2 128 "DishPointer$Target" "state" "I"] ++ wsX20 ++ wsX30)
def wsX2_numberUnderWay : List Cond := .code yX2_numberUnderWay cX2_numberUnderWay 2 (some .int) :: ([.fieldLink RX2 32 "DishPointer$State" "targets" "[LDishPointer$Target;", .fieldLink RX2 128 "DishPointer$Target" "state" "I"] ++ wsX20 ++ wsX30)
def wsX2_minutesUntilDone : List Cond := .code yX2_minutesUntilDone cX2_minutesUntilDone 5 (some .int) :: ([.fieldLink RX2 32 "DishPointer$State" "targets" "[LDishPointer$Target;", .fieldLink RX2 128 "DishPointer$Target" "state" "I", .fieldLink RX2 131 "DishPointer$Target" "doneAt" "I", .fieldLink RX2 50 "DishPointer$State" "time" "I", .constant RX2 134 (-100004)] ++ wsX20 ++ wsX30)
def wsX2_append : List Cond := .code yX2_append cX2_append 9 (some .int) :: ([.fieldLink RX2 32 "DishPointer$State" "targets" "[LDishPointer$Target;", .fieldLink RX2 138 "DishPointer$Target" "azimuth" "I", .fieldLink RX2 140 "DishPointer$Target" "elevation" "I", .fieldLink RX2 142 "DishPointer$Target" "from" "I", .fieldLink RX2 145 "DishPointer$Target" "to" "I", .fieldLink RX2 148 "DishPointer$Target" "dwell" "I", .fieldLink RX2 151 "DishPointer$Target" "priority" "I", .fieldLink RX2 128 "DishPointer$Target" "state" "I", .fieldLink RX2 154 "DishPointer$Target" "breaks" "I", .methodLink RX2 135 yX2_targetsIn, .instanceMethod yX2_targetsIn, .selects RX2 yX2_targetsIn yX2_targetsIn, .initialized RX2, .code yX2_targetsIn cX2_targetsIn 7 (some .int)] ++ wsX20 ++ wsX30)
def wsX2_remove_r1 : List Cond := [Cond.methodLink RX2 125 Lib.Math.max.name, Cond.static Lib.Math.max.name, Cond.initialized "java/lang/Math", Cond.code Lib.Math.max.name Lib.Math.max.code 2 (some .int), Cond.fieldLink RX2 32 "DishPointer$State" "targets" "[LDishPointer$Target;", Cond.fieldLink RX2 128 "DishPointer$Target" "state" "I", Cond.methodLink RX2 70 yX3_copyFrom, Cond.instanceMethod yX3_copyFrom, Cond.selects RX3 yX3_copyFrom yX3_copyFrom, Cond.initialized RX3, Cond.code yX3_copyFrom cX3_copyFrom 2 none, Cond.fieldLink RX3 15 "DishPointer$Target" "azimuth" "I", Cond.fieldLink RX3 18 "DishPointer$Target" "elevation" "I", Cond.fieldLink RX3 21 "DishPointer$Target" "from" "I", Cond.fieldLink RX3 24 "DishPointer$Target" "to" "I", Cond.fieldLink RX3 27 "DishPointer$Target" "dwell" "I", Cond.fieldLink RX3 30 "DishPointer$Target" "priority" "I", Cond.fieldLink RX3 9 "DishPointer$Target" "state" "I", Cond.fieldLink RX3 33 "DishPointer$Target" "begunAt" "I", Cond.fieldLink RX3 36 "DishPointer$Target" "slewedAt" "I", Cond.fieldLink RX3 39 "DishPointer$Target" "doneAt" "I", Cond.fieldLink RX3 42 "DishPointer$Target" "error" "I", Cond.fieldLink RX3 45 "DishPointer$Target" "breaks" "I", Cond.fieldLink RX3 48 "DishPointer$Target" "place" "I"]
def wsX2_remove_r2 : List Cond := [Cond.fieldLink RX3 51 "DishPointer$Target" "slewLookedAt" "Z"]
def wsX2_remove : List Cond := .code yX2_remove cX2_remove 3 none :: ((wsX2_remove_r1 ++ wsX2_remove_r2) ++ wsX20 ++ wsX30)
def wsX2_reasonAgainst_r1 : List Cond := [Cond.fieldLink RX2 128 "DishPointer$Target" "state" "I", Cond.fieldLink RX2 50 "DishPointer$State" "time" "I", Cond.fieldLink RX2 142 "DishPointer$Target" "from" "I", Cond.fieldLink RX2 140 "DishPointer$Target" "elevation" "I", Cond.fieldLink RX2 102 "DishPointer$Way" "possible" "Z", Cond.fieldLink RX2 138 "DishPointer$Target" "azimuth" "I", Cond.fieldLink RX2 124 "DishPointer$Way" "time" "I", Cond.methodLink RX2 125 Lib.Math.max.name, Cond.static Lib.Math.max.name, Cond.initialized "java/lang/Math", Cond.code Lib.Math.max.name Lib.Math.max.code 2 (some .int), Cond.fieldLink RX2 148 "DishPointer$Target" "dwell" "I", Cond.fieldLink RX2 145 "DishPointer$Target" "to" "I", Cond.methodLink RX2 157 yX2_numberUnderWay, Cond.instanceMethod yX2_numberUnderWay, Cond.selects RX2 yX2_numberUnderWay yX2_numberUnderWay, Cond.initialized RX2, Cond.code yX2_numberUnderWay cX2_numberUnderWay 2 (some .int), Cond.fieldLink RX2 32 "DishPointer$State" "targets" "[LDishPointer$Target;", Cond.methodLink RX2 80 yX2_kindOfDay, Cond.instanceMethod yX2_kindOfDay, Cond.selects RX2 yX2_kindOfDay yX2_kindOfDay, Cond.code yX2_kindOfDay cX2_kindOfDay 2 (some .int), Cond.fieldLink RX2 9 "DishPointer$State" "settings" "[I"]
def wsX2_reasonAgainst_r2 : List Cond := [Cond.methodLink RX2 77 yX2_gustToday, Cond.instanceMethod yX2_gustToday, Cond.selects RX2 yX2_gustToday yX2_gustToday, Cond.code yX2_gustToday cX2_gustToday 2 (some .int), Cond.fieldLink RX2 15 "DishPointer$State" "gusts" "[I", Cond.methodLink RX2 73 yX2_day, Cond.instanceMethod yX2_day, Cond.selects RX2 yX2_day yX2_day, Cond.code yX2_day cX2_day 1 (some .int), Cond.methodLink RX2 160 yX2_wayRise, Cond.instanceMethod yX2_wayRise, Cond.selects RX2 yX2_wayRise yX2_wayRise, Cond.code yX2_wayRise cX2_wayRise 2 (some (.object "DishPointer$Way")), Cond.fieldLink RX2 46 "DishPointer$State" "riseWay" "LDishPointer$Way;", Cond.fieldLink RX2 27 "DishPointer$State" "elevation" "LDishPointer$Axis;", Cond.methodLink RX2 98 yX5_plan, Cond.instanceMethod yX5_plan, Cond.selects RX5 yX5_plan yX5_plan, Cond.initialized RX5, Cond.code yX5_plan cX5_plan 6 none, Cond.fieldLink RX5 15 "DishPointer$Way" "place" "I", Cond.fieldLink RX5 21 "DishPointer$Axis" "side" "I", Cond.fieldLink RX5 24 "DishPointer$Axis" "slack" "I", Cond.fieldLink RX5 27 "DishPointer$Axis" "play" "I"]
def wsX2_reasonAgainst_r3 : List Cond := [Cond.fieldLink RX5 30 "DishPointer$Way" "turns" "Z", Cond.fieldLink RX5 34 "DishPointer$Way" "turn" "I", Cond.fieldLink RX5 37 "DishPointer$Way" "end" "I", Cond.fieldLink RX5 40 "DishPointer$Axis" "motor" "I", Cond.fieldLink RX5 47 "DishPointer$Way" "possible" "Z", Cond.methodLink RX5 50 Lib.Math.abs.name, Cond.static Lib.Math.abs.name, Cond.code Lib.Math.abs.name Lib.Math.abs.code 1 (some .int), Cond.fieldLink RX5 56 "DishPointer$Way" "length" "I", Cond.fieldLink RX5 59 "DishPointer$Axis" "speed" "I", Cond.fieldLink RX5 62 "DishPointer$Way" "time" "I", Cond.methodLink RX5 9 yX0_dish, Cond.instanceMethod yX0_dish, Cond.selects RX0 yX0_dish yX0_dish, Cond.initialized RX0, Cond.code yX0_dish cX0_dish 1 (some .int), Cond.fieldLink RX0 21 "DishPointer$Axis" "motor" "I", Cond.fieldLink RX0 33 "DishPointer$Axis" "slack" "I", Cond.methodLink RX5 43 yX0_reaches, Cond.instanceMethod yX0_reaches, Cond.selects RX0 yX0_reaches yX0_reaches, Cond.code yX0_reaches cX0_reaches 2 (some .boolean), Cond.fieldLink RX0 9 "DishPointer$Axis" "least" "I", Cond.fieldLink RX0 15 "DishPointer$Axis" "most" "I"]
def wsX2_reasonAgainst_r4 : List Cond := [Cond.methodLink RX2 164 yX2_wayAround, Cond.instanceMethod yX2_wayAround, Cond.selects RX2 yX2_wayAround yX2_wayAround, Cond.code yX2_wayAround cX2_wayAround 2 (some (.object "DishPointer$Way")), Cond.fieldLink RX2 39 "DishPointer$State" "lowWay" "LDishPointer$Way;", Cond.fieldLink RX2 23 "DishPointer$State" "azimuth" "LDishPointer$Axis;", Cond.constant RX2 86 (36000), Cond.fieldLink RX2 43 "DishPointer$State" "highWay" "LDishPointer$Way;", Cond.methodLink RX2 106 yX2_isLowWayTaken, Cond.instanceMethod yX2_isLowWayTaken, Cond.selects RX2 yX2_isLowWayTaken yX2_isLowWayTaken, Cond.code yX2_isLowWayTaken cX2_isLowWayTaken 5 (some .boolean), Cond.fieldLink RX2 110 "DishPointer$Way" "place" "I", Cond.methodLink RX2 113 Lib.Math.abs.name, Cond.fieldLink RX2 117 "DishPointer$Way" "length" "I"]
def wsX2_reasonAgainst : List Cond := .code yX2_reasonAgainst cX2_reasonAgainst 4 (some .int) :: ((wsX2_reasonAgainst_r1 ++ (wsX2_reasonAgainst_r2 ++ (wsX2_reasonAgainst_r3 ++ wsX2_reasonAgainst_r4))) ++ wsX30 ++ wsX20 ++ wsX50 ++ wsX00)
def wsX3_isBetterThan : List Cond := .code yX3_isBetterThan cX3_isBetterThan 2 (some .boolean) :: ([.fieldLink RX3 30 "DishPointer$Target" "priority" "I", .fieldLink RX3 24 "DishPointer$Target" "to" "I"] ++ wsX30)
def wsX2_bestToBegin_r1 : List Cond := [Cond.fieldLink RX2 32 "DishPointer$State" "targets" "[LDishPointer$Target;", Cond.methodLink RX2 167 yX2_reasonAgainst, Cond.instanceMethod yX2_reasonAgainst, Cond.selects RX2 yX2_reasonAgainst yX2_reasonAgainst, Cond.initialized RX2, Cond.code yX2_reasonAgainst cX2_reasonAgainst 4 (some .int), Cond.fieldLink RX2 128 "DishPointer$Target" "state" "I", Cond.fieldLink RX2 50 "DishPointer$State" "time" "I", Cond.fieldLink RX2 142 "DishPointer$Target" "from" "I", Cond.fieldLink RX2 140 "DishPointer$Target" "elevation" "I", Cond.fieldLink RX2 102 "DishPointer$Way" "possible" "Z", Cond.fieldLink RX2 138 "DishPointer$Target" "azimuth" "I", Cond.fieldLink RX2 124 "DishPointer$Way" "time" "I", Cond.methodLink RX2 125 Lib.Math.max.name, Cond.static Lib.Math.max.name, Cond.initialized "java/lang/Math", Cond.code Lib.Math.max.name Lib.Math.max.code 2 (some .int), Cond.fieldLink RX2 148 "DishPointer$Target" "dwell" "I", Cond.fieldLink RX2 145 "DishPointer$Target" "to" "I", Cond.methodLink RX2 157 yX2_numberUnderWay, Cond.instanceMethod yX2_numberUnderWay, Cond.selects RX2 yX2_numberUnderWay yX2_numberUnderWay, Cond.code yX2_numberUnderWay cX2_numberUnderWay 2 (some .int), Cond.methodLink RX2 80 yX2_kindOfDay]
def wsX2_bestToBegin_r2 : List Cond := [Cond.instanceMethod yX2_kindOfDay, Cond.selects RX2 yX2_kindOfDay yX2_kindOfDay, Cond.code yX2_kindOfDay cX2_kindOfDay 2 (some .int), Cond.fieldLink RX2 9 "DishPointer$State" "settings" "[I", Cond.methodLink RX2 77 yX2_gustToday, Cond.instanceMethod yX2_gustToday, Cond.selects RX2 yX2_gustToday yX2_gustToday, Cond.code yX2_gustToday cX2_gustToday 2 (some .int), Cond.fieldLink RX2 15 "DishPointer$State" "gusts" "[I", Cond.methodLink RX2 73 yX2_day, Cond.instanceMethod yX2_day, Cond.selects RX2 yX2_day yX2_day, Cond.code yX2_day cX2_day 1 (some .int), Cond.methodLink RX2 160 yX2_wayRise, Cond.instanceMethod yX2_wayRise, Cond.selects RX2 yX2_wayRise yX2_wayRise, Cond.code yX2_wayRise cX2_wayRise 2 (some (.object "DishPointer$Way")), Cond.fieldLink RX2 46 "DishPointer$State" "riseWay" "LDishPointer$Way;", Cond.fieldLink RX2 27 "DishPointer$State" "elevation" "LDishPointer$Axis;", Cond.methodLink RX2 98 yX5_plan, Cond.instanceMethod yX5_plan, Cond.selects RX5 yX5_plan yX5_plan, Cond.initialized RX5, Cond.code yX5_plan cX5_plan 6 none]
def wsX2_bestToBegin_r3 : List Cond := [Cond.fieldLink RX5 15 "DishPointer$Way" "place" "I", Cond.fieldLink RX5 21 "DishPointer$Axis" "side" "I", Cond.fieldLink RX5 24 "DishPointer$Axis" "slack" "I", Cond.fieldLink RX5 27 "DishPointer$Axis" "play" "I", Cond.fieldLink RX5 30 "DishPointer$Way" "turns" "Z", Cond.fieldLink RX5 34 "DishPointer$Way" "turn" "I", Cond.fieldLink RX5 37 "DishPointer$Way" "end" "I", Cond.fieldLink RX5 40 "DishPointer$Axis" "motor" "I", Cond.fieldLink RX5 47 "DishPointer$Way" "possible" "Z", Cond.methodLink RX5 50 Lib.Math.abs.name, Cond.static Lib.Math.abs.name, Cond.code Lib.Math.abs.name Lib.Math.abs.code 1 (some .int), Cond.fieldLink RX5 56 "DishPointer$Way" "length" "I", Cond.fieldLink RX5 59 "DishPointer$Axis" "speed" "I", Cond.fieldLink RX5 62 "DishPointer$Way" "time" "I", Cond.methodLink RX5 9 yX0_dish, Cond.instanceMethod yX0_dish, Cond.selects RX0 yX0_dish yX0_dish, Cond.initialized RX0, Cond.code yX0_dish cX0_dish 1 (some .int), Cond.fieldLink RX0 21 "DishPointer$Axis" "motor" "I", Cond.fieldLink RX0 33 "DishPointer$Axis" "slack" "I", Cond.methodLink RX5 43 yX0_reaches, Cond.instanceMethod yX0_reaches]
def wsX2_bestToBegin_r4 : List Cond := [Cond.selects RX0 yX0_reaches yX0_reaches, Cond.code yX0_reaches cX0_reaches 2 (some .boolean), Cond.fieldLink RX0 9 "DishPointer$Axis" "least" "I", Cond.fieldLink RX0 15 "DishPointer$Axis" "most" "I", Cond.methodLink RX2 164 yX2_wayAround, Cond.instanceMethod yX2_wayAround, Cond.selects RX2 yX2_wayAround yX2_wayAround, Cond.code yX2_wayAround cX2_wayAround 2 (some (.object "DishPointer$Way")), Cond.fieldLink RX2 39 "DishPointer$State" "lowWay" "LDishPointer$Way;", Cond.fieldLink RX2 23 "DishPointer$State" "azimuth" "LDishPointer$Axis;", Cond.constant RX2 86 (36000), Cond.fieldLink RX2 43 "DishPointer$State" "highWay" "LDishPointer$Way;", Cond.methodLink RX2 106 yX2_isLowWayTaken, Cond.instanceMethod yX2_isLowWayTaken, Cond.selects RX2 yX2_isLowWayTaken yX2_isLowWayTaken, Cond.code yX2_isLowWayTaken cX2_isLowWayTaken 5 (some .boolean), Cond.fieldLink RX2 110 "DishPointer$Way" "place" "I", Cond.methodLink RX2 113 Lib.Math.abs.name, Cond.fieldLink RX2 117 "DishPointer$Way" "length" "I", Cond.methodLink RX2 171 yX3_isBetterThan, Cond.instanceMethod yX3_isBetterThan, Cond.selects RX3 yX3_isBetterThan yX3_isBetterThan, Cond.initialized RX3, Cond.code yX3_isBetterThan cX3_isBetterThan 2 (some .boolean)]
def wsX2_bestToBegin_r5 : List Cond := [Cond.fieldLink RX3 30 "DishPointer$Target" "priority" "I", Cond.fieldLink RX3 24 "DishPointer$Target" "to" "I"]
def wsX2_bestToBegin : List Cond := .code yX2_bestToBegin cX2_bestToBegin 3 (some .int) :: ((wsX2_bestToBegin_r1 ++ (wsX2_bestToBegin_r2 ++ (wsX2_bestToBegin_r3 ++ (wsX2_bestToBegin_r4 ++ wsX2_bestToBegin_r5)))) ++ wsX20 ++ wsX30 ++ wsX50 ++ wsX00)
def wsX2_beginHold : List Cond := .code yX2_beginHold cX2_beginHold 5 none :: ([.fieldLink RX2 57 "DishPointer$State" "holds" "I", .fieldLink RX2 32 "DishPointer$State" "targets" "[LDishPointer$Target;", .fieldLink RX2 128 "DishPointer$Target" "state" "I", .fieldLink RX2 154 "DishPointer$Target" "breaks" "I", .fieldLink RX2 27 "DishPointer$State" "elevation" "LDishPointer$Axis;", .methodLink RX2 196 yX0_moveTo, .instanceMethod yX0_moveTo, .selects RX0 yX0_moveTo yX0_moveTo, .initialized RX0, .code yX0_moveTo cX0_moveTo 3 none, .fieldLink RX0 21 "DishPointer$Axis" "motor" "I", .fieldLink RX0 36 "DishPointer$Axis" "wentUp" "I", .fieldLink RX0 33 "DishPointer$Axis" "slack" "I", .fieldLink RX0 24 "DishPointer$Axis" "play" "I", .methodLink RX0 46 Lib.Math.min.name, .static Lib.Math.min.name, .initialized "java/lang/Math", .code Lib.Math.min.name Lib.Math.min.code 2 (some .int), .fieldLink RX0 39 "DishPointer$Axis" "wentDown" "I", .methodLink RX0 52 Lib.Math.max.name, .static Lib.Math.max.name, .code Lib.Math.max.name Lib.Math.max.code 2 (some .int)] ++ wsX20 ++ wsX30 ++ wsX00)
def wsX2_lookAtSlew : List Cond := .code yX2_lookAtSlew cX2_lookAtSlew 2 none :: ([.fieldLink RX2 210 "DishPointer$Target" "slewLookedAt" "Z", .fieldLink RX2 50 "DishPointer$State" "time" "I", .fieldLink RX2 190 "DishPointer$Target" "slewedAt" "I", .fieldLink RX2 23 "DishPointer$State" "azimuth" "LDishPointer$Axis;", .fieldLink RX2 213 "DishPointer$Axis" "play" "I", .fieldLink RX2 216 "DishPointer$Axis" "slack" "I", .methodLink RX2 80 yX2_kindOfDay, .instanceMethod yX2_kindOfDay, .selects RX2 yX2_kindOfDay yX2_kindOfDay, .initialized RX2, .code yX2_kindOfDay cX2_kindOfDay 2 (some .int), .fieldLink RX2 9 "DishPointer$State" "settings" "[I", .methodLink RX2 77 yX2_gustToday, .instanceMethod yX2_gustToday, .selects RX2 yX2_gustToday yX2_gustToday, .code yX2_gustToday cX2_gustToday 2 (some .int), .fieldLink RX2 15 "DishPointer$State" "gusts" "[I", .methodLink RX2 73 yX2_day, .instanceMethod yX2_day, .selects RX2 yX2_day yX2_day, .code yX2_day cX2_day 1 (some .int)] ++ wsX30 ++ wsX20 ++ wsX00)
def wsX2_goOnWith_r1 : List Cond := [Cond.fieldLink RX2 50 "DishPointer$State" "time" "I", Cond.fieldLink RX2 131 "DishPointer$Target" "doneAt" "I", Cond.fieldLink RX2 128 "DishPointer$Target" "state" "I", Cond.fieldLink RX2 23 "DishPointer$State" "azimuth" "LDishPointer$Axis;", Cond.fieldLink RX2 206 "DishPointer$Target" "place" "I", Cond.fieldLink RX2 207 "DishPointer$Target" "error" "I", Cond.methodLink RX2 203 yX2_lookAtSlew, Cond.instanceMethod yX2_lookAtSlew, Cond.selects RX2 yX2_lookAtSlew yX2_lookAtSlew, Cond.initialized RX2, Cond.code yX2_lookAtSlew cX2_lookAtSlew 2 none, Cond.fieldLink RX2 210 "DishPointer$Target" "slewLookedAt" "Z", Cond.fieldLink RX2 190 "DishPointer$Target" "slewedAt" "I", Cond.fieldLink RX2 213 "DishPointer$Axis" "play" "I", Cond.fieldLink RX2 216 "DishPointer$Axis" "slack" "I", Cond.methodLink RX2 80 yX2_kindOfDay, Cond.instanceMethod yX2_kindOfDay, Cond.selects RX2 yX2_kindOfDay yX2_kindOfDay, Cond.code yX2_kindOfDay cX2_kindOfDay 2 (some .int), Cond.fieldLink RX2 9 "DishPointer$State" "settings" "[I", Cond.methodLink RX2 77 yX2_gustToday, Cond.instanceMethod yX2_gustToday, Cond.selects RX2 yX2_gustToday yX2_gustToday, Cond.code yX2_gustToday cX2_gustToday 2 (some .int)]
def wsX2_goOnWith_r2 : List Cond := [Cond.fieldLink RX2 15 "DishPointer$State" "gusts" "[I", Cond.methodLink RX2 73 yX2_day, Cond.instanceMethod yX2_day, Cond.selects RX2 yX2_day yX2_day, Cond.code yX2_day cX2_day 1 (some .int), Cond.methodLink RX2 83 yX0_dish, Cond.instanceMethod yX0_dish, Cond.selects RX0 yX0_dish yX0_dish, Cond.initialized RX0, Cond.code yX0_dish cX0_dish 1 (some .int), Cond.fieldLink RX0 21 "DishPointer$Axis" "motor" "I", Cond.fieldLink RX0 33 "DishPointer$Axis" "slack" "I"]
def wsX2_goOnWith : List Cond := .code yX2_goOnWith cX2_goOnWith 2 none :: ((wsX2_goOnWith_r1 ++ wsX2_goOnWith_r2) ++ wsX20 ++ wsX30 ++ wsX00)
def wsX2_endWhatIsOver_r1 : List Cond := [Cond.fieldLink RX2 32 "DishPointer$State" "targets" "[LDishPointer$Target;", Cond.fieldLink RX2 128 "DishPointer$Target" "state" "I", Cond.fieldLink RX2 145 "DishPointer$Target" "to" "I", Cond.fieldLink RX2 50 "DishPointer$State" "time" "I", Cond.methodLink RX2 200 yX2_goOnWith, Cond.instanceMethod yX2_goOnWith, Cond.selects RX2 yX2_goOnWith yX2_goOnWith, Cond.initialized RX2, Cond.code yX2_goOnWith cX2_goOnWith 2 none, Cond.fieldLink RX2 131 "DishPointer$Target" "doneAt" "I", Cond.fieldLink RX2 23 "DishPointer$State" "azimuth" "LDishPointer$Axis;", Cond.fieldLink RX2 206 "DishPointer$Target" "place" "I", Cond.fieldLink RX2 207 "DishPointer$Target" "error" "I", Cond.methodLink RX2 203 yX2_lookAtSlew, Cond.instanceMethod yX2_lookAtSlew, Cond.selects RX2 yX2_lookAtSlew yX2_lookAtSlew, Cond.code yX2_lookAtSlew cX2_lookAtSlew 2 none, Cond.fieldLink RX2 210 "DishPointer$Target" "slewLookedAt" "Z", Cond.fieldLink RX2 190 "DishPointer$Target" "slewedAt" "I", Cond.fieldLink RX2 213 "DishPointer$Axis" "play" "I", Cond.fieldLink RX2 216 "DishPointer$Axis" "slack" "I", Cond.methodLink RX2 80 yX2_kindOfDay, Cond.instanceMethod yX2_kindOfDay, Cond.selects RX2 yX2_kindOfDay yX2_kindOfDay]
def wsX2_endWhatIsOver_r2 : List Cond := [Cond.code yX2_kindOfDay cX2_kindOfDay 2 (some .int), Cond.fieldLink RX2 9 "DishPointer$State" "settings" "[I", Cond.methodLink RX2 77 yX2_gustToday, Cond.instanceMethod yX2_gustToday, Cond.selects RX2 yX2_gustToday yX2_gustToday, Cond.code yX2_gustToday cX2_gustToday 2 (some .int), Cond.fieldLink RX2 15 "DishPointer$State" "gusts" "[I", Cond.methodLink RX2 73 yX2_day, Cond.instanceMethod yX2_day, Cond.selects RX2 yX2_day yX2_day, Cond.code yX2_day cX2_day 1 (some .int), Cond.methodLink RX2 83 yX0_dish, Cond.instanceMethod yX0_dish, Cond.selects RX0 yX0_dish yX0_dish, Cond.initialized RX0, Cond.code yX0_dish cX0_dish 1 (some .int), Cond.fieldLink RX0 21 "DishPointer$Axis" "motor" "I", Cond.fieldLink RX0 33 "DishPointer$Axis" "slack" "I"]
def wsX2_endWhatIsOver : List Cond := .code yX2_endWhatIsOver cX2_endWhatIsOver 5 none :: ((wsX2_endWhatIsOver_r1 ++ wsX2_endWhatIsOver_r2) ++ wsX20 ++ wsX30 ++ wsX00)
def wsX2_begin_r1 : List Cond := [Cond.fieldLink RX2 138 "DishPointer$Target" "azimuth" "I", Cond.fieldLink RX2 140 "DishPointer$Target" "elevation" "I", Cond.fieldLink RX2 128 "DishPointer$Target" "state" "I", Cond.fieldLink RX2 110 "DishPointer$Way" "place" "I", Cond.fieldLink RX2 206 "DishPointer$Target" "place" "I", Cond.fieldLink RX2 50 "DishPointer$State" "time" "I", Cond.fieldLink RX2 219 "DishPointer$Target" "begunAt" "I", Cond.fieldLink RX2 190 "DishPointer$Target" "slewedAt" "I", Cond.fieldLink RX2 148 "DishPointer$Target" "dwell" "I", Cond.fieldLink RX2 131 "DishPointer$Target" "doneAt" "I", Cond.fieldLink RX2 210 "DishPointer$Target" "slewLookedAt" "Z", Cond.methodLink RX2 164 yX2_wayAround, Cond.instanceMethod yX2_wayAround, Cond.selects RX2 yX2_wayAround yX2_wayAround, Cond.initialized RX2, Cond.code yX2_wayAround cX2_wayAround 2 (some (.object "DishPointer$Way")), Cond.fieldLink RX2 39 "DishPointer$State" "lowWay" "LDishPointer$Way;", Cond.fieldLink RX2 23 "DishPointer$State" "azimuth" "LDishPointer$Axis;", Cond.constant RX2 86 (36000), Cond.fieldLink RX2 9 "DishPointer$State" "settings" "[I", Cond.fieldLink RX2 43 "DishPointer$State" "highWay" "LDishPointer$Way;", Cond.fieldLink RX2 102 "DishPointer$Way" "possible" "Z", Cond.methodLink RX2 98 yX5_plan, Cond.instanceMethod yX5_plan]
def wsX2_begin_r2 : List Cond := [Cond.selects RX5 yX5_plan yX5_plan, Cond.initialized RX5, Cond.code yX5_plan cX5_plan 6 none, Cond.fieldLink RX5 15 "DishPointer$Way" "place" "I", Cond.fieldLink RX5 21 "DishPointer$Axis" "side" "I", Cond.fieldLink RX5 24 "DishPointer$Axis" "slack" "I", Cond.fieldLink RX5 27 "DishPointer$Axis" "play" "I", Cond.fieldLink RX5 30 "DishPointer$Way" "turns" "Z", Cond.fieldLink RX5 34 "DishPointer$Way" "turn" "I", Cond.fieldLink RX5 37 "DishPointer$Way" "end" "I", Cond.fieldLink RX5 40 "DishPointer$Axis" "motor" "I", Cond.fieldLink RX5 47 "DishPointer$Way" "possible" "Z", Cond.methodLink RX5 50 Lib.Math.abs.name, Cond.static Lib.Math.abs.name, Cond.initialized "java/lang/Math", Cond.code Lib.Math.abs.name Lib.Math.abs.code 1 (some .int), Cond.fieldLink RX5 56 "DishPointer$Way" "length" "I", Cond.fieldLink RX5 59 "DishPointer$Axis" "speed" "I", Cond.fieldLink RX5 62 "DishPointer$Way" "time" "I", Cond.methodLink RX5 9 yX0_dish, Cond.instanceMethod yX0_dish, Cond.selects RX0 yX0_dish yX0_dish, Cond.initialized RX0, Cond.code yX0_dish cX0_dish 1 (some .int)]
def wsX2_begin_r3 : List Cond := [Cond.fieldLink RX0 21 "DishPointer$Axis" "motor" "I", Cond.fieldLink RX0 33 "DishPointer$Axis" "slack" "I", Cond.methodLink RX5 43 yX0_reaches, Cond.instanceMethod yX0_reaches, Cond.selects RX0 yX0_reaches yX0_reaches, Cond.code yX0_reaches cX0_reaches 2 (some .boolean), Cond.fieldLink RX0 9 "DishPointer$Axis" "least" "I", Cond.fieldLink RX0 15 "DishPointer$Axis" "most" "I", Cond.methodLink RX2 106 yX2_isLowWayTaken, Cond.instanceMethod yX2_isLowWayTaken, Cond.selects RX2 yX2_isLowWayTaken yX2_isLowWayTaken, Cond.code yX2_isLowWayTaken cX2_isLowWayTaken 5 (some .boolean), Cond.methodLink RX2 113 Lib.Math.abs.name, Cond.fieldLink RX2 117 "DishPointer$Way" "length" "I", Cond.methodLink RX2 160 yX2_wayRise, Cond.instanceMethod yX2_wayRise, Cond.selects RX2 yX2_wayRise yX2_wayRise, Cond.code yX2_wayRise cX2_wayRise 2 (some (.object "DishPointer$Way")), Cond.fieldLink RX2 46 "DishPointer$State" "riseWay" "LDishPointer$Way;", Cond.fieldLink RX2 27 "DishPointer$State" "elevation" "LDishPointer$Axis;", Cond.methodLink RX2 222 yX2_followWays, Cond.instanceMethod yX2_followWays, Cond.selects RX2 yX2_followWays yX2_followWays, Cond.code yX2_followWays cX2_followWays 3 (some .int)]
def wsX2_begin_r4 : List Cond := [Cond.fieldLink RX2 54 "DishPointer$State" "slews" "I", Cond.fieldLink RX2 124 "DishPointer$Way" "time" "I", Cond.methodLink RX2 125 Lib.Math.max.name, Cond.static Lib.Math.max.name, Cond.code Lib.Math.max.name Lib.Math.max.code 2 (some .int), Cond.methodLink RX2 120 yX0_follow, Cond.instanceMethod yX0_follow, Cond.selects RX0 yX0_follow yX0_follow, Cond.code yX0_follow cX0_follow 2 none, Cond.fieldLink RX0 55 "DishPointer$Way" "turn" "I", Cond.fieldLink RX0 64 "DishPointer$Way" "end" "I", Cond.methodLink RX0 60 yX0_moveTo, Cond.instanceMethod yX0_moveTo, Cond.selects RX0 yX0_moveTo yX0_moveTo, Cond.code yX0_moveTo cX0_moveTo 3 none, Cond.fieldLink RX0 36 "DishPointer$Axis" "wentUp" "I", Cond.fieldLink RX0 24 "DishPointer$Axis" "play" "I", Cond.methodLink RX0 46 Lib.Math.min.name, Cond.static Lib.Math.min.name, Cond.code Lib.Math.min.name Lib.Math.min.code 2 (some .int), Cond.fieldLink RX0 39 "DishPointer$Axis" "wentDown" "I", Cond.methodLink RX0 52 Lib.Math.max.name, Cond.methodLink RX2 203 yX2_lookAtSlew, Cond.instanceMethod yX2_lookAtSlew]
def wsX2_begin_r5 : List Cond := [Cond.selects RX2 yX2_lookAtSlew yX2_lookAtSlew, Cond.code yX2_lookAtSlew cX2_lookAtSlew 2 none, Cond.fieldLink RX2 213 "DishPointer$Axis" "play" "I", Cond.fieldLink RX2 216 "DishPointer$Axis" "slack" "I", Cond.methodLink RX2 80 yX2_kindOfDay, Cond.instanceMethod yX2_kindOfDay, Cond.selects RX2 yX2_kindOfDay yX2_kindOfDay, Cond.code yX2_kindOfDay cX2_kindOfDay 2 (some .int), Cond.methodLink RX2 77 yX2_gustToday, Cond.instanceMethod yX2_gustToday, Cond.selects RX2 yX2_gustToday yX2_gustToday, Cond.code yX2_gustToday cX2_gustToday 2 (some .int), Cond.fieldLink RX2 15 "DishPointer$State" "gusts" "[I", Cond.methodLink RX2 73 yX2_day, Cond.instanceMethod yX2_day, Cond.selects RX2 yX2_day yX2_day, Cond.code yX2_day cX2_day 1 (some .int)]
def wsX2_begin : List Cond := .code yX2_begin cX2_begin 4 none :: ((wsX2_begin_r1 ++ (wsX2_begin_r2 ++ (wsX2_begin_r3 ++ (wsX2_begin_r4 ++ wsX2_begin_r5)))) ++ wsX30 ++ wsX50 ++ wsX20 ++ wsX00)
def wsX2_sooner : List Cond := .code yX2_sooner cX2_sooner 3 (some .int) :: ([.fieldLink RX2 50 "DishPointer$State" "time" "I"] ++ wsX20)
def wsX2_nextEvent : List Cond := .code yX2_nextEvent cX2_nextEvent 6 (some .int) :: ([.fieldLink RX2 32 "DishPointer$State" "targets" "[LDishPointer$Target;", .fieldLink RX2 128 "DishPointer$Target" "state" "I", .fieldLink RX2 190 "DishPointer$Target" "slewedAt" "I", .fieldLink RX2 131 "DishPointer$Target" "doneAt" "I", .fieldLink RX2 142 "DishPointer$Target" "from" "I", .fieldLink RX2 145 "DishPointer$Target" "to" "I", .methodLink RX2 73 yX2_day, .instanceMethod yX2_day, .selects RX2 yX2_day yX2_day, .initialized RX2, .code yX2_day cX2_day 1 (some .int), .fieldLink RX2 50 "DishPointer$State" "time" "I", .methodLink RX2 193 yX2_sooner, .instanceMethod yX2_sooner, .selects RX2 yX2_sooner yX2_sooner, .code yX2_sooner cX2_sooner 3 (some .int)] ++ wsX20 ++ wsX30)
def wsX2_letPass_r1 : List Cond := [Cond.fieldLink RX2 50 "DishPointer$State" "time" "I", Cond.fieldLink RX2 32 "DishPointer$State" "targets" "[LDishPointer$Target;", Cond.methodLink RX2 80 yX2_kindOfDay, Cond.instanceMethod yX2_kindOfDay, Cond.selects RX2 yX2_kindOfDay yX2_kindOfDay, Cond.initialized RX2, Cond.code yX2_kindOfDay cX2_kindOfDay 2 (some .int), Cond.fieldLink RX2 9 "DishPointer$State" "settings" "[I", Cond.methodLink RX2 77 yX2_gustToday, Cond.instanceMethod yX2_gustToday, Cond.selects RX2 yX2_gustToday yX2_gustToday, Cond.code yX2_gustToday cX2_gustToday 2 (some .int), Cond.fieldLink RX2 15 "DishPointer$State" "gusts" "[I", Cond.methodLink RX2 73 yX2_day, Cond.instanceMethod yX2_day, Cond.selects RX2 yX2_day yX2_day, Cond.code yX2_day cX2_day 1 (some .int), Cond.methodLink RX2 175 yX2_beginHold, Cond.instanceMethod yX2_beginHold, Cond.selects RX2 yX2_beginHold yX2_beginHold, Cond.code yX2_beginHold cX2_beginHold 5 none, Cond.fieldLink RX2 57 "DishPointer$State" "holds" "I", Cond.fieldLink RX2 128 "DishPointer$Target" "state" "I", Cond.fieldLink RX2 154 "DishPointer$Target" "breaks" "I"]
def wsX2_letPass_r2 : List Cond := [Cond.fieldLink RX2 27 "DishPointer$State" "elevation" "LDishPointer$Axis;", Cond.methodLink RX2 196 yX0_moveTo, Cond.instanceMethod yX0_moveTo, Cond.selects RX0 yX0_moveTo yX0_moveTo, Cond.initialized RX0, Cond.code yX0_moveTo cX0_moveTo 3 none, Cond.fieldLink RX0 21 "DishPointer$Axis" "motor" "I", Cond.fieldLink RX0 36 "DishPointer$Axis" "wentUp" "I", Cond.fieldLink RX0 33 "DishPointer$Axis" "slack" "I", Cond.fieldLink RX0 24 "DishPointer$Axis" "play" "I", Cond.methodLink RX0 46 Lib.Math.min.name, Cond.static Lib.Math.min.name, Cond.initialized "java/lang/Math", Cond.code Lib.Math.min.name Lib.Math.min.code 2 (some .int), Cond.fieldLink RX0 39 "DishPointer$Axis" "wentDown" "I", Cond.methodLink RX0 52 Lib.Math.max.name, Cond.static Lib.Math.max.name, Cond.code Lib.Math.max.name Lib.Math.max.code 2 (some .int), Cond.methodLink RX2 178 yX2_endWhatIsOver, Cond.instanceMethod yX2_endWhatIsOver, Cond.selects RX2 yX2_endWhatIsOver yX2_endWhatIsOver, Cond.code yX2_endWhatIsOver cX2_endWhatIsOver 5 none, Cond.fieldLink RX2 145 "DishPointer$Target" "to" "I", Cond.methodLink RX2 200 yX2_goOnWith]
def wsX2_letPass_r3 : List Cond := [Cond.instanceMethod yX2_goOnWith, Cond.selects RX2 yX2_goOnWith yX2_goOnWith, Cond.code yX2_goOnWith cX2_goOnWith 2 none, Cond.fieldLink RX2 131 "DishPointer$Target" "doneAt" "I", Cond.fieldLink RX2 23 "DishPointer$State" "azimuth" "LDishPointer$Axis;", Cond.fieldLink RX2 206 "DishPointer$Target" "place" "I", Cond.fieldLink RX2 207 "DishPointer$Target" "error" "I", Cond.methodLink RX2 203 yX2_lookAtSlew, Cond.instanceMethod yX2_lookAtSlew, Cond.selects RX2 yX2_lookAtSlew yX2_lookAtSlew, Cond.code yX2_lookAtSlew cX2_lookAtSlew 2 none, Cond.fieldLink RX2 210 "DishPointer$Target" "slewLookedAt" "Z", Cond.fieldLink RX2 190 "DishPointer$Target" "slewedAt" "I", Cond.fieldLink RX2 213 "DishPointer$Axis" "play" "I", Cond.fieldLink RX2 216 "DishPointer$Axis" "slack" "I", Cond.methodLink RX2 83 yX0_dish, Cond.instanceMethod yX0_dish, Cond.selects RX0 yX0_dish yX0_dish, Cond.code yX0_dish cX0_dish 1 (some .int), Cond.methodLink RX2 181 yX2_bestToBegin, Cond.instanceMethod yX2_bestToBegin, Cond.selects RX2 yX2_bestToBegin yX2_bestToBegin, Cond.code yX2_bestToBegin cX2_bestToBegin 3 (some .int), Cond.methodLink RX2 167 yX2_reasonAgainst]
def wsX2_letPass_r4 : List Cond := [Cond.instanceMethod yX2_reasonAgainst, Cond.selects RX2 yX2_reasonAgainst yX2_reasonAgainst, Cond.code yX2_reasonAgainst cX2_reasonAgainst 4 (some .int), Cond.fieldLink RX2 142 "DishPointer$Target" "from" "I", Cond.fieldLink RX2 140 "DishPointer$Target" "elevation" "I", Cond.fieldLink RX2 102 "DishPointer$Way" "possible" "Z", Cond.fieldLink RX2 138 "DishPointer$Target" "azimuth" "I", Cond.fieldLink RX2 124 "DishPointer$Way" "time" "I", Cond.methodLink RX2 125 Lib.Math.max.name, Cond.fieldLink RX2 148 "DishPointer$Target" "dwell" "I", Cond.methodLink RX2 157 yX2_numberUnderWay, Cond.instanceMethod yX2_numberUnderWay, Cond.selects RX2 yX2_numberUnderWay yX2_numberUnderWay, Cond.code yX2_numberUnderWay cX2_numberUnderWay 2 (some .int), Cond.methodLink RX2 160 yX2_wayRise, Cond.instanceMethod yX2_wayRise, Cond.selects RX2 yX2_wayRise yX2_wayRise, Cond.code yX2_wayRise cX2_wayRise 2 (some (.object "DishPointer$Way")), Cond.fieldLink RX2 46 "DishPointer$State" "riseWay" "LDishPointer$Way;", Cond.methodLink RX2 98 yX5_plan, Cond.instanceMethod yX5_plan, Cond.selects RX5 yX5_plan yX5_plan, Cond.initialized RX5, Cond.code yX5_plan cX5_plan 6 none]
def wsX2_letPass_r5 : List Cond := [Cond.fieldLink RX5 15 "DishPointer$Way" "place" "I", Cond.fieldLink RX5 21 "DishPointer$Axis" "side" "I", Cond.fieldLink RX5 24 "DishPointer$Axis" "slack" "I", Cond.fieldLink RX5 27 "DishPointer$Axis" "play" "I", Cond.fieldLink RX5 30 "DishPointer$Way" "turns" "Z", Cond.fieldLink RX5 34 "DishPointer$Way" "turn" "I", Cond.fieldLink RX5 37 "DishPointer$Way" "end" "I", Cond.fieldLink RX5 40 "DishPointer$Axis" "motor" "I", Cond.fieldLink RX5 47 "DishPointer$Way" "possible" "Z", Cond.methodLink RX5 50 Lib.Math.abs.name, Cond.static Lib.Math.abs.name, Cond.code Lib.Math.abs.name Lib.Math.abs.code 1 (some .int), Cond.fieldLink RX5 56 "DishPointer$Way" "length" "I", Cond.fieldLink RX5 59 "DishPointer$Axis" "speed" "I", Cond.fieldLink RX5 62 "DishPointer$Way" "time" "I", Cond.methodLink RX5 9 yX0_dish, Cond.methodLink RX5 43 yX0_reaches, Cond.instanceMethod yX0_reaches, Cond.selects RX0 yX0_reaches yX0_reaches, Cond.code yX0_reaches cX0_reaches 2 (some .boolean), Cond.fieldLink RX0 9 "DishPointer$Axis" "least" "I", Cond.fieldLink RX0 15 "DishPointer$Axis" "most" "I", Cond.methodLink RX2 164 yX2_wayAround, Cond.instanceMethod yX2_wayAround]
def wsX2_letPass_r6 : List Cond := [Cond.selects RX2 yX2_wayAround yX2_wayAround, Cond.code yX2_wayAround cX2_wayAround 2 (some (.object "DishPointer$Way")), Cond.fieldLink RX2 39 "DishPointer$State" "lowWay" "LDishPointer$Way;", Cond.constant RX2 86 (36000), Cond.fieldLink RX2 43 "DishPointer$State" "highWay" "LDishPointer$Way;", Cond.methodLink RX2 106 yX2_isLowWayTaken, Cond.instanceMethod yX2_isLowWayTaken, Cond.selects RX2 yX2_isLowWayTaken yX2_isLowWayTaken, Cond.code yX2_isLowWayTaken cX2_isLowWayTaken 5 (some .boolean), Cond.fieldLink RX2 110 "DishPointer$Way" "place" "I", Cond.methodLink RX2 113 Lib.Math.abs.name, Cond.fieldLink RX2 117 "DishPointer$Way" "length" "I", Cond.methodLink RX2 171 yX3_isBetterThan, Cond.instanceMethod yX3_isBetterThan, Cond.selects RX3 yX3_isBetterThan yX3_isBetterThan, Cond.initialized RX3, Cond.code yX3_isBetterThan cX3_isBetterThan 2 (some .boolean), Cond.fieldLink RX3 30 "DishPointer$Target" "priority" "I", Cond.fieldLink RX3 24 "DishPointer$Target" "to" "I", Cond.methodLink RX2 184 yX2_begin, Cond.instanceMethod yX2_begin, Cond.selects RX2 yX2_begin yX2_begin, Cond.code yX2_begin cX2_begin 4 none, Cond.fieldLink RX2 219 "DishPointer$Target" "begunAt" "I"]
def wsX2_letPass_r7 : List Cond := [Cond.methodLink RX2 222 yX2_followWays, Cond.instanceMethod yX2_followWays, Cond.selects RX2 yX2_followWays yX2_followWays, Cond.code yX2_followWays cX2_followWays 3 (some .int), Cond.fieldLink RX2 54 "DishPointer$State" "slews" "I", Cond.methodLink RX2 120 yX0_follow, Cond.instanceMethod yX0_follow, Cond.selects RX0 yX0_follow yX0_follow, Cond.code yX0_follow cX0_follow 2 none, Cond.fieldLink RX0 55 "DishPointer$Way" "turn" "I", Cond.fieldLink RX0 64 "DishPointer$Way" "end" "I", Cond.methodLink RX0 60 yX0_moveTo, Cond.methodLink RX2 187 yX2_nextEvent, Cond.instanceMethod yX2_nextEvent, Cond.selects RX2 yX2_nextEvent yX2_nextEvent, Cond.code yX2_nextEvent cX2_nextEvent 6 (some .int), Cond.methodLink RX2 193 yX2_sooner, Cond.instanceMethod yX2_sooner, Cond.selects RX2 yX2_sooner yX2_sooner, Cond.code yX2_sooner cX2_sooner 3 (some .int)]
def wsX2_letPass : List Cond := .code yX2_letPass cX2_letPass 7 none :: ((wsX2_letPass_r1 ++ (wsX2_letPass_r2 ++ (wsX2_letPass_r3 ++ (wsX2_letPass_r4 ++ (wsX2_letPass_r5 ++ (wsX2_letPass_r6 ++ wsX2_letPass_r7)))))) ++ wsX20 ++ wsX30 ++ wsX00 ++ wsX50)
def wsX3_ifBegun : List Cond := .code yX3_ifBegun cX3_ifBegun 2 (some .int) :: ([.fieldLink RX3 9 "DishPointer$Target" "state" "I", .constant RX3 59 (-100004)] ++ wsX30)
def wsX3_tell : List Cond := .code yX3_tell cX3_tell 2 (some .int) :: ([.fieldLink RX3 15 "DishPointer$Target" "azimuth" "I", .fieldLink RX3 18 "DishPointer$Target" "elevation" "I", .fieldLink RX3 21 "DishPointer$Target" "from" "I", .fieldLink RX3 24 "DishPointer$Target" "to" "I", .fieldLink RX3 27 "DishPointer$Target" "dwell" "I", .fieldLink RX3 30 "DishPointer$Target" "priority" "I", .fieldLink RX3 9 "DishPointer$Target" "state" "I", .fieldLink RX3 33 "DishPointer$Target" "begunAt" "I", .fieldLink RX3 36 "DishPointer$Target" "slewedAt" "I", .fieldLink RX3 39 "DishPointer$Target" "doneAt" "I", .fieldLink RX3 42 "DishPointer$Target" "error" "I", .constant RX3 59 (-100004), .fieldLink RX3 45 "DishPointer$Target" "breaks" "I", .fieldLink RX3 48 "DishPointer$Target" "place" "I", .constant RX3 60 (-100001), .methodLink RX3 55 yX3_ifBegun, .instanceMethod yX3_ifBegun, .selects RX3 yX3_ifBegun yX3_ifBegun, .initialized RX3, .code yX3_ifBegun cX3_ifBegun 2 (some .int)] ++ wsX30)
def wsX4_init : List Cond := .code yX4_init cX4_init 1 none :: ([.methodLink RX4 3 objectInit, .instanceMethod objectInit, .code objectInit ⟨#[0xb1]⟩ 1 none, .arrayClass .char, .fieldLink RX4 9 "DishPointer$TargetText" "signs" "[C", .arrayClass .int, .fieldLink RX4 15 "DishPointer$TargetText" "numbers" "[I"] ++ wsX40)
def wsX4_append : List Cond := .code yX4_append cX4_append 2 none :: ([.fieldLink RX4 19 "DishPointer$TargetText" "length" "I", .fieldLink RX4 9 "DishPointer$TargetText" "signs" "[C"] ++ wsX40)
def wsX4_signAt : List Cond := .code yX4_signAt cX4_signAt 2 (some .char) :: ([.fieldLink RX4 19 "DishPointer$TargetText" "length" "I", .fieldLink RX4 9 "DishPointer$TargetText" "signs" "[C"] ++ wsX40)
def wsX4_isDigit : List Cond := .code yX4_isDigit cX4_isDigit 1 (some .boolean) :: ([])
def wsX4_readPart : List Cond := .code yX4_readPart cX4_readPart 5 (some .int) :: ([.fieldLink RX4 15 "DishPointer$TargetText" "numbers" "[I", .methodLink RX4 47 yX4_signAt, .instanceMethod yX4_signAt, .selects RX4 yX4_signAt yX4_signAt, .initialized RX4, .code yX4_signAt cX4_signAt 2 (some .char), .fieldLink RX4 19 "DishPointer$TargetText" "length" "I", .fieldLink RX4 9 "DishPointer$TargetText" "signs" "[C", .methodLink RX4 54 yX4_isDigit, .static yX4_isDigit, .code yX4_isDigit cX4_isDigit 1 (some .boolean)] ++ wsX40)
def wsX4_readTarget : List Cond := .code yX4_readTarget cX4_readTarget 4 (some .int) :: ([.fieldLink RX4 15 "DishPointer$TargetText" "numbers" "[I", .methodLink RX4 44 yX4_readPart, .instanceMethod yX4_readPart, .selects RX4 yX4_readPart yX4_readPart, .initialized RX4, .code yX4_readPart cX4_readPart 5 (some .int), .methodLink RX4 47 yX4_signAt, .instanceMethod yX4_signAt, .selects RX4 yX4_signAt yX4_signAt, .code yX4_signAt cX4_signAt 2 (some .char), .fieldLink RX4 19 "DishPointer$TargetText" "length" "I", .fieldLink RX4 9 "DishPointer$TargetText" "signs" "[C", .methodLink RX4 54 yX4_isDigit, .static yX4_isDigit, .code yX4_isDigit cX4_isDigit 1 (some .boolean)] ++ wsX40)
def wsX6_isBetween : List Cond := .code yX6_isBetween cX6_isBetween 3 (some .boolean) :: ([])
def wsX6_isTargetInRange : List Cond := .code yX6_isTargetInRange cX6_isTargetInRange 6 (some .boolean) :: ([.constant RX6 104 (35999), .constant RX6 176 (43200), .methodLink RX6 37 yX6_isBetween, .static yX6_isBetween, .initialized RX6, .code yX6_isBetween cX6_isBetween 3 (some .boolean)])
def wsX4_reasonAgainstEntry : List Cond := .code yX4_reasonAgainstEntry cX4_reasonAgainstEntry 3 (some .int) :: ([.fieldLink RX4 15 "DishPointer$TargetText" "numbers" "[I", .fieldLink RX4 23 "DishPointer$TargetText" "entries" "I", .static yX6_isTargetInRange, .initialized RX6, .code yX6_isTargetInRange cX6_isTargetInRange 6 (some .boolean), .constant RX6 104 (35999), .constant RX6 176 (43200), .methodLink RX6 37 yX6_isBetween, .static yX6_isBetween, .code yX6_isBetween cX6_isBetween 3 (some .boolean)] ++ wsX40)
def wsX4_check_r1 : List Cond := [Cond.fieldLink RX4 23 "DishPointer$TargetText" "entries" "I", Cond.fieldLink RX4 26 "DishPointer$TargetText" "faultReason" "I", Cond.fieldLink RX4 19 "DishPointer$TargetText" "length" "I", Cond.fieldLink RX4 37 "DishPointer$TargetText" "faultPlace" "I", Cond.methodLink RX4 29 yX4_readTarget, Cond.instanceMethod yX4_readTarget, Cond.selects RX4 yX4_readTarget yX4_readTarget, Cond.initialized RX4, Cond.code yX4_readTarget cX4_readTarget 4 (some .int), Cond.fieldLink RX4 15 "DishPointer$TargetText" "numbers" "[I", Cond.methodLink RX4 44 yX4_readPart, Cond.instanceMethod yX4_readPart, Cond.selects RX4 yX4_readPart yX4_readPart, Cond.code yX4_readPart cX4_readPart 5 (some .int), Cond.methodLink RX4 47 yX4_signAt, Cond.instanceMethod yX4_signAt, Cond.selects RX4 yX4_signAt yX4_signAt, Cond.code yX4_signAt cX4_signAt 2 (some .char), Cond.fieldLink RX4 9 "DishPointer$TargetText" "signs" "[C", Cond.methodLink RX4 54 yX4_isDigit, Cond.static yX4_isDigit, Cond.code yX4_isDigit cX4_isDigit 1 (some .boolean), Cond.methodLink RX4 33 yX4_reasonAgainstEntry, Cond.instanceMethod yX4_reasonAgainstEntry]
def wsX4_check_r2 : List Cond := [Cond.selects RX4 yX4_reasonAgainstEntry yX4_reasonAgainstEntry, Cond.code yX4_reasonAgainstEntry cX4_reasonAgainstEntry 3 (some .int), Cond.static yX6_isTargetInRange, Cond.initialized RX6, Cond.code yX6_isTargetInRange cX6_isTargetInRange 6 (some .boolean), Cond.constant RX6 104 (35999), Cond.constant RX6 176 (43200), Cond.methodLink RX6 37 yX6_isBetween, Cond.static yX6_isBetween, Cond.code yX6_isBetween cX6_isBetween 3 (some .boolean)]
def wsX4_check : List Cond := .code yX4_check cX4_check 5 none :: ((wsX4_check_r1 ++ wsX4_check_r2) ++ wsX40)
def wsX5_tell : List Cond := .code yX5_tell cX5_tell 2 (some .int) :: ([.fieldLink RX5 47 "DishPointer$Way" "possible" "Z", .constant RX5 65 (-100004), .fieldLink RX5 37 "DishPointer$Way" "end" "I", .fieldLink RX5 56 "DishPointer$Way" "length" "I", .fieldLink RX5 62 "DishPointer$Way" "time" "I", .fieldLink RX5 30 "DishPointer$Way" "turns" "Z", .fieldLink RX5 34 "DishPointer$Way" "turn" "I"] ++ wsX50)
def wsX6_init_r1 : List Cond := [Cond.methodLink RX6 1 objectInit, Cond.instanceMethod objectInit, Cond.code objectInit ⟨#[0xb1]⟩ 1 none, Cond.classLink RX6 7 RX2, Cond.instantiable RX2 11, Cond.initialized RX2, Cond.fieldLink RX6 10 "DishPointer" "now" "LDishPointer$State;", Cond.fieldLink RX6 16 "DishPointer" "trial" "LDishPointer$State;", Cond.classLink RX6 19 RX1, Cond.instantiable RX1 2, Cond.initialized RX1, Cond.fieldLink RX6 22 "DishPointer" "history" "LDishPointer$History;", Cond.classLink RX6 26 RX4, Cond.instantiable RX4 6, Cond.initialized RX4, Cond.fieldLink RX6 29 "DishPointer" "text" "LDishPointer$TargetText;", Cond.methodLink RX6 9 yX2_init, Cond.instanceMethod yX2_init, Cond.code yX2_init cX2_init 2 none, Cond.methodLink RX2 3 objectInit, Cond.arrayClass .int, Cond.fieldLink RX2 9 "DishPointer$State" "settings" "[I", Cond.fieldLink RX2 15 "DishPointer$State" "gusts" "[I", Cond.classLink RX2 18 RX0]
def wsX6_init_r2 : List Cond := [Cond.instantiable RX0 10, Cond.initialized RX0, Cond.fieldLink RX2 23 "DishPointer$State" "azimuth" "LDishPointer$Axis;", Cond.fieldLink RX2 27 "DishPointer$State" "elevation" "LDishPointer$Axis;", Cond.classLink RX2 30 RX3, Cond.fieldLink RX2 32 "DishPointer$State" "targets" "[LDishPointer$Target;", Cond.classLink RX2 36 RX5, Cond.instantiable RX5 7, Cond.initialized RX5, Cond.fieldLink RX2 39 "DishPointer$State" "lowWay" "LDishPointer$Way;", Cond.fieldLink RX2 43 "DishPointer$State" "highWay" "LDishPointer$Way;", Cond.fieldLink RX2 46 "DishPointer$State" "riseWay" "LDishPointer$Way;", Cond.instantiable RX3 14, Cond.initialized RX3, Cond.methodLink RX2 20 yX0_init, Cond.instanceMethod yX0_init, Cond.code yX0_init cX0_init 6 none, Cond.methodLink RX0 3 objectInit, Cond.fieldLink RX0 9 "DishPointer$Axis" "least" "I", Cond.fieldLink RX0 15 "DishPointer$Axis" "most" "I", Cond.fieldLink RX0 18 "DishPointer$Axis" "start" "I", Cond.fieldLink RX0 21 "DishPointer$Axis" "motor" "I", Cond.fieldLink RX0 24 "DishPointer$Axis" "play" "I", Cond.fieldLink RX0 27 "DishPointer$Axis" "speed" "I"]
def wsX6_init_r3 : List Cond := [Cond.instanceMethod yX5_init, Cond.code yX5_init cX5_init 1 none, Cond.methodLink RX5 3 objectInit, Cond.instanceMethod yX3_init, Cond.code yX3_init cX3_init 1 none, Cond.methodLink RX3 3 objectInit, Cond.fieldLink RX3 9 "DishPointer$Target" "state" "I", Cond.methodLink RX6 21 yX1_init, Cond.instanceMethod yX1_init, Cond.code yX1_init cX1_init 2 none, Cond.methodLink RX1 3 objectInit, Cond.classLink RX1 9 RX2, Cond.fieldLink RX1 11 "DishPointer$History" "states" "[LDishPointer$State;", Cond.methodLink RX1 17 yX2_init, Cond.instanceMethod yX4_init, Cond.code yX4_init cX4_init 1 none, Cond.methodLink RX4 3 objectInit, Cond.arrayClass .char, Cond.fieldLink RX4 9 "DishPointer$TargetText" "signs" "[C", Cond.fieldLink RX4 15 "DishPointer$TargetText" "numbers" "[I"]
def wsX6_init : List Cond := .code yX6_init cX6_init 1 none :: ((wsX6_init_r1 ++ (wsX6_init_r2 ++ wsX6_init_r3)) ++ wsX20 ++ wsX60 ++ wsX10 ++ wsX40 ++ wsX00 ++ wsX50 ++ wsX30)
def wsX6_set_r1 : List Cond := [Cond.fieldLink RX6 33 "DishPointer" "SETTING_MOST" "[I", Cond.constant RX6 41 (-100001), Cond.fieldLink RX6 22 "DishPointer" "history" "LDishPointer$History;", Cond.fieldLink RX6 10 "DishPointer" "now" "LDishPointer$State;", Cond.methodLink RX6 37 yX6_isBetween, Cond.static yX6_isBetween, Cond.initialized RX6, Cond.code yX6_isBetween cX6_isBetween 3 (some .boolean), Cond.methodLink RX6 42 yX1_record, Cond.instanceMethod yX1_record, Cond.selects RX1 yX1_record yX1_record, Cond.initialized RX1, Cond.code yX1_record cX1_record 2 none, Cond.fieldLink RX1 18 "DishPointer$History" "size" "I", Cond.fieldLink RX1 11 "DishPointer$History" "states" "[LDishPointer$State;", Cond.methodLink RX1 22 yX1_dropOldest, Cond.instanceMethod yX1_dropOldest, Cond.selects RX1 yX1_dropOldest yX1_dropOldest, Cond.code yX1_dropOldest cX1_dropOldest 3 none, Cond.methodLink RX1 25 yX2_copyFrom, Cond.instanceMethod yX2_copyFrom, Cond.selects RX2 yX2_copyFrom yX2_copyFrom, Cond.initialized RX2, Cond.code yX2_copyFrom cX2_copyFrom 3 none]
def wsX6_set_r2 : List Cond := [Cond.fieldLink RX2 50 "DishPointer$State" "time" "I", Cond.fieldLink RX2 54 "DishPointer$State" "slews" "I", Cond.fieldLink RX2 57 "DishPointer$State" "holds" "I", Cond.fieldLink RX2 9 "DishPointer$State" "settings" "[I", Cond.methodLink RX2 60 arraycopyName, Cond.native arraycopyName, Cond.static arraycopyName, Cond.initialized "java/lang/System", Cond.fieldLink RX2 15 "DishPointer$State" "gusts" "[I", Cond.fieldLink RX2 23 "DishPointer$State" "azimuth" "LDishPointer$Axis;", Cond.fieldLink RX2 27 "DishPointer$State" "elevation" "LDishPointer$Axis;", Cond.fieldLink RX2 32 "DishPointer$State" "targets" "[LDishPointer$Target;", Cond.methodLink RX2 66 yX0_copyFrom, Cond.instanceMethod yX0_copyFrom, Cond.selects RX0 yX0_copyFrom yX0_copyFrom, Cond.initialized RX0, Cond.code yX0_copyFrom cX0_copyFrom 2 none, Cond.fieldLink RX0 24 "DishPointer$Axis" "play" "I", Cond.fieldLink RX0 30 "DishPointer$Axis" "side" "I", Cond.fieldLink RX0 27 "DishPointer$Axis" "speed" "I", Cond.fieldLink RX0 21 "DishPointer$Axis" "motor" "I", Cond.fieldLink RX0 33 "DishPointer$Axis" "slack" "I", Cond.fieldLink RX0 36 "DishPointer$Axis" "wentUp" "I", Cond.fieldLink RX0 39 "DishPointer$Axis" "wentDown" "I"]
def wsX6_set_r3 : List Cond := [Cond.methodLink RX2 70 yX3_copyFrom, Cond.instanceMethod yX3_copyFrom, Cond.selects RX3 yX3_copyFrom yX3_copyFrom, Cond.initialized RX3, Cond.code yX3_copyFrom cX3_copyFrom 2 none, Cond.fieldLink RX3 15 "DishPointer$Target" "azimuth" "I", Cond.fieldLink RX3 18 "DishPointer$Target" "elevation" "I", Cond.fieldLink RX3 21 "DishPointer$Target" "from" "I", Cond.fieldLink RX3 24 "DishPointer$Target" "to" "I", Cond.fieldLink RX3 27 "DishPointer$Target" "dwell" "I", Cond.fieldLink RX3 30 "DishPointer$Target" "priority" "I", Cond.fieldLink RX3 9 "DishPointer$Target" "state" "I", Cond.fieldLink RX3 33 "DishPointer$Target" "begunAt" "I", Cond.fieldLink RX3 36 "DishPointer$Target" "slewedAt" "I", Cond.fieldLink RX3 39 "DishPointer$Target" "doneAt" "I", Cond.fieldLink RX3 42 "DishPointer$Target" "error" "I", Cond.fieldLink RX3 45 "DishPointer$Target" "breaks" "I", Cond.fieldLink RX3 48 "DishPointer$Target" "place" "I", Cond.fieldLink RX3 51 "DishPointer$Target" "slewLookedAt" "Z", Cond.methodLink RX6 46 yX2_changeSetting, Cond.instanceMethod yX2_changeSetting, Cond.selects RX2 yX2_changeSetting yX2_changeSetting, Cond.code yX2_changeSetting cX2_changeSetting 4 (some .int)]
def wsX6_set : List Cond := .code yX6_set cX6_set 3 (some .int) :: ((wsX6_set_r1 ++ (wsX6_set_r2 ++ wsX6_set_r3)) ++ wsX60 ++ wsX10 ++ wsX20 ++ wsX00 ++ wsX30)
def wsX6_setAxis_r1 : List Cond := [Cond.fieldLink RX6 50 "DishPointer" "AXIS_MOST" "[I", Cond.fieldLink RX6 53 "DishPointer" "AXIS_LEAST" "[I", Cond.constant RX6 41 (-100001), Cond.fieldLink RX6 22 "DishPointer" "history" "LDishPointer$History;", Cond.fieldLink RX6 10 "DishPointer" "now" "LDishPointer$State;", Cond.methodLink RX6 37 yX6_isBetween, Cond.static yX6_isBetween, Cond.initialized RX6, Cond.code yX6_isBetween cX6_isBetween 3 (some .boolean), Cond.methodLink RX6 42 yX1_record, Cond.instanceMethod yX1_record, Cond.selects RX1 yX1_record yX1_record, Cond.initialized RX1, Cond.code yX1_record cX1_record 2 none, Cond.fieldLink RX1 18 "DishPointer$History" "size" "I", Cond.fieldLink RX1 11 "DishPointer$History" "states" "[LDishPointer$State;", Cond.methodLink RX1 22 yX1_dropOldest, Cond.instanceMethod yX1_dropOldest, Cond.selects RX1 yX1_dropOldest yX1_dropOldest, Cond.code yX1_dropOldest cX1_dropOldest 3 none, Cond.methodLink RX1 25 yX2_copyFrom, Cond.instanceMethod yX2_copyFrom, Cond.selects RX2 yX2_copyFrom yX2_copyFrom, Cond.initialized RX2]
def wsX6_setAxis_r2 : List Cond := [Cond.code yX2_copyFrom cX2_copyFrom 3 none, Cond.fieldLink RX2 50 "DishPointer$State" "time" "I", Cond.fieldLink RX2 54 "DishPointer$State" "slews" "I", Cond.fieldLink RX2 57 "DishPointer$State" "holds" "I", Cond.fieldLink RX2 9 "DishPointer$State" "settings" "[I", Cond.methodLink RX2 60 arraycopyName, Cond.native arraycopyName, Cond.static arraycopyName, Cond.initialized "java/lang/System", Cond.fieldLink RX2 15 "DishPointer$State" "gusts" "[I", Cond.fieldLink RX2 23 "DishPointer$State" "azimuth" "LDishPointer$Axis;", Cond.fieldLink RX2 27 "DishPointer$State" "elevation" "LDishPointer$Axis;", Cond.fieldLink RX2 32 "DishPointer$State" "targets" "[LDishPointer$Target;", Cond.methodLink RX2 66 yX0_copyFrom, Cond.instanceMethod yX0_copyFrom, Cond.selects RX0 yX0_copyFrom yX0_copyFrom, Cond.initialized RX0, Cond.code yX0_copyFrom cX0_copyFrom 2 none, Cond.fieldLink RX0 24 "DishPointer$Axis" "play" "I", Cond.fieldLink RX0 30 "DishPointer$Axis" "side" "I", Cond.fieldLink RX0 27 "DishPointer$Axis" "speed" "I", Cond.fieldLink RX0 21 "DishPointer$Axis" "motor" "I", Cond.fieldLink RX0 33 "DishPointer$Axis" "slack" "I", Cond.fieldLink RX0 36 "DishPointer$Axis" "wentUp" "I"]
def wsX6_setAxis_r3 : List Cond := [Cond.fieldLink RX0 39 "DishPointer$Axis" "wentDown" "I", Cond.methodLink RX2 70 yX3_copyFrom, Cond.instanceMethod yX3_copyFrom, Cond.selects RX3 yX3_copyFrom yX3_copyFrom, Cond.initialized RX3, Cond.code yX3_copyFrom cX3_copyFrom 2 none, Cond.fieldLink RX3 15 "DishPointer$Target" "azimuth" "I", Cond.fieldLink RX3 18 "DishPointer$Target" "elevation" "I", Cond.fieldLink RX3 21 "DishPointer$Target" "from" "I", Cond.fieldLink RX3 24 "DishPointer$Target" "to" "I", Cond.fieldLink RX3 27 "DishPointer$Target" "dwell" "I", Cond.fieldLink RX3 30 "DishPointer$Target" "priority" "I", Cond.fieldLink RX3 9 "DishPointer$Target" "state" "I", Cond.fieldLink RX3 33 "DishPointer$Target" "begunAt" "I", Cond.fieldLink RX3 36 "DishPointer$Target" "slewedAt" "I", Cond.fieldLink RX3 39 "DishPointer$Target" "doneAt" "I", Cond.fieldLink RX3 42 "DishPointer$Target" "error" "I", Cond.fieldLink RX3 45 "DishPointer$Target" "breaks" "I", Cond.fieldLink RX3 48 "DishPointer$Target" "place" "I", Cond.fieldLink RX3 51 "DishPointer$Target" "slewLookedAt" "Z", Cond.methodLink RX6 56 yX2_axisNumber, Cond.instanceMethod yX2_axisNumber, Cond.selects RX2 yX2_axisNumber yX2_axisNumber, Cond.code yX2_axisNumber cX2_axisNumber 2 (some (.object "DishPointer$Axis"))]
def wsX6_setAxis_r4 : List Cond := [Cond.methodLink RX6 60 yX0_change, Cond.instanceMethod yX0_change, Cond.selects RX0 yX0_change yX0_change, Cond.code yX0_change cX0_change 4 (some .int), Cond.methodLink RX0 46 Lib.Math.min.name, Cond.static Lib.Math.min.name, Cond.initialized "java/lang/Math", Cond.code Lib.Math.min.name Lib.Math.min.code 2 (some .int), Cond.methodLink RX0 42 yX0_tell, Cond.instanceMethod yX0_tell, Cond.selects RX0 yX0_tell yX0_tell, Cond.code yX0_tell cX0_tell 2 (some .int), Cond.fieldLink RX0 18 "DishPointer$Axis" "start" "I", Cond.constant RX0 71 (-100001), Cond.methodLink RX0 67 yX0_dish, Cond.instanceMethod yX0_dish, Cond.selects RX0 yX0_dish yX0_dish, Cond.code yX0_dish cX0_dish 1 (some .int)]
def wsX6_setAxis : List Cond := .code yX6_setAxis cX6_setAxis 4 (some .int) :: ((wsX6_setAxis_r1 ++ (wsX6_setAxis_r2 ++ (wsX6_setAxis_r3 ++ wsX6_setAxis_r4))) ++ wsX60 ++ wsX10 ++ wsX20 ++ wsX00 ++ wsX30)
def wsX6_gust_r1 : List Cond := [Cond.constant RX6 41 (-100001), Cond.fieldLink RX6 10 "DishPointer" "now" "LDishPointer$State;", Cond.fieldLink RX6 65 "DishPointer$State" "time" "I", Cond.constant RX6 69 (-100002), Cond.fieldLink RX6 22 "DishPointer" "history" "LDishPointer$History;", Cond.methodLink RX6 37 yX6_isBetween, Cond.static yX6_isBetween, Cond.initialized RX6, Cond.code yX6_isBetween cX6_isBetween 3 (some .boolean), Cond.methodLink RX6 42 yX1_record, Cond.instanceMethod yX1_record, Cond.selects RX1 yX1_record yX1_record, Cond.initialized RX1, Cond.code yX1_record cX1_record 2 none, Cond.fieldLink RX1 18 "DishPointer$History" "size" "I", Cond.fieldLink RX1 11 "DishPointer$History" "states" "[LDishPointer$State;", Cond.methodLink RX1 22 yX1_dropOldest, Cond.instanceMethod yX1_dropOldest, Cond.selects RX1 yX1_dropOldest yX1_dropOldest, Cond.code yX1_dropOldest cX1_dropOldest 3 none, Cond.methodLink RX1 25 yX2_copyFrom, Cond.instanceMethod yX2_copyFrom, Cond.selects RX2 yX2_copyFrom yX2_copyFrom, Cond.initialized RX2]
def wsX6_gust_r2 : List Cond := [Cond.code yX2_copyFrom cX2_copyFrom 3 none, Cond.fieldLink RX2 50 "DishPointer$State" "time" "I", Cond.fieldLink RX2 54 "DishPointer$State" "slews" "I", Cond.fieldLink RX2 57 "DishPointer$State" "holds" "I", Cond.fieldLink RX2 9 "DishPointer$State" "settings" "[I", Cond.methodLink RX2 60 arraycopyName, Cond.native arraycopyName, Cond.static arraycopyName, Cond.initialized "java/lang/System", Cond.fieldLink RX2 15 "DishPointer$State" "gusts" "[I", Cond.fieldLink RX2 23 "DishPointer$State" "azimuth" "LDishPointer$Axis;", Cond.fieldLink RX2 27 "DishPointer$State" "elevation" "LDishPointer$Axis;", Cond.fieldLink RX2 32 "DishPointer$State" "targets" "[LDishPointer$Target;", Cond.methodLink RX2 66 yX0_copyFrom, Cond.instanceMethod yX0_copyFrom, Cond.selects RX0 yX0_copyFrom yX0_copyFrom, Cond.initialized RX0, Cond.code yX0_copyFrom cX0_copyFrom 2 none, Cond.fieldLink RX0 24 "DishPointer$Axis" "play" "I", Cond.fieldLink RX0 30 "DishPointer$Axis" "side" "I", Cond.fieldLink RX0 27 "DishPointer$Axis" "speed" "I", Cond.fieldLink RX0 21 "DishPointer$Axis" "motor" "I", Cond.fieldLink RX0 33 "DishPointer$Axis" "slack" "I", Cond.fieldLink RX0 36 "DishPointer$Axis" "wentUp" "I"]
def wsX6_gust_r3 : List Cond := [Cond.fieldLink RX0 39 "DishPointer$Axis" "wentDown" "I", Cond.methodLink RX2 70 yX3_copyFrom, Cond.instanceMethod yX3_copyFrom, Cond.selects RX3 yX3_copyFrom yX3_copyFrom, Cond.initialized RX3, Cond.code yX3_copyFrom cX3_copyFrom 2 none, Cond.fieldLink RX3 15 "DishPointer$Target" "azimuth" "I", Cond.fieldLink RX3 18 "DishPointer$Target" "elevation" "I", Cond.fieldLink RX3 21 "DishPointer$Target" "from" "I", Cond.fieldLink RX3 24 "DishPointer$Target" "to" "I", Cond.fieldLink RX3 27 "DishPointer$Target" "dwell" "I", Cond.fieldLink RX3 30 "DishPointer$Target" "priority" "I", Cond.fieldLink RX3 9 "DishPointer$Target" "state" "I", Cond.fieldLink RX3 33 "DishPointer$Target" "begunAt" "I", Cond.fieldLink RX3 36 "DishPointer$Target" "slewedAt" "I", Cond.fieldLink RX3 39 "DishPointer$Target" "doneAt" "I", Cond.fieldLink RX3 42 "DishPointer$Target" "error" "I", Cond.fieldLink RX3 45 "DishPointer$Target" "breaks" "I", Cond.fieldLink RX3 48 "DishPointer$Target" "place" "I", Cond.fieldLink RX3 51 "DishPointer$Target" "slewLookedAt" "Z", Cond.methodLink RX6 70 yX2_changeGust, Cond.instanceMethod yX2_changeGust, Cond.selects RX2 yX2_changeGust yX2_changeGust, Cond.code yX2_changeGust cX2_changeGust 4 (some .int)]
def wsX6_gust : List Cond := .code yX6_gust cX6_gust 3 (some .int) :: ((wsX6_gust_r1 ++ (wsX6_gust_r2 ++ wsX6_gust_r3)) ++ wsX60 ++ wsX20 ++ wsX10 ++ wsX00 ++ wsX30)
def wsX6_foundTarget : List Cond := .code yX6_foundTarget cX6_foundTarget 1 (some .int) :: ([.constant RX6 116 (-100004)])
def wsX6_count_r1 : List Cond := [Cond.fieldLink RX6 10 "DishPointer" "now" "LDishPointer$State;", Cond.fieldLink RX6 22 "DishPointer" "history" "LDishPointer$History;", Cond.fieldLink RX6 87 "DishPointer$History" "size" "I", Cond.fieldLink RX6 29 "DishPointer" "text" "LDishPointer$TargetText;", Cond.fieldLink RX6 90 "DishPointer$TargetText" "length" "I", Cond.methodLink RX6 73 yX2_targetsIn, Cond.instanceMethod yX2_targetsIn, Cond.selects RX2 yX2_targetsIn yX2_targetsIn, Cond.initialized RX2, Cond.code yX2_targetsIn cX2_targetsIn 7 (some .int), Cond.fieldLink RX2 32 "DishPointer$State" "targets" "[LDishPointer$Target;", Cond.fieldLink RX2 128 "DishPointer$Target" "state" "I", Cond.methodLink RX6 77 yX2_numberUnderWay, Cond.instanceMethod yX2_numberUnderWay, Cond.selects RX2 yX2_numberUnderWay yX2_numberUnderWay, Cond.code yX2_numberUnderWay cX2_numberUnderWay 2 (some .int), Cond.methodLink RX6 81 yX6_foundTarget, Cond.static yX6_foundTarget, Cond.initialized RX6, Cond.code yX6_foundTarget cX6_foundTarget 1 (some .int), Cond.constant RX6 116 (-100004), Cond.methodLink RX6 84 yX2_minutesUntilDone, Cond.instanceMethod yX2_minutesUntilDone, Cond.selects RX2 yX2_minutesUntilDone yX2_minutesUntilDone]
def wsX6_count_r2 : List Cond := [Cond.code yX2_minutesUntilDone cX2_minutesUntilDone 5 (some .int), Cond.fieldLink RX2 131 "DishPointer$Target" "doneAt" "I", Cond.fieldLink RX2 50 "DishPointer$State" "time" "I", Cond.constant RX2 134 (-100004), Cond.methodLink RX6 93 yX2_tell, Cond.instanceMethod yX2_tell, Cond.selects RX2 yX2_tell yX2_tell, Cond.code yX2_tell cX2_tell 2 (some .int), Cond.fieldLink RX2 9 "DishPointer$State" "settings" "[I", Cond.fieldLink RX2 54 "DishPointer$State" "slews" "I", Cond.fieldLink RX2 57 "DishPointer$State" "holds" "I", Cond.fieldLink RX2 23 "DishPointer$State" "azimuth" "LDishPointer$Axis;", Cond.constant RX2 86 (36000), Cond.constant RX2 93 (-100001), Cond.methodLink RX2 73 yX2_day, Cond.instanceMethod yX2_day, Cond.selects RX2 yX2_day yX2_day, Cond.code yX2_day cX2_day 1 (some .int), Cond.methodLink RX2 77 yX2_gustToday, Cond.instanceMethod yX2_gustToday, Cond.selects RX2 yX2_gustToday yX2_gustToday, Cond.code yX2_gustToday cX2_gustToday 2 (some .int), Cond.fieldLink RX2 15 "DishPointer$State" "gusts" "[I", Cond.methodLink RX2 80 yX2_kindOfDay]
def wsX6_count_r3 : List Cond := [Cond.instanceMethod yX2_kindOfDay, Cond.selects RX2 yX2_kindOfDay yX2_kindOfDay, Cond.code yX2_kindOfDay cX2_kindOfDay 2 (some .int), Cond.methodLink RX2 83 yX0_dish, Cond.instanceMethod yX0_dish, Cond.selects RX0 yX0_dish yX0_dish, Cond.initialized RX0, Cond.code yX0_dish cX0_dish 1 (some .int), Cond.fieldLink RX0 21 "DishPointer$Axis" "motor" "I", Cond.fieldLink RX0 33 "DishPointer$Axis" "slack" "I", Cond.methodLink RX2 87 yJ9_floorMod_7cf53, Cond.static yJ9_floorMod_7cf53, Cond.initialized RJ9, Cond.code yJ9_floorMod_7cf53 cJ9_floorMod_7cf53 3 (some .int)]
def wsX6_count : List Cond := .code yX6_count cX6_count 2 (some .int) :: ((wsX6_count_r1 ++ (wsX6_count_r2 ++ wsX6_count_r3)) ++ wsX60 ++ wsX10 ++ wsX40 ++ wsX20 ++ wsX30 ++ wsX00)
def wsX6_axis_r1 : List Cond := [Cond.constant RX6 41 (-100001), Cond.fieldLink RX6 10 "DishPointer" "now" "LDishPointer$State;", Cond.methodLink RX6 37 yX6_isBetween, Cond.static yX6_isBetween, Cond.initialized RX6, Cond.code yX6_isBetween cX6_isBetween 3 (some .boolean), Cond.methodLink RX6 56 yX2_axisNumber, Cond.instanceMethod yX2_axisNumber, Cond.selects RX2 yX2_axisNumber yX2_axisNumber, Cond.initialized RX2, Cond.code yX2_axisNumber cX2_axisNumber 2 (some (.object "DishPointer$Axis")), Cond.fieldLink RX2 23 "DishPointer$State" "azimuth" "LDishPointer$Axis;", Cond.fieldLink RX2 27 "DishPointer$State" "elevation" "LDishPointer$Axis;", Cond.methodLink RX6 96 yX0_tell, Cond.instanceMethod yX0_tell, Cond.selects RX0 yX0_tell yX0_tell, Cond.initialized RX0, Cond.code yX0_tell cX0_tell 2 (some .int), Cond.fieldLink RX0 24 "DishPointer$Axis" "play" "I", Cond.fieldLink RX0 30 "DishPointer$Axis" "side" "I", Cond.fieldLink RX0 27 "DishPointer$Axis" "speed" "I", Cond.fieldLink RX0 21 "DishPointer$Axis" "motor" "I", Cond.fieldLink RX0 33 "DishPointer$Axis" "slack" "I", Cond.fieldLink RX0 36 "DishPointer$Axis" "wentUp" "I"]
def wsX6_axis_r2 : List Cond := [Cond.fieldLink RX0 39 "DishPointer$Axis" "wentDown" "I", Cond.fieldLink RX0 18 "DishPointer$Axis" "start" "I", Cond.constant RX0 71 (-100001), Cond.methodLink RX0 67 yX0_dish, Cond.instanceMethod yX0_dish, Cond.selects RX0 yX0_dish yX0_dish, Cond.code yX0_dish cX0_dish 1 (some .int)]
def wsX6_axis : List Cond := .code yX6_axis cX6_axis 3 (some .int) :: ((wsX6_axis_r1 ++ wsX6_axis_r2) ++ wsX60 ++ wsX20 ++ wsX00)
def wsX6_way_r1 : List Cond := [Cond.constant RX6 41 (-100001), Cond.fieldLink RX6 10 "DishPointer" "now" "LDishPointer$State;", Cond.methodLink RX6 37 yX6_isBetween, Cond.static yX6_isBetween, Cond.initialized RX6, Cond.code yX6_isBetween cX6_isBetween 3 (some .boolean), Cond.methodLink RX6 97 yX2_plannedWay, Cond.instanceMethod yX2_plannedWay, Cond.selects RX2 yX2_plannedWay yX2_plannedWay, Cond.initialized RX2, Cond.code yX2_plannedWay cX2_plannedWay 4 (some (.object "DishPointer$Way")), Cond.fieldLink RX2 43 "DishPointer$State" "highWay" "LDishPointer$Way;", Cond.fieldLink RX2 46 "DishPointer$State" "riseWay" "LDishPointer$Way;", Cond.fieldLink RX2 9 "DishPointer$State" "settings" "[I", Cond.methodLink RX2 94 yX2_axisNumber, Cond.instanceMethod yX2_axisNumber, Cond.selects RX2 yX2_axisNumber yX2_axisNumber, Cond.code yX2_axisNumber cX2_axisNumber 2 (some (.object "DishPointer$Axis")), Cond.fieldLink RX2 23 "DishPointer$State" "azimuth" "LDishPointer$Axis;", Cond.fieldLink RX2 27 "DishPointer$State" "elevation" "LDishPointer$Axis;", Cond.methodLink RX2 98 yX5_plan, Cond.instanceMethod yX5_plan, Cond.selects RX5 yX5_plan yX5_plan, Cond.initialized RX5]
def wsX6_way_r2 : List Cond := [Cond.code yX5_plan cX5_plan 6 none, Cond.fieldLink RX5 15 "DishPointer$Way" "place" "I", Cond.fieldLink RX5 21 "DishPointer$Axis" "side" "I", Cond.fieldLink RX5 24 "DishPointer$Axis" "slack" "I", Cond.fieldLink RX5 27 "DishPointer$Axis" "play" "I", Cond.fieldLink RX5 30 "DishPointer$Way" "turns" "Z", Cond.fieldLink RX5 34 "DishPointer$Way" "turn" "I", Cond.fieldLink RX5 37 "DishPointer$Way" "end" "I", Cond.fieldLink RX5 40 "DishPointer$Axis" "motor" "I", Cond.fieldLink RX5 47 "DishPointer$Way" "possible" "Z", Cond.methodLink RX5 50 Lib.Math.abs.name, Cond.static Lib.Math.abs.name, Cond.initialized "java/lang/Math", Cond.code Lib.Math.abs.name Lib.Math.abs.code 1 (some .int), Cond.fieldLink RX5 56 "DishPointer$Way" "length" "I", Cond.fieldLink RX5 59 "DishPointer$Axis" "speed" "I", Cond.fieldLink RX5 62 "DishPointer$Way" "time" "I", Cond.methodLink RX5 9 yX0_dish, Cond.instanceMethod yX0_dish, Cond.selects RX0 yX0_dish yX0_dish, Cond.initialized RX0, Cond.code yX0_dish cX0_dish 1 (some .int), Cond.fieldLink RX0 21 "DishPointer$Axis" "motor" "I", Cond.fieldLink RX0 33 "DishPointer$Axis" "slack" "I"]
def wsX6_way_r3 : List Cond := [Cond.methodLink RX5 43 yX0_reaches, Cond.instanceMethod yX0_reaches, Cond.selects RX0 yX0_reaches yX0_reaches, Cond.code yX0_reaches cX0_reaches 2 (some .boolean), Cond.fieldLink RX0 9 "DishPointer$Axis" "least" "I", Cond.fieldLink RX0 15 "DishPointer$Axis" "most" "I", Cond.methodLink RX6 101 yX5_tell, Cond.instanceMethod yX5_tell, Cond.selects RX5 yX5_tell yX5_tell, Cond.code yX5_tell cX5_tell 2 (some .int), Cond.constant RX5 65 (-100004)]
def wsX6_way : List Cond := .code yX6_way cX6_way 4 (some .int) :: ((wsX6_way_r1 ++ (wsX6_way_r2 ++ wsX6_way_r3)) ++ wsX60 ++ wsX20 ++ wsX50 ++ wsX00)
def wsX6_placeFor_r1 : List Cond := [Cond.constant RX6 104 (35999), Cond.constant RX6 41 (-100001), Cond.fieldLink RX6 10 "DishPointer" "now" "LDishPointer$State;", Cond.fieldLink RX6 109 "DishPointer$Way" "possible" "Z", Cond.fieldLink RX6 113 "DishPointer$Way" "place" "I", Cond.constant RX6 116 (-100004), Cond.methodLink RX6 37 yX6_isBetween, Cond.static yX6_isBetween, Cond.initialized RX6, Cond.code yX6_isBetween cX6_isBetween 3 (some .boolean), Cond.methodLink RX6 105 yX2_wayAround, Cond.instanceMethod yX2_wayAround, Cond.selects RX2 yX2_wayAround yX2_wayAround, Cond.initialized RX2, Cond.code yX2_wayAround cX2_wayAround 2 (some (.object "DishPointer$Way")), Cond.fieldLink RX2 39 "DishPointer$State" "lowWay" "LDishPointer$Way;", Cond.fieldLink RX2 23 "DishPointer$State" "azimuth" "LDishPointer$Axis;", Cond.constant RX2 86 (36000), Cond.fieldLink RX2 9 "DishPointer$State" "settings" "[I", Cond.fieldLink RX2 43 "DishPointer$State" "highWay" "LDishPointer$Way;", Cond.fieldLink RX2 102 "DishPointer$Way" "possible" "Z", Cond.methodLink RX2 98 yX5_plan, Cond.instanceMethod yX5_plan, Cond.selects RX5 yX5_plan yX5_plan]
def wsX6_placeFor_r2 : List Cond := [Cond.initialized RX5, Cond.code yX5_plan cX5_plan 6 none, Cond.fieldLink RX5 15 "DishPointer$Way" "place" "I", Cond.fieldLink RX5 21 "DishPointer$Axis" "side" "I", Cond.fieldLink RX5 24 "DishPointer$Axis" "slack" "I", Cond.fieldLink RX5 27 "DishPointer$Axis" "play" "I", Cond.fieldLink RX5 30 "DishPointer$Way" "turns" "Z", Cond.fieldLink RX5 34 "DishPointer$Way" "turn" "I", Cond.fieldLink RX5 37 "DishPointer$Way" "end" "I", Cond.fieldLink RX5 40 "DishPointer$Axis" "motor" "I", Cond.fieldLink RX5 47 "DishPointer$Way" "possible" "Z", Cond.methodLink RX5 50 Lib.Math.abs.name, Cond.static Lib.Math.abs.name, Cond.initialized "java/lang/Math", Cond.code Lib.Math.abs.name Lib.Math.abs.code 1 (some .int), Cond.fieldLink RX5 56 "DishPointer$Way" "length" "I", Cond.fieldLink RX5 59 "DishPointer$Axis" "speed" "I", Cond.fieldLink RX5 62 "DishPointer$Way" "time" "I", Cond.methodLink RX5 9 yX0_dish, Cond.instanceMethod yX0_dish, Cond.selects RX0 yX0_dish yX0_dish, Cond.initialized RX0, Cond.code yX0_dish cX0_dish 1 (some .int), Cond.fieldLink RX0 21 "DishPointer$Axis" "motor" "I"]
def wsX6_placeFor_r3 : List Cond := [Cond.fieldLink RX0 33 "DishPointer$Axis" "slack" "I", Cond.methodLink RX5 43 yX0_reaches, Cond.instanceMethod yX0_reaches, Cond.selects RX0 yX0_reaches yX0_reaches, Cond.code yX0_reaches cX0_reaches 2 (some .boolean), Cond.fieldLink RX0 9 "DishPointer$Axis" "least" "I", Cond.fieldLink RX0 15 "DishPointer$Axis" "most" "I", Cond.methodLink RX2 106 yX2_isLowWayTaken, Cond.instanceMethod yX2_isLowWayTaken, Cond.selects RX2 yX2_isLowWayTaken yX2_isLowWayTaken, Cond.code yX2_isLowWayTaken cX2_isLowWayTaken 5 (some .boolean), Cond.fieldLink RX2 110 "DishPointer$Way" "place" "I", Cond.methodLink RX2 113 Lib.Math.abs.name, Cond.fieldLink RX2 117 "DishPointer$Way" "length" "I"]
def wsX6_placeFor : List Cond := .code yX6_placeFor cX6_placeFor 3 (some .int) :: ((wsX6_placeFor_r1 ++ (wsX6_placeFor_r2 ++ wsX6_placeFor_r3)) ++ wsX60 ++ wsX50 ++ wsX20 ++ wsX00)
def wsX6_slew_r1 : List Cond := [Cond.constant RX6 104 (35999), Cond.constant RX6 41 (-100001), Cond.fieldLink RX6 10 "DishPointer" "now" "LDishPointer$State;", Cond.constant RX6 69 (-100002), Cond.fieldLink RX6 109 "DishPointer$Way" "possible" "Z", Cond.fieldLink RX6 22 "DishPointer" "history" "LDishPointer$History;", Cond.methodLink RX6 37 yX6_isBetween, Cond.static yX6_isBetween, Cond.initialized RX6, Cond.code yX6_isBetween cX6_isBetween 3 (some .boolean), Cond.methodLink RX6 77 yX2_numberUnderWay, Cond.instanceMethod yX2_numberUnderWay, Cond.selects RX2 yX2_numberUnderWay yX2_numberUnderWay, Cond.initialized RX2, Cond.code yX2_numberUnderWay cX2_numberUnderWay 2 (some .int), Cond.fieldLink RX2 32 "DishPointer$State" "targets" "[LDishPointer$Target;", Cond.fieldLink RX2 128 "DishPointer$Target" "state" "I", Cond.methodLink RX6 117 yX2_kindOfDay, Cond.instanceMethod yX2_kindOfDay, Cond.selects RX2 yX2_kindOfDay yX2_kindOfDay, Cond.code yX2_kindOfDay cX2_kindOfDay 2 (some .int), Cond.fieldLink RX2 9 "DishPointer$State" "settings" "[I", Cond.methodLink RX2 77 yX2_gustToday, Cond.instanceMethod yX2_gustToday]
def wsX6_slew_r2 : List Cond := [Cond.selects RX2 yX2_gustToday yX2_gustToday, Cond.code yX2_gustToday cX2_gustToday 2 (some .int), Cond.fieldLink RX2 15 "DishPointer$State" "gusts" "[I", Cond.methodLink RX2 73 yX2_day, Cond.instanceMethod yX2_day, Cond.selects RX2 yX2_day yX2_day, Cond.code yX2_day cX2_day 1 (some .int), Cond.fieldLink RX2 50 "DishPointer$State" "time" "I", Cond.methodLink RX6 105 yX2_wayAround, Cond.instanceMethod yX2_wayAround, Cond.selects RX2 yX2_wayAround yX2_wayAround, Cond.code yX2_wayAround cX2_wayAround 2 (some (.object "DishPointer$Way")), Cond.fieldLink RX2 39 "DishPointer$State" "lowWay" "LDishPointer$Way;", Cond.fieldLink RX2 23 "DishPointer$State" "azimuth" "LDishPointer$Axis;", Cond.constant RX2 86 (36000), Cond.fieldLink RX2 43 "DishPointer$State" "highWay" "LDishPointer$Way;", Cond.fieldLink RX2 102 "DishPointer$Way" "possible" "Z", Cond.methodLink RX2 98 yX5_plan, Cond.instanceMethod yX5_plan, Cond.selects RX5 yX5_plan yX5_plan, Cond.initialized RX5, Cond.code yX5_plan cX5_plan 6 none, Cond.fieldLink RX5 15 "DishPointer$Way" "place" "I", Cond.fieldLink RX5 21 "DishPointer$Axis" "side" "I"]
def wsX6_slew_r3 : List Cond := [Cond.fieldLink RX5 24 "DishPointer$Axis" "slack" "I", Cond.fieldLink RX5 27 "DishPointer$Axis" "play" "I", Cond.fieldLink RX5 30 "DishPointer$Way" "turns" "Z", Cond.fieldLink RX5 34 "DishPointer$Way" "turn" "I", Cond.fieldLink RX5 37 "DishPointer$Way" "end" "I", Cond.fieldLink RX5 40 "DishPointer$Axis" "motor" "I", Cond.fieldLink RX5 47 "DishPointer$Way" "possible" "Z", Cond.methodLink RX5 50 Lib.Math.abs.name, Cond.static Lib.Math.abs.name, Cond.initialized "java/lang/Math", Cond.code Lib.Math.abs.name Lib.Math.abs.code 1 (some .int), Cond.fieldLink RX5 56 "DishPointer$Way" "length" "I", Cond.fieldLink RX5 59 "DishPointer$Axis" "speed" "I", Cond.fieldLink RX5 62 "DishPointer$Way" "time" "I", Cond.methodLink RX5 9 yX0_dish, Cond.instanceMethod yX0_dish, Cond.selects RX0 yX0_dish yX0_dish, Cond.initialized RX0, Cond.code yX0_dish cX0_dish 1 (some .int), Cond.fieldLink RX0 21 "DishPointer$Axis" "motor" "I", Cond.fieldLink RX0 33 "DishPointer$Axis" "slack" "I", Cond.methodLink RX5 43 yX0_reaches, Cond.instanceMethod yX0_reaches, Cond.selects RX0 yX0_reaches yX0_reaches]
def wsX6_slew_r4 : List Cond := [Cond.code yX0_reaches cX0_reaches 2 (some .boolean), Cond.fieldLink RX0 9 "DishPointer$Axis" "least" "I", Cond.fieldLink RX0 15 "DishPointer$Axis" "most" "I", Cond.methodLink RX2 106 yX2_isLowWayTaken, Cond.instanceMethod yX2_isLowWayTaken, Cond.selects RX2 yX2_isLowWayTaken yX2_isLowWayTaken, Cond.code yX2_isLowWayTaken cX2_isLowWayTaken 5 (some .boolean), Cond.fieldLink RX2 110 "DishPointer$Way" "place" "I", Cond.methodLink RX2 113 Lib.Math.abs.name, Cond.fieldLink RX2 117 "DishPointer$Way" "length" "I", Cond.methodLink RX6 120 yX2_wayRise, Cond.instanceMethod yX2_wayRise, Cond.selects RX2 yX2_wayRise yX2_wayRise, Cond.code yX2_wayRise cX2_wayRise 2 (some (.object "DishPointer$Way")), Cond.fieldLink RX2 46 "DishPointer$State" "riseWay" "LDishPointer$Way;", Cond.fieldLink RX2 27 "DishPointer$State" "elevation" "LDishPointer$Axis;", Cond.methodLink RX6 42 yX1_record, Cond.instanceMethod yX1_record, Cond.selects RX1 yX1_record yX1_record, Cond.initialized RX1, Cond.code yX1_record cX1_record 2 none, Cond.fieldLink RX1 18 "DishPointer$History" "size" "I", Cond.fieldLink RX1 11 "DishPointer$History" "states" "[LDishPointer$State;", Cond.methodLink RX1 22 yX1_dropOldest]
def wsX6_slew_r5 : List Cond := [Cond.instanceMethod yX1_dropOldest, Cond.selects RX1 yX1_dropOldest yX1_dropOldest, Cond.code yX1_dropOldest cX1_dropOldest 3 none, Cond.methodLink RX1 25 yX2_copyFrom, Cond.instanceMethod yX2_copyFrom, Cond.selects RX2 yX2_copyFrom yX2_copyFrom, Cond.code yX2_copyFrom cX2_copyFrom 3 none, Cond.fieldLink RX2 54 "DishPointer$State" "slews" "I", Cond.fieldLink RX2 57 "DishPointer$State" "holds" "I", Cond.methodLink RX2 60 arraycopyName, Cond.native arraycopyName, Cond.static arraycopyName, Cond.initialized "java/lang/System", Cond.methodLink RX2 66 yX0_copyFrom, Cond.instanceMethod yX0_copyFrom, Cond.selects RX0 yX0_copyFrom yX0_copyFrom, Cond.code yX0_copyFrom cX0_copyFrom 2 none, Cond.fieldLink RX0 24 "DishPointer$Axis" "play" "I", Cond.fieldLink RX0 30 "DishPointer$Axis" "side" "I", Cond.fieldLink RX0 27 "DishPointer$Axis" "speed" "I", Cond.fieldLink RX0 36 "DishPointer$Axis" "wentUp" "I", Cond.fieldLink RX0 39 "DishPointer$Axis" "wentDown" "I", Cond.methodLink RX2 70 yX3_copyFrom, Cond.instanceMethod yX3_copyFrom]
def wsX6_slew_r6 : List Cond := [Cond.selects RX3 yX3_copyFrom yX3_copyFrom, Cond.initialized RX3, Cond.code yX3_copyFrom cX3_copyFrom 2 none, Cond.fieldLink RX3 15 "DishPointer$Target" "azimuth" "I", Cond.fieldLink RX3 18 "DishPointer$Target" "elevation" "I", Cond.fieldLink RX3 21 "DishPointer$Target" "from" "I", Cond.fieldLink RX3 24 "DishPointer$Target" "to" "I", Cond.fieldLink RX3 27 "DishPointer$Target" "dwell" "I", Cond.fieldLink RX3 30 "DishPointer$Target" "priority" "I", Cond.fieldLink RX3 9 "DishPointer$Target" "state" "I", Cond.fieldLink RX3 33 "DishPointer$Target" "begunAt" "I", Cond.fieldLink RX3 36 "DishPointer$Target" "slewedAt" "I", Cond.fieldLink RX3 39 "DishPointer$Target" "doneAt" "I", Cond.fieldLink RX3 42 "DishPointer$Target" "error" "I", Cond.fieldLink RX3 45 "DishPointer$Target" "breaks" "I", Cond.fieldLink RX3 48 "DishPointer$Target" "place" "I", Cond.fieldLink RX3 51 "DishPointer$Target" "slewLookedAt" "Z", Cond.methodLink RX6 123 yX2_followWays, Cond.instanceMethod yX2_followWays, Cond.selects RX2 yX2_followWays yX2_followWays, Cond.code yX2_followWays cX2_followWays 3 (some .int), Cond.fieldLink RX2 124 "DishPointer$Way" "time" "I", Cond.methodLink RX2 125 Lib.Math.max.name, Cond.static Lib.Math.max.name]
def wsX6_slew_r7 : List Cond := [Cond.code Lib.Math.max.name Lib.Math.max.code 2 (some .int), Cond.methodLink RX2 120 yX0_follow, Cond.instanceMethod yX0_follow, Cond.selects RX0 yX0_follow yX0_follow, Cond.code yX0_follow cX0_follow 2 none, Cond.fieldLink RX0 55 "DishPointer$Way" "turn" "I", Cond.fieldLink RX0 64 "DishPointer$Way" "end" "I", Cond.methodLink RX0 60 yX0_moveTo, Cond.instanceMethod yX0_moveTo, Cond.selects RX0 yX0_moveTo yX0_moveTo, Cond.code yX0_moveTo cX0_moveTo 3 none, Cond.methodLink RX0 46 Lib.Math.min.name, Cond.static Lib.Math.min.name, Cond.code Lib.Math.min.name Lib.Math.min.code 2 (some .int), Cond.methodLink RX0 52 Lib.Math.max.name]
def wsX6_slew : List Cond := .code yX6_slew cX6_slew 5 (some .int) :: ((wsX6_slew_r1 ++ (wsX6_slew_r2 ++ (wsX6_slew_r3 ++ (wsX6_slew_r4 ++ (wsX6_slew_r5 ++ (wsX6_slew_r6 ++ wsX6_slew_r7)))))) ++ wsX60 ++ wsX50 ++ wsX20 ++ wsX30 ++ wsX00 ++ wsX10)
def wsX6_isWound : List Cond := .code yX6_isWound cX6_isWound 1 (some .int) :: ([.fieldLink RX6 10 "DishPointer" "now" "LDishPointer$State;", .fieldLink RX6 127 "DishPointer$State" "azimuth" "LDishPointer$Axis;", .fieldLink RX6 131 "DishPointer$Axis" "motor" "I", .methodLink RX6 134 Lib.Math.abs.name, .static Lib.Math.abs.name, .initialized "java/lang/Math", .code Lib.Math.abs.name Lib.Math.abs.code 1 (some .int), .fieldLink RX6 139 "DishPointer$State" "settings" "[I"] ++ wsX60 ++ wsX20 ++ wsX00)
def wsX6_add_r1 : List Cond := [Cond.constant RX6 41 (-100001), Cond.fieldLink RX6 10 "DishPointer" "now" "LDishPointer$State;", Cond.constant RX6 146 (-100003), Cond.fieldLink RX6 22 "DishPointer" "history" "LDishPointer$History;", Cond.methodLink RX6 142 yX6_isTargetInRange, Cond.static yX6_isTargetInRange, Cond.initialized RX6, Cond.code yX6_isTargetInRange cX6_isTargetInRange 6 (some .boolean), Cond.constant RX6 104 (35999), Cond.constant RX6 176 (43200), Cond.methodLink RX6 37 yX6_isBetween, Cond.static yX6_isBetween, Cond.code yX6_isBetween cX6_isBetween 3 (some .boolean), Cond.methodLink RX6 73 yX2_targetsIn, Cond.instanceMethod yX2_targetsIn, Cond.selects RX2 yX2_targetsIn yX2_targetsIn, Cond.initialized RX2, Cond.code yX2_targetsIn cX2_targetsIn 7 (some .int), Cond.fieldLink RX2 32 "DishPointer$State" "targets" "[LDishPointer$Target;", Cond.fieldLink RX2 128 "DishPointer$Target" "state" "I", Cond.methodLink RX6 42 yX1_record, Cond.instanceMethod yX1_record, Cond.selects RX1 yX1_record yX1_record, Cond.initialized RX1]
def wsX6_add_r2 : List Cond := [Cond.code yX1_record cX1_record 2 none, Cond.fieldLink RX1 18 "DishPointer$History" "size" "I", Cond.fieldLink RX1 11 "DishPointer$History" "states" "[LDishPointer$State;", Cond.methodLink RX1 22 yX1_dropOldest, Cond.instanceMethod yX1_dropOldest, Cond.selects RX1 yX1_dropOldest yX1_dropOldest, Cond.code yX1_dropOldest cX1_dropOldest 3 none, Cond.methodLink RX1 25 yX2_copyFrom, Cond.instanceMethod yX2_copyFrom, Cond.selects RX2 yX2_copyFrom yX2_copyFrom, Cond.code yX2_copyFrom cX2_copyFrom 3 none, Cond.fieldLink RX2 50 "DishPointer$State" "time" "I", Cond.fieldLink RX2 54 "DishPointer$State" "slews" "I", Cond.fieldLink RX2 57 "DishPointer$State" "holds" "I", Cond.fieldLink RX2 9 "DishPointer$State" "settings" "[I", Cond.methodLink RX2 60 arraycopyName, Cond.native arraycopyName, Cond.static arraycopyName, Cond.initialized "java/lang/System", Cond.fieldLink RX2 15 "DishPointer$State" "gusts" "[I", Cond.fieldLink RX2 23 "DishPointer$State" "azimuth" "LDishPointer$Axis;", Cond.fieldLink RX2 27 "DishPointer$State" "elevation" "LDishPointer$Axis;", Cond.methodLink RX2 66 yX0_copyFrom, Cond.instanceMethod yX0_copyFrom]
def wsX6_add_r3 : List Cond := [Cond.selects RX0 yX0_copyFrom yX0_copyFrom, Cond.initialized RX0, Cond.code yX0_copyFrom cX0_copyFrom 2 none, Cond.fieldLink RX0 24 "DishPointer$Axis" "play" "I", Cond.fieldLink RX0 30 "DishPointer$Axis" "side" "I", Cond.fieldLink RX0 27 "DishPointer$Axis" "speed" "I", Cond.fieldLink RX0 21 "DishPointer$Axis" "motor" "I", Cond.fieldLink RX0 33 "DishPointer$Axis" "slack" "I", Cond.fieldLink RX0 36 "DishPointer$Axis" "wentUp" "I", Cond.fieldLink RX0 39 "DishPointer$Axis" "wentDown" "I", Cond.methodLink RX2 70 yX3_copyFrom, Cond.instanceMethod yX3_copyFrom, Cond.selects RX3 yX3_copyFrom yX3_copyFrom, Cond.initialized RX3, Cond.code yX3_copyFrom cX3_copyFrom 2 none, Cond.fieldLink RX3 15 "DishPointer$Target" "azimuth" "I", Cond.fieldLink RX3 18 "DishPointer$Target" "elevation" "I", Cond.fieldLink RX3 21 "DishPointer$Target" "from" "I", Cond.fieldLink RX3 24 "DishPointer$Target" "to" "I", Cond.fieldLink RX3 27 "DishPointer$Target" "dwell" "I", Cond.fieldLink RX3 30 "DishPointer$Target" "priority" "I", Cond.fieldLink RX3 9 "DishPointer$Target" "state" "I", Cond.fieldLink RX3 33 "DishPointer$Target" "begunAt" "I", Cond.fieldLink RX3 36 "DishPointer$Target" "slewedAt" "I"]
def wsX6_add_r4 : List Cond := [Cond.fieldLink RX3 39 "DishPointer$Target" "doneAt" "I", Cond.fieldLink RX3 42 "DishPointer$Target" "error" "I", Cond.fieldLink RX3 45 "DishPointer$Target" "breaks" "I", Cond.fieldLink RX3 48 "DishPointer$Target" "place" "I", Cond.fieldLink RX3 51 "DishPointer$Target" "slewLookedAt" "Z", Cond.methodLink RX6 147 yX2_append, Cond.instanceMethod yX2_append, Cond.selects RX2 yX2_append yX2_append, Cond.code yX2_append cX2_append 9 (some .int), Cond.fieldLink RX2 138 "DishPointer$Target" "azimuth" "I", Cond.fieldLink RX2 140 "DishPointer$Target" "elevation" "I", Cond.fieldLink RX2 142 "DishPointer$Target" "from" "I", Cond.fieldLink RX2 145 "DishPointer$Target" "to" "I", Cond.fieldLink RX2 148 "DishPointer$Target" "dwell" "I", Cond.fieldLink RX2 151 "DishPointer$Target" "priority" "I", Cond.fieldLink RX2 154 "DishPointer$Target" "breaks" "I", Cond.methodLink RX2 135 yX2_targetsIn]
def wsX6_add : List Cond := .code yX6_add cX6_add 7 (some .int) :: ((wsX6_add_r1 ++ (wsX6_add_r2 ++ (wsX6_add_r3 ++ wsX6_add_r4))) ++ wsX60 ++ wsX20 ++ wsX30 ++ wsX10 ++ wsX00)
def wsX6_drop_r1 : List Cond := [Cond.fieldLink RX6 10 "DishPointer" "now" "LDishPointer$State;", Cond.constant RX6 41 (-100001), Cond.fieldLink RX6 155 "DishPointer$State" "targets" "[LDishPointer$Target;", Cond.fieldLink RX6 159 "DishPointer$Target" "state" "I", Cond.constant RX6 69 (-100002), Cond.fieldLink RX6 22 "DishPointer" "history" "LDishPointer$History;", Cond.methodLink RX6 151 yX2_hasTarget, Cond.instanceMethod yX2_hasTarget, Cond.selects RX2 yX2_hasTarget yX2_hasTarget, Cond.initialized RX2, Cond.code yX2_hasTarget cX2_hasTarget 2 (some .boolean), Cond.fieldLink RX2 32 "DishPointer$State" "targets" "[LDishPointer$Target;", Cond.fieldLink RX2 128 "DishPointer$Target" "state" "I", Cond.methodLink RX6 42 yX1_record, Cond.instanceMethod yX1_record, Cond.selects RX1 yX1_record yX1_record, Cond.initialized RX1, Cond.code yX1_record cX1_record 2 none, Cond.fieldLink RX1 18 "DishPointer$History" "size" "I", Cond.fieldLink RX1 11 "DishPointer$History" "states" "[LDishPointer$State;", Cond.methodLink RX1 22 yX1_dropOldest, Cond.instanceMethod yX1_dropOldest, Cond.selects RX1 yX1_dropOldest yX1_dropOldest, Cond.code yX1_dropOldest cX1_dropOldest 3 none]
def wsX6_drop_r2 : List Cond := [Cond.methodLink RX1 25 yX2_copyFrom, Cond.instanceMethod yX2_copyFrom, Cond.selects RX2 yX2_copyFrom yX2_copyFrom, Cond.code yX2_copyFrom cX2_copyFrom 3 none, Cond.fieldLink RX2 50 "DishPointer$State" "time" "I", Cond.fieldLink RX2 54 "DishPointer$State" "slews" "I", Cond.fieldLink RX2 57 "DishPointer$State" "holds" "I", Cond.fieldLink RX2 9 "DishPointer$State" "settings" "[I", Cond.methodLink RX2 60 arraycopyName, Cond.native arraycopyName, Cond.static arraycopyName, Cond.initialized "java/lang/System", Cond.fieldLink RX2 15 "DishPointer$State" "gusts" "[I", Cond.fieldLink RX2 23 "DishPointer$State" "azimuth" "LDishPointer$Axis;", Cond.fieldLink RX2 27 "DishPointer$State" "elevation" "LDishPointer$Axis;", Cond.methodLink RX2 66 yX0_copyFrom, Cond.instanceMethod yX0_copyFrom, Cond.selects RX0 yX0_copyFrom yX0_copyFrom, Cond.initialized RX0, Cond.code yX0_copyFrom cX0_copyFrom 2 none, Cond.fieldLink RX0 24 "DishPointer$Axis" "play" "I", Cond.fieldLink RX0 30 "DishPointer$Axis" "side" "I", Cond.fieldLink RX0 27 "DishPointer$Axis" "speed" "I", Cond.fieldLink RX0 21 "DishPointer$Axis" "motor" "I"]
def wsX6_drop_r3 : List Cond := [Cond.fieldLink RX0 33 "DishPointer$Axis" "slack" "I", Cond.fieldLink RX0 36 "DishPointer$Axis" "wentUp" "I", Cond.fieldLink RX0 39 "DishPointer$Axis" "wentDown" "I", Cond.methodLink RX2 70 yX3_copyFrom, Cond.instanceMethod yX3_copyFrom, Cond.selects RX3 yX3_copyFrom yX3_copyFrom, Cond.initialized RX3, Cond.code yX3_copyFrom cX3_copyFrom 2 none, Cond.fieldLink RX3 15 "DishPointer$Target" "azimuth" "I", Cond.fieldLink RX3 18 "DishPointer$Target" "elevation" "I", Cond.fieldLink RX3 21 "DishPointer$Target" "from" "I", Cond.fieldLink RX3 24 "DishPointer$Target" "to" "I", Cond.fieldLink RX3 27 "DishPointer$Target" "dwell" "I", Cond.fieldLink RX3 30 "DishPointer$Target" "priority" "I", Cond.fieldLink RX3 9 "DishPointer$Target" "state" "I", Cond.fieldLink RX3 33 "DishPointer$Target" "begunAt" "I", Cond.fieldLink RX3 36 "DishPointer$Target" "slewedAt" "I", Cond.fieldLink RX3 39 "DishPointer$Target" "doneAt" "I", Cond.fieldLink RX3 42 "DishPointer$Target" "error" "I", Cond.fieldLink RX3 45 "DishPointer$Target" "breaks" "I", Cond.fieldLink RX3 48 "DishPointer$Target" "place" "I", Cond.fieldLink RX3 51 "DishPointer$Target" "slewLookedAt" "Z", Cond.methodLink RX6 164 yX2_remove, Cond.instanceMethod yX2_remove]
def wsX6_drop_r4 : List Cond := [Cond.selects RX2 yX2_remove yX2_remove, Cond.code yX2_remove cX2_remove 3 none, Cond.methodLink RX2 125 Lib.Math.max.name, Cond.static Lib.Math.max.name, Cond.initialized "java/lang/Math", Cond.code Lib.Math.max.name Lib.Math.max.code 2 (some .int), Cond.methodLink RX6 73 yX2_targetsIn, Cond.instanceMethod yX2_targetsIn, Cond.selects RX2 yX2_targetsIn yX2_targetsIn, Cond.code yX2_targetsIn cX2_targetsIn 7 (some .int)]
def wsX6_drop : List Cond := .code yX6_drop cX6_drop 2 (some .int) :: ((wsX6_drop_r1 ++ (wsX6_drop_r2 ++ (wsX6_drop_r3 ++ wsX6_drop_r4))) ++ wsX60 ++ wsX20 ++ wsX30 ++ wsX10 ++ wsX00)
def wsX6_target_r1 : List Cond := [Cond.fieldLink RX6 10 "DishPointer" "now" "LDishPointer$State;", Cond.constant RX6 41 (-100001), Cond.fieldLink RX6 155 "DishPointer$State" "targets" "[LDishPointer$Target;", Cond.methodLink RX6 151 yX2_hasTarget, Cond.instanceMethod yX2_hasTarget, Cond.selects RX2 yX2_hasTarget yX2_hasTarget, Cond.initialized RX2, Cond.code yX2_hasTarget cX2_hasTarget 2 (some .boolean), Cond.fieldLink RX2 32 "DishPointer$State" "targets" "[LDishPointer$Target;", Cond.fieldLink RX2 128 "DishPointer$Target" "state" "I", Cond.methodLink RX6 168 yX3_tell, Cond.instanceMethod yX3_tell, Cond.selects RX3 yX3_tell yX3_tell, Cond.initialized RX3, Cond.code yX3_tell cX3_tell 2 (some .int), Cond.fieldLink RX3 15 "DishPointer$Target" "azimuth" "I", Cond.fieldLink RX3 18 "DishPointer$Target" "elevation" "I", Cond.fieldLink RX3 21 "DishPointer$Target" "from" "I", Cond.fieldLink RX3 24 "DishPointer$Target" "to" "I", Cond.fieldLink RX3 27 "DishPointer$Target" "dwell" "I", Cond.fieldLink RX3 30 "DishPointer$Target" "priority" "I", Cond.fieldLink RX3 9 "DishPointer$Target" "state" "I", Cond.fieldLink RX3 33 "DishPointer$Target" "begunAt" "I", Cond.fieldLink RX3 36 "DishPointer$Target" "slewedAt" "I"]
def wsX6_target_r2 : List Cond := [Cond.fieldLink RX3 39 "DishPointer$Target" "doneAt" "I", Cond.fieldLink RX3 42 "DishPointer$Target" "error" "I", Cond.constant RX3 59 (-100004), Cond.fieldLink RX3 45 "DishPointer$Target" "breaks" "I", Cond.fieldLink RX3 48 "DishPointer$Target" "place" "I", Cond.constant RX3 60 (-100001), Cond.methodLink RX3 55 yX3_ifBegun, Cond.instanceMethod yX3_ifBegun, Cond.selects RX3 yX3_ifBegun yX3_ifBegun, Cond.code yX3_ifBegun cX3_ifBegun 2 (some .int)]
def wsX6_target : List Cond := .code yX6_target cX6_target 3 (some .int) :: ((wsX6_target_r1 ++ wsX6_target_r2) ++ wsX60 ++ wsX20 ++ wsX30)
def wsX6_why_r1 : List Cond := [Cond.fieldLink RX6 10 "DishPointer" "now" "LDishPointer$State;", Cond.constant RX6 41 (-100001), Cond.fieldLink RX6 155 "DishPointer$State" "targets" "[LDishPointer$Target;", Cond.methodLink RX6 151 yX2_hasTarget, Cond.instanceMethod yX2_hasTarget, Cond.selects RX2 yX2_hasTarget yX2_hasTarget, Cond.initialized RX2, Cond.code yX2_hasTarget cX2_hasTarget 2 (some .boolean), Cond.fieldLink RX2 32 "DishPointer$State" "targets" "[LDishPointer$Target;", Cond.fieldLink RX2 128 "DishPointer$Target" "state" "I", Cond.methodLink RX6 169 yX2_reasonAgainst, Cond.instanceMethod yX2_reasonAgainst, Cond.selects RX2 yX2_reasonAgainst yX2_reasonAgainst, Cond.code yX2_reasonAgainst cX2_reasonAgainst 4 (some .int), Cond.fieldLink RX2 50 "DishPointer$State" "time" "I", Cond.fieldLink RX2 142 "DishPointer$Target" "from" "I", Cond.fieldLink RX2 140 "DishPointer$Target" "elevation" "I", Cond.fieldLink RX2 102 "DishPointer$Way" "possible" "Z", Cond.fieldLink RX2 138 "DishPointer$Target" "azimuth" "I", Cond.fieldLink RX2 124 "DishPointer$Way" "time" "I", Cond.methodLink RX2 125 Lib.Math.max.name, Cond.static Lib.Math.max.name, Cond.initialized "java/lang/Math", Cond.code Lib.Math.max.name Lib.Math.max.code 2 (some .int)]
def wsX6_why_r2 : List Cond := [Cond.fieldLink RX2 148 "DishPointer$Target" "dwell" "I", Cond.fieldLink RX2 145 "DishPointer$Target" "to" "I", Cond.methodLink RX2 157 yX2_numberUnderWay, Cond.instanceMethod yX2_numberUnderWay, Cond.selects RX2 yX2_numberUnderWay yX2_numberUnderWay, Cond.code yX2_numberUnderWay cX2_numberUnderWay 2 (some .int), Cond.methodLink RX2 80 yX2_kindOfDay, Cond.instanceMethod yX2_kindOfDay, Cond.selects RX2 yX2_kindOfDay yX2_kindOfDay, Cond.code yX2_kindOfDay cX2_kindOfDay 2 (some .int), Cond.fieldLink RX2 9 "DishPointer$State" "settings" "[I", Cond.methodLink RX2 77 yX2_gustToday, Cond.instanceMethod yX2_gustToday, Cond.selects RX2 yX2_gustToday yX2_gustToday, Cond.code yX2_gustToday cX2_gustToday 2 (some .int), Cond.fieldLink RX2 15 "DishPointer$State" "gusts" "[I", Cond.methodLink RX2 73 yX2_day, Cond.instanceMethod yX2_day, Cond.selects RX2 yX2_day yX2_day, Cond.code yX2_day cX2_day 1 (some .int), Cond.methodLink RX2 160 yX2_wayRise, Cond.instanceMethod yX2_wayRise, Cond.selects RX2 yX2_wayRise yX2_wayRise, Cond.code yX2_wayRise cX2_wayRise 2 (some (.object "DishPointer$Way"))]
def wsX6_why_r3 : List Cond := [Cond.fieldLink RX2 46 "DishPointer$State" "riseWay" "LDishPointer$Way;", Cond.fieldLink RX2 27 "DishPointer$State" "elevation" "LDishPointer$Axis;", Cond.methodLink RX2 98 yX5_plan, Cond.instanceMethod yX5_plan, Cond.selects RX5 yX5_plan yX5_plan, Cond.initialized RX5, Cond.code yX5_plan cX5_plan 6 none, Cond.fieldLink RX5 15 "DishPointer$Way" "place" "I", Cond.fieldLink RX5 21 "DishPointer$Axis" "side" "I", Cond.fieldLink RX5 24 "DishPointer$Axis" "slack" "I", Cond.fieldLink RX5 27 "DishPointer$Axis" "play" "I", Cond.fieldLink RX5 30 "DishPointer$Way" "turns" "Z", Cond.fieldLink RX5 34 "DishPointer$Way" "turn" "I", Cond.fieldLink RX5 37 "DishPointer$Way" "end" "I", Cond.fieldLink RX5 40 "DishPointer$Axis" "motor" "I", Cond.fieldLink RX5 47 "DishPointer$Way" "possible" "Z", Cond.methodLink RX5 50 Lib.Math.abs.name, Cond.static Lib.Math.abs.name, Cond.code Lib.Math.abs.name Lib.Math.abs.code 1 (some .int), Cond.fieldLink RX5 56 "DishPointer$Way" "length" "I", Cond.fieldLink RX5 59 "DishPointer$Axis" "speed" "I", Cond.fieldLink RX5 62 "DishPointer$Way" "time" "I", Cond.methodLink RX5 9 yX0_dish, Cond.instanceMethod yX0_dish]
def wsX6_why_r4 : List Cond := [Cond.selects RX0 yX0_dish yX0_dish, Cond.initialized RX0, Cond.code yX0_dish cX0_dish 1 (some .int), Cond.fieldLink RX0 21 "DishPointer$Axis" "motor" "I", Cond.fieldLink RX0 33 "DishPointer$Axis" "slack" "I", Cond.methodLink RX5 43 yX0_reaches, Cond.instanceMethod yX0_reaches, Cond.selects RX0 yX0_reaches yX0_reaches, Cond.code yX0_reaches cX0_reaches 2 (some .boolean), Cond.fieldLink RX0 9 "DishPointer$Axis" "least" "I", Cond.fieldLink RX0 15 "DishPointer$Axis" "most" "I", Cond.methodLink RX2 164 yX2_wayAround, Cond.instanceMethod yX2_wayAround, Cond.selects RX2 yX2_wayAround yX2_wayAround, Cond.code yX2_wayAround cX2_wayAround 2 (some (.object "DishPointer$Way")), Cond.fieldLink RX2 39 "DishPointer$State" "lowWay" "LDishPointer$Way;", Cond.fieldLink RX2 23 "DishPointer$State" "azimuth" "LDishPointer$Axis;", Cond.constant RX2 86 (36000), Cond.fieldLink RX2 43 "DishPointer$State" "highWay" "LDishPointer$Way;", Cond.methodLink RX2 106 yX2_isLowWayTaken, Cond.instanceMethod yX2_isLowWayTaken, Cond.selects RX2 yX2_isLowWayTaken yX2_isLowWayTaken, Cond.code yX2_isLowWayTaken cX2_isLowWayTaken 5 (some .boolean), Cond.fieldLink RX2 110 "DishPointer$Way" "place" "I"]
def wsX6_why_r5 : List Cond := [Cond.methodLink RX2 113 Lib.Math.abs.name, Cond.fieldLink RX2 117 "DishPointer$Way" "length" "I"]
def wsX6_why : List Cond := .code yX6_why cX6_why 2 (some .int) :: ((wsX6_why_r1 ++ (wsX6_why_r2 ++ (wsX6_why_r3 ++ (wsX6_why_r4 ++ wsX6_why_r5)))) ++ wsX60 ++ wsX20 ++ wsX30 ++ wsX50 ++ wsX00)
def wsX6_next_r1 : List Cond := [Cond.fieldLink RX6 10 "DishPointer" "now" "LDishPointer$State;", Cond.methodLink RX6 173 yX2_bestToBegin, Cond.instanceMethod yX2_bestToBegin, Cond.selects RX2 yX2_bestToBegin yX2_bestToBegin, Cond.initialized RX2, Cond.code yX2_bestToBegin cX2_bestToBegin 3 (some .int), Cond.fieldLink RX2 32 "DishPointer$State" "targets" "[LDishPointer$Target;", Cond.methodLink RX2 167 yX2_reasonAgainst, Cond.instanceMethod yX2_reasonAgainst, Cond.selects RX2 yX2_reasonAgainst yX2_reasonAgainst, Cond.code yX2_reasonAgainst cX2_reasonAgainst 4 (some .int), Cond.fieldLink RX2 128 "DishPointer$Target" "state" "I", Cond.fieldLink RX2 50 "DishPointer$State" "time" "I", Cond.fieldLink RX2 142 "DishPointer$Target" "from" "I", Cond.fieldLink RX2 140 "DishPointer$Target" "elevation" "I", Cond.fieldLink RX2 102 "DishPointer$Way" "possible" "Z", Cond.fieldLink RX2 138 "DishPointer$Target" "azimuth" "I", Cond.fieldLink RX2 124 "DishPointer$Way" "time" "I", Cond.methodLink RX2 125 Lib.Math.max.name, Cond.static Lib.Math.max.name, Cond.initialized "java/lang/Math", Cond.code Lib.Math.max.name Lib.Math.max.code 2 (some .int), Cond.fieldLink RX2 148 "DishPointer$Target" "dwell" "I", Cond.fieldLink RX2 145 "DishPointer$Target" "to" "I"]
def wsX6_next_r2 : List Cond := [Cond.methodLink RX2 157 yX2_numberUnderWay, Cond.instanceMethod yX2_numberUnderWay, Cond.selects RX2 yX2_numberUnderWay yX2_numberUnderWay, Cond.code yX2_numberUnderWay cX2_numberUnderWay 2 (some .int), Cond.methodLink RX2 80 yX2_kindOfDay, Cond.instanceMethod yX2_kindOfDay, Cond.selects RX2 yX2_kindOfDay yX2_kindOfDay, Cond.code yX2_kindOfDay cX2_kindOfDay 2 (some .int), Cond.fieldLink RX2 9 "DishPointer$State" "settings" "[I", Cond.methodLink RX2 77 yX2_gustToday, Cond.instanceMethod yX2_gustToday, Cond.selects RX2 yX2_gustToday yX2_gustToday, Cond.code yX2_gustToday cX2_gustToday 2 (some .int), Cond.fieldLink RX2 15 "DishPointer$State" "gusts" "[I", Cond.methodLink RX2 73 yX2_day, Cond.instanceMethod yX2_day, Cond.selects RX2 yX2_day yX2_day, Cond.code yX2_day cX2_day 1 (some .int), Cond.methodLink RX2 160 yX2_wayRise, Cond.instanceMethod yX2_wayRise, Cond.selects RX2 yX2_wayRise yX2_wayRise, Cond.code yX2_wayRise cX2_wayRise 2 (some (.object "DishPointer$Way")), Cond.fieldLink RX2 46 "DishPointer$State" "riseWay" "LDishPointer$Way;", Cond.fieldLink RX2 27 "DishPointer$State" "elevation" "LDishPointer$Axis;"]
def wsX6_next_r3 : List Cond := [Cond.methodLink RX2 98 yX5_plan, Cond.instanceMethod yX5_plan, Cond.selects RX5 yX5_plan yX5_plan, Cond.initialized RX5, Cond.code yX5_plan cX5_plan 6 none, Cond.fieldLink RX5 15 "DishPointer$Way" "place" "I", Cond.fieldLink RX5 21 "DishPointer$Axis" "side" "I", Cond.fieldLink RX5 24 "DishPointer$Axis" "slack" "I", Cond.fieldLink RX5 27 "DishPointer$Axis" "play" "I", Cond.fieldLink RX5 30 "DishPointer$Way" "turns" "Z", Cond.fieldLink RX5 34 "DishPointer$Way" "turn" "I", Cond.fieldLink RX5 37 "DishPointer$Way" "end" "I", Cond.fieldLink RX5 40 "DishPointer$Axis" "motor" "I", Cond.fieldLink RX5 47 "DishPointer$Way" "possible" "Z", Cond.methodLink RX5 50 Lib.Math.abs.name, Cond.static Lib.Math.abs.name, Cond.code Lib.Math.abs.name Lib.Math.abs.code 1 (some .int), Cond.fieldLink RX5 56 "DishPointer$Way" "length" "I", Cond.fieldLink RX5 59 "DishPointer$Axis" "speed" "I", Cond.fieldLink RX5 62 "DishPointer$Way" "time" "I", Cond.methodLink RX5 9 yX0_dish, Cond.instanceMethod yX0_dish, Cond.selects RX0 yX0_dish yX0_dish, Cond.initialized RX0]
def wsX6_next_r4 : List Cond := [Cond.code yX0_dish cX0_dish 1 (some .int), Cond.fieldLink RX0 21 "DishPointer$Axis" "motor" "I", Cond.fieldLink RX0 33 "DishPointer$Axis" "slack" "I", Cond.methodLink RX5 43 yX0_reaches, Cond.instanceMethod yX0_reaches, Cond.selects RX0 yX0_reaches yX0_reaches, Cond.code yX0_reaches cX0_reaches 2 (some .boolean), Cond.fieldLink RX0 9 "DishPointer$Axis" "least" "I", Cond.fieldLink RX0 15 "DishPointer$Axis" "most" "I", Cond.methodLink RX2 164 yX2_wayAround, Cond.instanceMethod yX2_wayAround, Cond.selects RX2 yX2_wayAround yX2_wayAround, Cond.code yX2_wayAround cX2_wayAround 2 (some (.object "DishPointer$Way")), Cond.fieldLink RX2 39 "DishPointer$State" "lowWay" "LDishPointer$Way;", Cond.fieldLink RX2 23 "DishPointer$State" "azimuth" "LDishPointer$Axis;", Cond.constant RX2 86 (36000), Cond.fieldLink RX2 43 "DishPointer$State" "highWay" "LDishPointer$Way;", Cond.methodLink RX2 106 yX2_isLowWayTaken, Cond.instanceMethod yX2_isLowWayTaken, Cond.selects RX2 yX2_isLowWayTaken yX2_isLowWayTaken, Cond.code yX2_isLowWayTaken cX2_isLowWayTaken 5 (some .boolean), Cond.fieldLink RX2 110 "DishPointer$Way" "place" "I", Cond.methodLink RX2 113 Lib.Math.abs.name, Cond.fieldLink RX2 117 "DishPointer$Way" "length" "I"]
def wsX6_next_r5 : List Cond := [Cond.methodLink RX2 171 yX3_isBetterThan, Cond.instanceMethod yX3_isBetterThan, Cond.selects RX3 yX3_isBetterThan yX3_isBetterThan, Cond.initialized RX3, Cond.code yX3_isBetterThan cX3_isBetterThan 2 (some .boolean), Cond.fieldLink RX3 30 "DishPointer$Target" "priority" "I", Cond.fieldLink RX3 24 "DishPointer$Target" "to" "I", Cond.methodLink RX6 81 yX6_foundTarget, Cond.static yX6_foundTarget, Cond.initialized RX6, Cond.code yX6_foundTarget cX6_foundTarget 1 (some .int), Cond.constant RX6 116 (-100004)]
def wsX6_next : List Cond := .code yX6_next cX6_next 1 (some .int) :: ((wsX6_next_r1 ++ (wsX6_next_r2 ++ (wsX6_next_r3 ++ (wsX6_next_r4 ++ wsX6_next_r5)))) ++ wsX60 ++ wsX20 ++ wsX30 ++ wsX50 ++ wsX00)
def wsX6_run_r1 : List Cond := [Cond.constant RX6 41 (-100001), Cond.fieldLink RX6 10 "DishPointer" "now" "LDishPointer$State;", Cond.fieldLink RX6 65 "DishPointer$State" "time" "I", Cond.constant RX6 176 (43200), Cond.constant RX6 146 (-100003), Cond.fieldLink RX6 22 "DishPointer" "history" "LDishPointer$History;", Cond.methodLink RX6 37 yX6_isBetween, Cond.static yX6_isBetween, Cond.initialized RX6, Cond.code yX6_isBetween cX6_isBetween 3 (some .boolean), Cond.methodLink RX6 42 yX1_record, Cond.instanceMethod yX1_record, Cond.selects RX1 yX1_record yX1_record, Cond.initialized RX1, Cond.code yX1_record cX1_record 2 none, Cond.fieldLink RX1 18 "DishPointer$History" "size" "I", Cond.fieldLink RX1 11 "DishPointer$History" "states" "[LDishPointer$State;", Cond.methodLink RX1 22 yX1_dropOldest, Cond.instanceMethod yX1_dropOldest, Cond.selects RX1 yX1_dropOldest yX1_dropOldest, Cond.code yX1_dropOldest cX1_dropOldest 3 none, Cond.methodLink RX1 25 yX2_copyFrom, Cond.instanceMethod yX2_copyFrom, Cond.selects RX2 yX2_copyFrom yX2_copyFrom]
def wsX6_run_r2 : List Cond := [Cond.initialized RX2, Cond.code yX2_copyFrom cX2_copyFrom 3 none, Cond.fieldLink RX2 50 "DishPointer$State" "time" "I", Cond.fieldLink RX2 54 "DishPointer$State" "slews" "I", Cond.fieldLink RX2 57 "DishPointer$State" "holds" "I", Cond.fieldLink RX2 9 "DishPointer$State" "settings" "[I", Cond.methodLink RX2 60 arraycopyName, Cond.native arraycopyName, Cond.static arraycopyName, Cond.initialized "java/lang/System", Cond.fieldLink RX2 15 "DishPointer$State" "gusts" "[I", Cond.fieldLink RX2 23 "DishPointer$State" "azimuth" "LDishPointer$Axis;", Cond.fieldLink RX2 27 "DishPointer$State" "elevation" "LDishPointer$Axis;", Cond.fieldLink RX2 32 "DishPointer$State" "targets" "[LDishPointer$Target;", Cond.methodLink RX2 66 yX0_copyFrom, Cond.instanceMethod yX0_copyFrom, Cond.selects RX0 yX0_copyFrom yX0_copyFrom, Cond.initialized RX0, Cond.code yX0_copyFrom cX0_copyFrom 2 none, Cond.fieldLink RX0 24 "DishPointer$Axis" "play" "I", Cond.fieldLink RX0 30 "DishPointer$Axis" "side" "I", Cond.fieldLink RX0 27 "DishPointer$Axis" "speed" "I", Cond.fieldLink RX0 21 "DishPointer$Axis" "motor" "I", Cond.fieldLink RX0 33 "DishPointer$Axis" "slack" "I"]
def wsX6_run_r3 : List Cond := [Cond.fieldLink RX0 36 "DishPointer$Axis" "wentUp" "I", Cond.fieldLink RX0 39 "DishPointer$Axis" "wentDown" "I", Cond.methodLink RX2 70 yX3_copyFrom, Cond.instanceMethod yX3_copyFrom, Cond.selects RX3 yX3_copyFrom yX3_copyFrom, Cond.initialized RX3, Cond.code yX3_copyFrom cX3_copyFrom 2 none, Cond.fieldLink RX3 15 "DishPointer$Target" "azimuth" "I", Cond.fieldLink RX3 18 "DishPointer$Target" "elevation" "I", Cond.fieldLink RX3 21 "DishPointer$Target" "from" "I", Cond.fieldLink RX3 24 "DishPointer$Target" "to" "I", Cond.fieldLink RX3 27 "DishPointer$Target" "dwell" "I", Cond.fieldLink RX3 30 "DishPointer$Target" "priority" "I", Cond.fieldLink RX3 9 "DishPointer$Target" "state" "I", Cond.fieldLink RX3 33 "DishPointer$Target" "begunAt" "I", Cond.fieldLink RX3 36 "DishPointer$Target" "slewedAt" "I", Cond.fieldLink RX3 39 "DishPointer$Target" "doneAt" "I", Cond.fieldLink RX3 42 "DishPointer$Target" "error" "I", Cond.fieldLink RX3 45 "DishPointer$Target" "breaks" "I", Cond.fieldLink RX3 48 "DishPointer$Target" "place" "I", Cond.fieldLink RX3 51 "DishPointer$Target" "slewLookedAt" "Z", Cond.methodLink RX6 73 yX2_targetsIn, Cond.instanceMethod yX2_targetsIn, Cond.selects RX2 yX2_targetsIn yX2_targetsIn]
def wsX6_run_r4 : List Cond := [Cond.code yX2_targetsIn cX2_targetsIn 7 (some .int), Cond.fieldLink RX2 128 "DishPointer$Target" "state" "I", Cond.methodLink RX6 177 yX2_letPass, Cond.instanceMethod yX2_letPass, Cond.selects RX2 yX2_letPass yX2_letPass, Cond.code yX2_letPass cX2_letPass 7 none, Cond.methodLink RX2 80 yX2_kindOfDay, Cond.instanceMethod yX2_kindOfDay, Cond.selects RX2 yX2_kindOfDay yX2_kindOfDay, Cond.code yX2_kindOfDay cX2_kindOfDay 2 (some .int), Cond.methodLink RX2 77 yX2_gustToday, Cond.instanceMethod yX2_gustToday, Cond.selects RX2 yX2_gustToday yX2_gustToday, Cond.code yX2_gustToday cX2_gustToday 2 (some .int), Cond.methodLink RX2 73 yX2_day, Cond.instanceMethod yX2_day, Cond.selects RX2 yX2_day yX2_day, Cond.code yX2_day cX2_day 1 (some .int), Cond.methodLink RX2 175 yX2_beginHold, Cond.instanceMethod yX2_beginHold, Cond.selects RX2 yX2_beginHold yX2_beginHold, Cond.code yX2_beginHold cX2_beginHold 5 none, Cond.fieldLink RX2 154 "DishPointer$Target" "breaks" "I", Cond.methodLink RX2 196 yX0_moveTo]
def wsX6_run_r5 : List Cond := [Cond.instanceMethod yX0_moveTo, Cond.selects RX0 yX0_moveTo yX0_moveTo, Cond.code yX0_moveTo cX0_moveTo 3 none, Cond.methodLink RX0 46 Lib.Math.min.name, Cond.static Lib.Math.min.name, Cond.initialized "java/lang/Math", Cond.code Lib.Math.min.name Lib.Math.min.code 2 (some .int), Cond.methodLink RX0 52 Lib.Math.max.name, Cond.static Lib.Math.max.name, Cond.code Lib.Math.max.name Lib.Math.max.code 2 (some .int), Cond.methodLink RX2 178 yX2_endWhatIsOver, Cond.instanceMethod yX2_endWhatIsOver, Cond.selects RX2 yX2_endWhatIsOver yX2_endWhatIsOver, Cond.code yX2_endWhatIsOver cX2_endWhatIsOver 5 none, Cond.fieldLink RX2 145 "DishPointer$Target" "to" "I", Cond.methodLink RX2 200 yX2_goOnWith, Cond.instanceMethod yX2_goOnWith, Cond.selects RX2 yX2_goOnWith yX2_goOnWith, Cond.code yX2_goOnWith cX2_goOnWith 2 none, Cond.fieldLink RX2 131 "DishPointer$Target" "doneAt" "I", Cond.fieldLink RX2 206 "DishPointer$Target" "place" "I", Cond.fieldLink RX2 207 "DishPointer$Target" "error" "I", Cond.methodLink RX2 203 yX2_lookAtSlew, Cond.instanceMethod yX2_lookAtSlew]
def wsX6_run_r6 : List Cond := [Cond.selects RX2 yX2_lookAtSlew yX2_lookAtSlew, Cond.code yX2_lookAtSlew cX2_lookAtSlew 2 none, Cond.fieldLink RX2 210 "DishPointer$Target" "slewLookedAt" "Z", Cond.fieldLink RX2 190 "DishPointer$Target" "slewedAt" "I", Cond.fieldLink RX2 213 "DishPointer$Axis" "play" "I", Cond.fieldLink RX2 216 "DishPointer$Axis" "slack" "I", Cond.methodLink RX2 83 yX0_dish, Cond.instanceMethod yX0_dish, Cond.selects RX0 yX0_dish yX0_dish, Cond.code yX0_dish cX0_dish 1 (some .int), Cond.methodLink RX2 181 yX2_bestToBegin, Cond.instanceMethod yX2_bestToBegin, Cond.selects RX2 yX2_bestToBegin yX2_bestToBegin, Cond.code yX2_bestToBegin cX2_bestToBegin 3 (some .int), Cond.methodLink RX2 167 yX2_reasonAgainst, Cond.instanceMethod yX2_reasonAgainst, Cond.selects RX2 yX2_reasonAgainst yX2_reasonAgainst, Cond.code yX2_reasonAgainst cX2_reasonAgainst 4 (some .int), Cond.fieldLink RX2 142 "DishPointer$Target" "from" "I", Cond.fieldLink RX2 140 "DishPointer$Target" "elevation" "I", Cond.fieldLink RX2 102 "DishPointer$Way" "possible" "Z", Cond.fieldLink RX2 138 "DishPointer$Target" "azimuth" "I", Cond.fieldLink RX2 124 "DishPointer$Way" "time" "I", Cond.methodLink RX2 125 Lib.Math.max.name]
def wsX6_run_r7 : List Cond := [Cond.fieldLink RX2 148 "DishPointer$Target" "dwell" "I", Cond.methodLink RX2 157 yX2_numberUnderWay, Cond.instanceMethod yX2_numberUnderWay, Cond.selects RX2 yX2_numberUnderWay yX2_numberUnderWay, Cond.code yX2_numberUnderWay cX2_numberUnderWay 2 (some .int), Cond.methodLink RX2 160 yX2_wayRise, Cond.instanceMethod yX2_wayRise, Cond.selects RX2 yX2_wayRise yX2_wayRise, Cond.code yX2_wayRise cX2_wayRise 2 (some (.object "DishPointer$Way")), Cond.fieldLink RX2 46 "DishPointer$State" "riseWay" "LDishPointer$Way;", Cond.methodLink RX2 98 yX5_plan, Cond.instanceMethod yX5_plan, Cond.selects RX5 yX5_plan yX5_plan, Cond.initialized RX5, Cond.code yX5_plan cX5_plan 6 none, Cond.fieldLink RX5 15 "DishPointer$Way" "place" "I", Cond.fieldLink RX5 21 "DishPointer$Axis" "side" "I", Cond.fieldLink RX5 24 "DishPointer$Axis" "slack" "I", Cond.fieldLink RX5 27 "DishPointer$Axis" "play" "I", Cond.fieldLink RX5 30 "DishPointer$Way" "turns" "Z", Cond.fieldLink RX5 34 "DishPointer$Way" "turn" "I", Cond.fieldLink RX5 37 "DishPointer$Way" "end" "I", Cond.fieldLink RX5 40 "DishPointer$Axis" "motor" "I", Cond.fieldLink RX5 47 "DishPointer$Way" "possible" "Z"]
def wsX6_run_r8 : List Cond := [Cond.methodLink RX5 50 Lib.Math.abs.name, Cond.static Lib.Math.abs.name, Cond.code Lib.Math.abs.name Lib.Math.abs.code 1 (some .int), Cond.fieldLink RX5 56 "DishPointer$Way" "length" "I", Cond.fieldLink RX5 59 "DishPointer$Axis" "speed" "I", Cond.fieldLink RX5 62 "DishPointer$Way" "time" "I", Cond.methodLink RX5 9 yX0_dish, Cond.methodLink RX5 43 yX0_reaches, Cond.instanceMethod yX0_reaches, Cond.selects RX0 yX0_reaches yX0_reaches, Cond.code yX0_reaches cX0_reaches 2 (some .boolean), Cond.fieldLink RX0 9 "DishPointer$Axis" "least" "I", Cond.fieldLink RX0 15 "DishPointer$Axis" "most" "I", Cond.methodLink RX2 164 yX2_wayAround, Cond.instanceMethod yX2_wayAround, Cond.selects RX2 yX2_wayAround yX2_wayAround, Cond.code yX2_wayAround cX2_wayAround 2 (some (.object "DishPointer$Way")), Cond.fieldLink RX2 39 "DishPointer$State" "lowWay" "LDishPointer$Way;", Cond.constant RX2 86 (36000), Cond.fieldLink RX2 43 "DishPointer$State" "highWay" "LDishPointer$Way;", Cond.methodLink RX2 106 yX2_isLowWayTaken, Cond.instanceMethod yX2_isLowWayTaken, Cond.selects RX2 yX2_isLowWayTaken yX2_isLowWayTaken, Cond.code yX2_isLowWayTaken cX2_isLowWayTaken 5 (some .boolean)]
def wsX6_run_r9 : List Cond := [Cond.fieldLink RX2 110 "DishPointer$Way" "place" "I", Cond.methodLink RX2 113 Lib.Math.abs.name, Cond.fieldLink RX2 117 "DishPointer$Way" "length" "I", Cond.methodLink RX2 171 yX3_isBetterThan, Cond.instanceMethod yX3_isBetterThan, Cond.selects RX3 yX3_isBetterThan yX3_isBetterThan, Cond.code yX3_isBetterThan cX3_isBetterThan 2 (some .boolean), Cond.methodLink RX2 184 yX2_begin, Cond.instanceMethod yX2_begin, Cond.selects RX2 yX2_begin yX2_begin, Cond.code yX2_begin cX2_begin 4 none, Cond.fieldLink RX2 219 "DishPointer$Target" "begunAt" "I", Cond.methodLink RX2 222 yX2_followWays, Cond.instanceMethod yX2_followWays, Cond.selects RX2 yX2_followWays yX2_followWays, Cond.code yX2_followWays cX2_followWays 3 (some .int), Cond.methodLink RX2 120 yX0_follow, Cond.instanceMethod yX0_follow, Cond.selects RX0 yX0_follow yX0_follow, Cond.code yX0_follow cX0_follow 2 none, Cond.fieldLink RX0 55 "DishPointer$Way" "turn" "I", Cond.fieldLink RX0 64 "DishPointer$Way" "end" "I", Cond.methodLink RX0 60 yX0_moveTo, Cond.methodLink RX2 187 yX2_nextEvent]
def wsX6_run_r10 : List Cond := [Cond.instanceMethod yX2_nextEvent, Cond.selects RX2 yX2_nextEvent yX2_nextEvent, Cond.code yX2_nextEvent cX2_nextEvent 6 (some .int), Cond.methodLink RX2 193 yX2_sooner, Cond.instanceMethod yX2_sooner, Cond.selects RX2 yX2_sooner yX2_sooner, Cond.code yX2_sooner cX2_sooner 3 (some .int)]
def wsX6_run : List Cond := .code yX6_run cX6_run 3 (some .int) :: ((wsX6_run_r1 ++ (wsX6_run_r2 ++ (wsX6_run_r3 ++ (wsX6_run_r4 ++ (wsX6_run_r5 ++ (wsX6_run_r6 ++ (wsX6_run_r7 ++ (wsX6_run_r8 ++ (wsX6_run_r9 ++ wsX6_run_r10))))))))) ++ wsX60 ++ wsX20 ++ wsX10 ++ wsX00 ++ wsX30 ++ wsX50)
def wsX6_ifRun_r1 : List Cond := [Cond.constant RX6 41 (-100001), Cond.fieldLink RX6 10 "DishPointer" "now" "LDishPointer$State;", Cond.fieldLink RX6 65 "DishPointer$State" "time" "I", Cond.constant RX6 176 (43200), Cond.constant RX6 146 (-100003), Cond.fieldLink RX6 16 "DishPointer" "trial" "LDishPointer$State;", Cond.methodLink RX6 37 yX6_isBetween, Cond.static yX6_isBetween, Cond.initialized RX6, Cond.code yX6_isBetween cX6_isBetween 3 (some .boolean), Cond.methodLink RX6 180 yX2_copyFrom, Cond.instanceMethod yX2_copyFrom, Cond.selects RX2 yX2_copyFrom yX2_copyFrom, Cond.initialized RX2, Cond.code yX2_copyFrom cX2_copyFrom 3 none, Cond.fieldLink RX2 50 "DishPointer$State" "time" "I", Cond.fieldLink RX2 54 "DishPointer$State" "slews" "I", Cond.fieldLink RX2 57 "DishPointer$State" "holds" "I", Cond.fieldLink RX2 9 "DishPointer$State" "settings" "[I", Cond.methodLink RX2 60 arraycopyName, Cond.native arraycopyName, Cond.static arraycopyName, Cond.initialized "java/lang/System", Cond.fieldLink RX2 15 "DishPointer$State" "gusts" "[I"]
def wsX6_ifRun_r2 : List Cond := [Cond.fieldLink RX2 23 "DishPointer$State" "azimuth" "LDishPointer$Axis;", Cond.fieldLink RX2 27 "DishPointer$State" "elevation" "LDishPointer$Axis;", Cond.fieldLink RX2 32 "DishPointer$State" "targets" "[LDishPointer$Target;", Cond.methodLink RX2 66 yX0_copyFrom, Cond.instanceMethod yX0_copyFrom, Cond.selects RX0 yX0_copyFrom yX0_copyFrom, Cond.initialized RX0, Cond.code yX0_copyFrom cX0_copyFrom 2 none, Cond.fieldLink RX0 24 "DishPointer$Axis" "play" "I", Cond.fieldLink RX0 30 "DishPointer$Axis" "side" "I", Cond.fieldLink RX0 27 "DishPointer$Axis" "speed" "I", Cond.fieldLink RX0 21 "DishPointer$Axis" "motor" "I", Cond.fieldLink RX0 33 "DishPointer$Axis" "slack" "I", Cond.fieldLink RX0 36 "DishPointer$Axis" "wentUp" "I", Cond.fieldLink RX0 39 "DishPointer$Axis" "wentDown" "I", Cond.methodLink RX2 70 yX3_copyFrom, Cond.instanceMethod yX3_copyFrom, Cond.selects RX3 yX3_copyFrom yX3_copyFrom, Cond.initialized RX3, Cond.code yX3_copyFrom cX3_copyFrom 2 none, Cond.fieldLink RX3 15 "DishPointer$Target" "azimuth" "I", Cond.fieldLink RX3 18 "DishPointer$Target" "elevation" "I", Cond.fieldLink RX3 21 "DishPointer$Target" "from" "I", Cond.fieldLink RX3 24 "DishPointer$Target" "to" "I"]
def wsX6_ifRun_r3 : List Cond := [Cond.fieldLink RX3 27 "DishPointer$Target" "dwell" "I", Cond.fieldLink RX3 30 "DishPointer$Target" "priority" "I", Cond.fieldLink RX3 9 "DishPointer$Target" "state" "I", Cond.fieldLink RX3 33 "DishPointer$Target" "begunAt" "I", Cond.fieldLink RX3 36 "DishPointer$Target" "slewedAt" "I", Cond.fieldLink RX3 39 "DishPointer$Target" "doneAt" "I", Cond.fieldLink RX3 42 "DishPointer$Target" "error" "I", Cond.fieldLink RX3 45 "DishPointer$Target" "breaks" "I", Cond.fieldLink RX3 48 "DishPointer$Target" "place" "I", Cond.fieldLink RX3 51 "DishPointer$Target" "slewLookedAt" "Z", Cond.methodLink RX6 177 yX2_letPass, Cond.instanceMethod yX2_letPass, Cond.selects RX2 yX2_letPass yX2_letPass, Cond.code yX2_letPass cX2_letPass 7 none, Cond.methodLink RX2 80 yX2_kindOfDay, Cond.instanceMethod yX2_kindOfDay, Cond.selects RX2 yX2_kindOfDay yX2_kindOfDay, Cond.code yX2_kindOfDay cX2_kindOfDay 2 (some .int), Cond.methodLink RX2 77 yX2_gustToday, Cond.instanceMethod yX2_gustToday, Cond.selects RX2 yX2_gustToday yX2_gustToday, Cond.code yX2_gustToday cX2_gustToday 2 (some .int), Cond.methodLink RX2 73 yX2_day, Cond.instanceMethod yX2_day]
def wsX6_ifRun_r4 : List Cond := [Cond.selects RX2 yX2_day yX2_day, Cond.code yX2_day cX2_day 1 (some .int), Cond.methodLink RX2 175 yX2_beginHold, Cond.instanceMethod yX2_beginHold, Cond.selects RX2 yX2_beginHold yX2_beginHold, Cond.code yX2_beginHold cX2_beginHold 5 none, Cond.fieldLink RX2 128 "DishPointer$Target" "state" "I", Cond.fieldLink RX2 154 "DishPointer$Target" "breaks" "I", Cond.methodLink RX2 196 yX0_moveTo, Cond.instanceMethod yX0_moveTo, Cond.selects RX0 yX0_moveTo yX0_moveTo, Cond.code yX0_moveTo cX0_moveTo 3 none, Cond.methodLink RX0 46 Lib.Math.min.name, Cond.static Lib.Math.min.name, Cond.initialized "java/lang/Math", Cond.code Lib.Math.min.name Lib.Math.min.code 2 (some .int), Cond.methodLink RX0 52 Lib.Math.max.name, Cond.static Lib.Math.max.name, Cond.code Lib.Math.max.name Lib.Math.max.code 2 (some .int), Cond.methodLink RX2 178 yX2_endWhatIsOver, Cond.instanceMethod yX2_endWhatIsOver, Cond.selects RX2 yX2_endWhatIsOver yX2_endWhatIsOver, Cond.code yX2_endWhatIsOver cX2_endWhatIsOver 5 none, Cond.fieldLink RX2 145 "DishPointer$Target" "to" "I"]
def wsX6_ifRun_r5 : List Cond := [Cond.methodLink RX2 200 yX2_goOnWith, Cond.instanceMethod yX2_goOnWith, Cond.selects RX2 yX2_goOnWith yX2_goOnWith, Cond.code yX2_goOnWith cX2_goOnWith 2 none, Cond.fieldLink RX2 131 "DishPointer$Target" "doneAt" "I", Cond.fieldLink RX2 206 "DishPointer$Target" "place" "I", Cond.fieldLink RX2 207 "DishPointer$Target" "error" "I", Cond.methodLink RX2 203 yX2_lookAtSlew, Cond.instanceMethod yX2_lookAtSlew, Cond.selects RX2 yX2_lookAtSlew yX2_lookAtSlew, Cond.code yX2_lookAtSlew cX2_lookAtSlew 2 none, Cond.fieldLink RX2 210 "DishPointer$Target" "slewLookedAt" "Z", Cond.fieldLink RX2 190 "DishPointer$Target" "slewedAt" "I", Cond.fieldLink RX2 213 "DishPointer$Axis" "play" "I", Cond.fieldLink RX2 216 "DishPointer$Axis" "slack" "I", Cond.methodLink RX2 83 yX0_dish, Cond.instanceMethod yX0_dish, Cond.selects RX0 yX0_dish yX0_dish, Cond.code yX0_dish cX0_dish 1 (some .int), Cond.methodLink RX2 181 yX2_bestToBegin, Cond.instanceMethod yX2_bestToBegin, Cond.selects RX2 yX2_bestToBegin yX2_bestToBegin, Cond.code yX2_bestToBegin cX2_bestToBegin 3 (some .int), Cond.methodLink RX2 167 yX2_reasonAgainst]
def wsX6_ifRun_r6 : List Cond := [Cond.instanceMethod yX2_reasonAgainst, Cond.selects RX2 yX2_reasonAgainst yX2_reasonAgainst, Cond.code yX2_reasonAgainst cX2_reasonAgainst 4 (some .int), Cond.fieldLink RX2 142 "DishPointer$Target" "from" "I", Cond.fieldLink RX2 140 "DishPointer$Target" "elevation" "I", Cond.fieldLink RX2 102 "DishPointer$Way" "possible" "Z", Cond.fieldLink RX2 138 "DishPointer$Target" "azimuth" "I", Cond.fieldLink RX2 124 "DishPointer$Way" "time" "I", Cond.methodLink RX2 125 Lib.Math.max.name, Cond.fieldLink RX2 148 "DishPointer$Target" "dwell" "I", Cond.methodLink RX2 157 yX2_numberUnderWay, Cond.instanceMethod yX2_numberUnderWay, Cond.selects RX2 yX2_numberUnderWay yX2_numberUnderWay, Cond.code yX2_numberUnderWay cX2_numberUnderWay 2 (some .int), Cond.methodLink RX2 160 yX2_wayRise, Cond.instanceMethod yX2_wayRise, Cond.selects RX2 yX2_wayRise yX2_wayRise, Cond.code yX2_wayRise cX2_wayRise 2 (some (.object "DishPointer$Way")), Cond.fieldLink RX2 46 "DishPointer$State" "riseWay" "LDishPointer$Way;", Cond.methodLink RX2 98 yX5_plan, Cond.instanceMethod yX5_plan, Cond.selects RX5 yX5_plan yX5_plan, Cond.initialized RX5, Cond.code yX5_plan cX5_plan 6 none]
def wsX6_ifRun_r7 : List Cond := [Cond.fieldLink RX5 15 "DishPointer$Way" "place" "I", Cond.fieldLink RX5 21 "DishPointer$Axis" "side" "I", Cond.fieldLink RX5 24 "DishPointer$Axis" "slack" "I", Cond.fieldLink RX5 27 "DishPointer$Axis" "play" "I", Cond.fieldLink RX5 30 "DishPointer$Way" "turns" "Z", Cond.fieldLink RX5 34 "DishPointer$Way" "turn" "I", Cond.fieldLink RX5 37 "DishPointer$Way" "end" "I", Cond.fieldLink RX5 40 "DishPointer$Axis" "motor" "I", Cond.fieldLink RX5 47 "DishPointer$Way" "possible" "Z", Cond.methodLink RX5 50 Lib.Math.abs.name, Cond.static Lib.Math.abs.name, Cond.code Lib.Math.abs.name Lib.Math.abs.code 1 (some .int), Cond.fieldLink RX5 56 "DishPointer$Way" "length" "I", Cond.fieldLink RX5 59 "DishPointer$Axis" "speed" "I", Cond.fieldLink RX5 62 "DishPointer$Way" "time" "I", Cond.methodLink RX5 9 yX0_dish, Cond.methodLink RX5 43 yX0_reaches, Cond.instanceMethod yX0_reaches, Cond.selects RX0 yX0_reaches yX0_reaches, Cond.code yX0_reaches cX0_reaches 2 (some .boolean), Cond.fieldLink RX0 9 "DishPointer$Axis" "least" "I", Cond.fieldLink RX0 15 "DishPointer$Axis" "most" "I", Cond.methodLink RX2 164 yX2_wayAround, Cond.instanceMethod yX2_wayAround]
def wsX6_ifRun_r8 : List Cond := [Cond.selects RX2 yX2_wayAround yX2_wayAround, Cond.code yX2_wayAround cX2_wayAround 2 (some (.object "DishPointer$Way")), Cond.fieldLink RX2 39 "DishPointer$State" "lowWay" "LDishPointer$Way;", Cond.constant RX2 86 (36000), Cond.fieldLink RX2 43 "DishPointer$State" "highWay" "LDishPointer$Way;", Cond.methodLink RX2 106 yX2_isLowWayTaken, Cond.instanceMethod yX2_isLowWayTaken, Cond.selects RX2 yX2_isLowWayTaken yX2_isLowWayTaken, Cond.code yX2_isLowWayTaken cX2_isLowWayTaken 5 (some .boolean), Cond.fieldLink RX2 110 "DishPointer$Way" "place" "I", Cond.methodLink RX2 113 Lib.Math.abs.name, Cond.fieldLink RX2 117 "DishPointer$Way" "length" "I", Cond.methodLink RX2 171 yX3_isBetterThan, Cond.instanceMethod yX3_isBetterThan, Cond.selects RX3 yX3_isBetterThan yX3_isBetterThan, Cond.code yX3_isBetterThan cX3_isBetterThan 2 (some .boolean), Cond.methodLink RX2 184 yX2_begin, Cond.instanceMethod yX2_begin, Cond.selects RX2 yX2_begin yX2_begin, Cond.code yX2_begin cX2_begin 4 none, Cond.fieldLink RX2 219 "DishPointer$Target" "begunAt" "I", Cond.methodLink RX2 222 yX2_followWays, Cond.instanceMethod yX2_followWays, Cond.selects RX2 yX2_followWays yX2_followWays]
def wsX6_ifRun_r9 : List Cond := [Cond.code yX2_followWays cX2_followWays 3 (some .int), Cond.methodLink RX2 120 yX0_follow, Cond.instanceMethod yX0_follow, Cond.selects RX0 yX0_follow yX0_follow, Cond.code yX0_follow cX0_follow 2 none, Cond.fieldLink RX0 55 "DishPointer$Way" "turn" "I", Cond.fieldLink RX0 64 "DishPointer$Way" "end" "I", Cond.methodLink RX0 60 yX0_moveTo, Cond.methodLink RX2 187 yX2_nextEvent, Cond.instanceMethod yX2_nextEvent, Cond.selects RX2 yX2_nextEvent yX2_nextEvent, Cond.code yX2_nextEvent cX2_nextEvent 6 (some .int), Cond.methodLink RX2 193 yX2_sooner, Cond.instanceMethod yX2_sooner, Cond.selects RX2 yX2_sooner yX2_sooner, Cond.code yX2_sooner cX2_sooner 3 (some .int), Cond.methodLink RX6 73 yX2_targetsIn, Cond.instanceMethod yX2_targetsIn, Cond.selects RX2 yX2_targetsIn yX2_targetsIn, Cond.code yX2_targetsIn cX2_targetsIn 7 (some .int)]
def wsX6_ifRun : List Cond := .code yX6_ifRun cX6_ifRun 2 (some .int) :: ((wsX6_ifRun_r1 ++ (wsX6_ifRun_r2 ++ (wsX6_ifRun_r3 ++ (wsX6_ifRun_r4 ++ (wsX6_ifRun_r5 ++ (wsX6_ifRun_r6 ++ (wsX6_ifRun_r7 ++ (wsX6_ifRun_r8 ++ wsX6_ifRun_r9)))))))) ++ wsX60 ++ wsX20 ++ wsX00 ++ wsX30 ++ wsX50)
def wsX6_undo_r1 : List Cond := [Cond.fieldLink RX6 22 "DishPointer" "history" "LDishPointer$History;", Cond.fieldLink RX6 87 "DishPointer$History" "size" "I", Cond.constant RX6 69 (-100002), Cond.fieldLink RX6 10 "DishPointer" "now" "LDishPointer$State;", Cond.methodLink RX6 183 yX1_restoreLatest, Cond.instanceMethod yX1_restoreLatest, Cond.selects RX1 yX1_restoreLatest yX1_restoreLatest, Cond.initialized RX1, Cond.code yX1_restoreLatest cX1_restoreLatest 2 none, Cond.fieldLink RX1 18 "DishPointer$History" "size" "I", Cond.fieldLink RX1 11 "DishPointer$History" "states" "[LDishPointer$State;", Cond.methodLink RX1 25 yX2_copyFrom, Cond.instanceMethod yX2_copyFrom, Cond.selects RX2 yX2_copyFrom yX2_copyFrom, Cond.initialized RX2, Cond.code yX2_copyFrom cX2_copyFrom 3 none, Cond.fieldLink RX2 50 "DishPointer$State" "time" "I", Cond.fieldLink RX2 54 "DishPointer$State" "slews" "I", Cond.fieldLink RX2 57 "DishPointer$State" "holds" "I", Cond.fieldLink RX2 9 "DishPointer$State" "settings" "[I", Cond.methodLink RX2 60 arraycopyName, Cond.native arraycopyName, Cond.static arraycopyName, Cond.initialized "java/lang/System"]
def wsX6_undo_r2 : List Cond := [Cond.fieldLink RX2 15 "DishPointer$State" "gusts" "[I", Cond.fieldLink RX2 23 "DishPointer$State" "azimuth" "LDishPointer$Axis;", Cond.fieldLink RX2 27 "DishPointer$State" "elevation" "LDishPointer$Axis;", Cond.fieldLink RX2 32 "DishPointer$State" "targets" "[LDishPointer$Target;", Cond.methodLink RX2 66 yX0_copyFrom, Cond.instanceMethod yX0_copyFrom, Cond.selects RX0 yX0_copyFrom yX0_copyFrom, Cond.initialized RX0, Cond.code yX0_copyFrom cX0_copyFrom 2 none, Cond.fieldLink RX0 24 "DishPointer$Axis" "play" "I", Cond.fieldLink RX0 30 "DishPointer$Axis" "side" "I", Cond.fieldLink RX0 27 "DishPointer$Axis" "speed" "I", Cond.fieldLink RX0 21 "DishPointer$Axis" "motor" "I", Cond.fieldLink RX0 33 "DishPointer$Axis" "slack" "I", Cond.fieldLink RX0 36 "DishPointer$Axis" "wentUp" "I", Cond.fieldLink RX0 39 "DishPointer$Axis" "wentDown" "I", Cond.methodLink RX2 70 yX3_copyFrom, Cond.instanceMethod yX3_copyFrom, Cond.selects RX3 yX3_copyFrom yX3_copyFrom, Cond.initialized RX3, Cond.code yX3_copyFrom cX3_copyFrom 2 none, Cond.fieldLink RX3 15 "DishPointer$Target" "azimuth" "I", Cond.fieldLink RX3 18 "DishPointer$Target" "elevation" "I", Cond.fieldLink RX3 21 "DishPointer$Target" "from" "I"]
def wsX6_undo_r3 : List Cond := [Cond.fieldLink RX3 24 "DishPointer$Target" "to" "I", Cond.fieldLink RX3 27 "DishPointer$Target" "dwell" "I", Cond.fieldLink RX3 30 "DishPointer$Target" "priority" "I", Cond.fieldLink RX3 9 "DishPointer$Target" "state" "I", Cond.fieldLink RX3 33 "DishPointer$Target" "begunAt" "I", Cond.fieldLink RX3 36 "DishPointer$Target" "slewedAt" "I", Cond.fieldLink RX3 39 "DishPointer$Target" "doneAt" "I", Cond.fieldLink RX3 42 "DishPointer$Target" "error" "I", Cond.fieldLink RX3 45 "DishPointer$Target" "breaks" "I", Cond.fieldLink RX3 48 "DishPointer$Target" "place" "I", Cond.fieldLink RX3 51 "DishPointer$Target" "slewLookedAt" "Z"]
def wsX6_undo : List Cond := .code yX6_undo cX6_undo 1 (some .int) :: ((wsX6_undo_r1 ++ (wsX6_undo_r2 ++ wsX6_undo_r3)) ++ wsX60 ++ wsX10 ++ wsX20 ++ wsX00 ++ wsX30)
def wsX6_type : List Cond := .code yX6_type cX6_type 2 (some .int) :: ([.constant RX6 41 (-100001), .fieldLink RX6 29 "DishPointer" "text" "LDishPointer$TargetText;", .fieldLink RX6 90 "DishPointer$TargetText" "length" "I", .constant RX6 146 (-100003), .methodLink RX6 37 yX6_isBetween, .static yX6_isBetween, .initialized RX6, .code yX6_isBetween cX6_isBetween 3 (some .boolean), .methodLink RX6 186 yX4_append, .instanceMethod yX4_append, .selects RX4 yX4_append yX4_append, .initialized RX4, .code yX4_append cX4_append 2 none, .fieldLink RX4 19 "DishPointer$TargetText" "length" "I", .fieldLink RX4 9 "DishPointer$TargetText" "signs" "[C"] ++ wsX60 ++ wsX40)
def wsX6_clearText : List Cond := .code yX6_clearText cX6_clearText 2 (some .int) :: ([.fieldLink RX6 29 "DishPointer" "text" "LDishPointer$TargetText;", .fieldLink RX6 90 "DishPointer$TargetText" "length" "I"] ++ wsX60 ++ wsX40)
def wsX6_fault_r1 : List Cond := [Cond.constant RX6 41 (-100001), Cond.fieldLink RX6 29 "DishPointer" "text" "LDishPointer$TargetText;", Cond.fieldLink RX6 10 "DishPointer" "now" "LDishPointer$State;", Cond.fieldLink RX6 192 "DishPointer$TargetText" "faultReason" "I", Cond.constant RX6 116 (-100004), Cond.fieldLink RX6 195 "DishPointer$TargetText" "faultPlace" "I", Cond.methodLink RX6 37 yX6_isBetween, Cond.static yX6_isBetween, Cond.initialized RX6, Cond.code yX6_isBetween cX6_isBetween 3 (some .boolean), Cond.methodLink RX6 73 yX2_targetsIn, Cond.instanceMethod yX2_targetsIn, Cond.selects RX2 yX2_targetsIn yX2_targetsIn, Cond.initialized RX2, Cond.code yX2_targetsIn cX2_targetsIn 7 (some .int), Cond.fieldLink RX2 32 "DishPointer$State" "targets" "[LDishPointer$Target;", Cond.fieldLink RX2 128 "DishPointer$Target" "state" "I", Cond.methodLink RX6 189 yX4_check, Cond.instanceMethod yX4_check, Cond.selects RX4 yX4_check yX4_check, Cond.initialized RX4, Cond.code yX4_check cX4_check 5 none, Cond.fieldLink RX4 23 "DishPointer$TargetText" "entries" "I", Cond.fieldLink RX4 26 "DishPointer$TargetText" "faultReason" "I"]
def wsX6_fault_r2 : List Cond := [Cond.fieldLink RX4 19 "DishPointer$TargetText" "length" "I", Cond.fieldLink RX4 37 "DishPointer$TargetText" "faultPlace" "I", Cond.methodLink RX4 29 yX4_readTarget, Cond.instanceMethod yX4_readTarget, Cond.selects RX4 yX4_readTarget yX4_readTarget, Cond.code yX4_readTarget cX4_readTarget 4 (some .int), Cond.fieldLink RX4 15 "DishPointer$TargetText" "numbers" "[I", Cond.methodLink RX4 44 yX4_readPart, Cond.instanceMethod yX4_readPart, Cond.selects RX4 yX4_readPart yX4_readPart, Cond.code yX4_readPart cX4_readPart 5 (some .int), Cond.methodLink RX4 47 yX4_signAt, Cond.instanceMethod yX4_signAt, Cond.selects RX4 yX4_signAt yX4_signAt, Cond.code yX4_signAt cX4_signAt 2 (some .char), Cond.fieldLink RX4 9 "DishPointer$TargetText" "signs" "[C", Cond.methodLink RX4 54 yX4_isDigit, Cond.static yX4_isDigit, Cond.code yX4_isDigit cX4_isDigit 1 (some .boolean), Cond.methodLink RX4 33 yX4_reasonAgainstEntry, Cond.instanceMethod yX4_reasonAgainstEntry, Cond.selects RX4 yX4_reasonAgainstEntry yX4_reasonAgainstEntry, Cond.code yX4_reasonAgainstEntry cX4_reasonAgainstEntry 3 (some .int), Cond.static yX6_isTargetInRange]
def wsX6_fault_r3 : List Cond := [Cond.code yX6_isTargetInRange cX6_isTargetInRange 6 (some .boolean), Cond.constant RX6 104 (35999), Cond.constant RX6 176 (43200)]
def wsX6_fault : List Cond := .code yX6_fault cX6_fault 2 (some .int) :: ((wsX6_fault_r1 ++ (wsX6_fault_r2 ++ wsX6_fault_r3)) ++ wsX60 ++ wsX40 ++ wsX20 ++ wsX30)
def wsX6_enter_r1 : List Cond := [Cond.fieldLink RX6 29 "DishPointer" "text" "LDishPointer$TargetText;", Cond.fieldLink RX6 10 "DishPointer" "now" "LDishPointer$State;", Cond.fieldLink RX6 192 "DishPointer$TargetText" "faultReason" "I", Cond.constant RX6 69 (-100002), Cond.fieldLink RX6 22 "DishPointer" "history" "LDishPointer$History;", Cond.fieldLink RX6 198 "DishPointer$TargetText" "numbers" "[I", Cond.fieldLink RX6 201 "DishPointer$TargetText" "entries" "I", Cond.methodLink RX6 73 yX2_targetsIn, Cond.instanceMethod yX2_targetsIn, Cond.selects RX2 yX2_targetsIn yX2_targetsIn, Cond.initialized RX2, Cond.code yX2_targetsIn cX2_targetsIn 7 (some .int), Cond.fieldLink RX2 32 "DishPointer$State" "targets" "[LDishPointer$Target;", Cond.fieldLink RX2 128 "DishPointer$Target" "state" "I", Cond.methodLink RX6 189 yX4_check, Cond.instanceMethod yX4_check, Cond.selects RX4 yX4_check yX4_check, Cond.initialized RX4, Cond.code yX4_check cX4_check 5 none, Cond.fieldLink RX4 23 "DishPointer$TargetText" "entries" "I", Cond.fieldLink RX4 26 "DishPointer$TargetText" "faultReason" "I", Cond.fieldLink RX4 19 "DishPointer$TargetText" "length" "I", Cond.fieldLink RX4 37 "DishPointer$TargetText" "faultPlace" "I", Cond.methodLink RX4 29 yX4_readTarget]
def wsX6_enter_r2 : List Cond := [Cond.instanceMethod yX4_readTarget, Cond.selects RX4 yX4_readTarget yX4_readTarget, Cond.code yX4_readTarget cX4_readTarget 4 (some .int), Cond.fieldLink RX4 15 "DishPointer$TargetText" "numbers" "[I", Cond.methodLink RX4 44 yX4_readPart, Cond.instanceMethod yX4_readPart, Cond.selects RX4 yX4_readPart yX4_readPart, Cond.code yX4_readPart cX4_readPart 5 (some .int), Cond.methodLink RX4 47 yX4_signAt, Cond.instanceMethod yX4_signAt, Cond.selects RX4 yX4_signAt yX4_signAt, Cond.code yX4_signAt cX4_signAt 2 (some .char), Cond.fieldLink RX4 9 "DishPointer$TargetText" "signs" "[C", Cond.methodLink RX4 54 yX4_isDigit, Cond.static yX4_isDigit, Cond.code yX4_isDigit cX4_isDigit 1 (some .boolean), Cond.methodLink RX4 33 yX4_reasonAgainstEntry, Cond.instanceMethod yX4_reasonAgainstEntry, Cond.selects RX4 yX4_reasonAgainstEntry yX4_reasonAgainstEntry, Cond.code yX4_reasonAgainstEntry cX4_reasonAgainstEntry 3 (some .int), Cond.static yX6_isTargetInRange, Cond.initialized RX6, Cond.code yX6_isTargetInRange cX6_isTargetInRange 6 (some .boolean), Cond.constant RX6 104 (35999)]
def wsX6_enter_r3 : List Cond := [Cond.constant RX6 176 (43200), Cond.methodLink RX6 37 yX6_isBetween, Cond.static yX6_isBetween, Cond.code yX6_isBetween cX6_isBetween 3 (some .boolean), Cond.methodLink RX6 42 yX1_record, Cond.instanceMethod yX1_record, Cond.selects RX1 yX1_record yX1_record, Cond.initialized RX1, Cond.code yX1_record cX1_record 2 none, Cond.fieldLink RX1 18 "DishPointer$History" "size" "I", Cond.fieldLink RX1 11 "DishPointer$History" "states" "[LDishPointer$State;", Cond.methodLink RX1 22 yX1_dropOldest, Cond.instanceMethod yX1_dropOldest, Cond.selects RX1 yX1_dropOldest yX1_dropOldest, Cond.code yX1_dropOldest cX1_dropOldest 3 none, Cond.methodLink RX1 25 yX2_copyFrom, Cond.instanceMethod yX2_copyFrom, Cond.selects RX2 yX2_copyFrom yX2_copyFrom, Cond.code yX2_copyFrom cX2_copyFrom 3 none, Cond.fieldLink RX2 50 "DishPointer$State" "time" "I", Cond.fieldLink RX2 54 "DishPointer$State" "slews" "I", Cond.fieldLink RX2 57 "DishPointer$State" "holds" "I", Cond.fieldLink RX2 9 "DishPointer$State" "settings" "[I", Cond.methodLink RX2 60 arraycopyName]
def wsX6_enter_r4 : List Cond := [Cond.native arraycopyName, Cond.static arraycopyName, Cond.initialized "java/lang/System", Cond.fieldLink RX2 15 "DishPointer$State" "gusts" "[I", Cond.fieldLink RX2 23 "DishPointer$State" "azimuth" "LDishPointer$Axis;", Cond.fieldLink RX2 27 "DishPointer$State" "elevation" "LDishPointer$Axis;", Cond.methodLink RX2 66 yX0_copyFrom, Cond.instanceMethod yX0_copyFrom, Cond.selects RX0 yX0_copyFrom yX0_copyFrom, Cond.initialized RX0, Cond.code yX0_copyFrom cX0_copyFrom 2 none, Cond.fieldLink RX0 24 "DishPointer$Axis" "play" "I", Cond.fieldLink RX0 30 "DishPointer$Axis" "side" "I", Cond.fieldLink RX0 27 "DishPointer$Axis" "speed" "I", Cond.fieldLink RX0 21 "DishPointer$Axis" "motor" "I", Cond.fieldLink RX0 33 "DishPointer$Axis" "slack" "I", Cond.fieldLink RX0 36 "DishPointer$Axis" "wentUp" "I", Cond.fieldLink RX0 39 "DishPointer$Axis" "wentDown" "I", Cond.methodLink RX2 70 yX3_copyFrom, Cond.instanceMethod yX3_copyFrom, Cond.selects RX3 yX3_copyFrom yX3_copyFrom, Cond.initialized RX3, Cond.code yX3_copyFrom cX3_copyFrom 2 none, Cond.fieldLink RX3 15 "DishPointer$Target" "azimuth" "I"]
def wsX6_enter_r5 : List Cond := [Cond.fieldLink RX3 18 "DishPointer$Target" "elevation" "I", Cond.fieldLink RX3 21 "DishPointer$Target" "from" "I", Cond.fieldLink RX3 24 "DishPointer$Target" "to" "I", Cond.fieldLink RX3 27 "DishPointer$Target" "dwell" "I", Cond.fieldLink RX3 30 "DishPointer$Target" "priority" "I", Cond.fieldLink RX3 9 "DishPointer$Target" "state" "I", Cond.fieldLink RX3 33 "DishPointer$Target" "begunAt" "I", Cond.fieldLink RX3 36 "DishPointer$Target" "slewedAt" "I", Cond.fieldLink RX3 39 "DishPointer$Target" "doneAt" "I", Cond.fieldLink RX3 42 "DishPointer$Target" "error" "I", Cond.fieldLink RX3 45 "DishPointer$Target" "breaks" "I", Cond.fieldLink RX3 48 "DishPointer$Target" "place" "I", Cond.fieldLink RX3 51 "DishPointer$Target" "slewLookedAt" "Z", Cond.methodLink RX6 204 yX4_readTarget, Cond.methodLink RX6 147 yX2_append, Cond.instanceMethod yX2_append, Cond.selects RX2 yX2_append yX2_append, Cond.code yX2_append cX2_append 9 (some .int), Cond.fieldLink RX2 138 "DishPointer$Target" "azimuth" "I", Cond.fieldLink RX2 140 "DishPointer$Target" "elevation" "I", Cond.fieldLink RX2 142 "DishPointer$Target" "from" "I", Cond.fieldLink RX2 145 "DishPointer$Target" "to" "I", Cond.fieldLink RX2 148 "DishPointer$Target" "dwell" "I", Cond.fieldLink RX2 151 "DishPointer$Target" "priority" "I"]
def wsX6_enter_r6 : List Cond := [Cond.fieldLink RX2 154 "DishPointer$Target" "breaks" "I", Cond.methodLink RX2 135 yX2_targetsIn]
def wsX6_enter : List Cond := .code yX6_enter cX6_enter 4 (some .int) :: ((wsX6_enter_r1 ++ (wsX6_enter_r2 ++ (wsX6_enter_r3 ++ (wsX6_enter_r4 ++ (wsX6_enter_r5 ++ wsX6_enter_r6))))) ++ wsX60 ++ wsX40 ++ wsX20 ++ wsX30 ++ wsX10 ++ wsX00)
def wsX7_init : List Cond := .code yX7_init cX7_init 1 none :: ([.methodLink RX7 1 objectInit, .instanceMethod objectInit, .code objectInit ⟨#[0xb1]⟩ 1 none, .arrayClass .int, .fieldLink RX7 7 "DishPointerModel" "s" "[I", .fieldLink RX7 13 "DishPointerModel" "was" "[I", .fieldLink RX7 16 "DishPointerModel" "aside" "[I", .fieldLink RX7 19 "DishPointerModel" "text" "[I", .fieldLink RX7 22 "DishPointerModel" "parts" "[I"] ++ wsX70)
def wsX7_in : List Cond := .code yX7_in cX7_in 3 (some .boolean) :: ([])
def wsX7_copies : List Cond := .code yX7_copies cX7_copies 4 none :: ([])
def wsX7_records : List Cond := .code yX7_records cX7_records 2 none :: ([.fieldLink RX7 25 "DishPointerModel" "states" "I", .fieldLink RX7 13 "DishPointerModel" "was" "[I", .fieldLink RX7 7 "DishPointerModel" "s" "[I"] ++ wsX70)
def wsX7_ofAxis : List Cond := .code yX7_ofAxis cX7_ofAxis 3 (some .int) :: ([.fieldLink RX7 7 "DishPointerModel" "s" "[I"] ++ wsX70)
def wsX7_of : List Cond := .code yX7_of cX7_of 3 (some .int) :: ([.fieldLink RX7 7 "DishPointerModel" "s" "[I"] ++ wsX70)
def wsX7_puts : List Cond := .code yX7_puts cX7_puts 4 none :: ([.fieldLink RX7 7 "DishPointerModel" "s" "[I"] ++ wsX70)
def wsX7_isTarget : List Cond := .code yX7_isTarget cX7_isTarget 2 (some .boolean) :: ([.fieldLink RX7 7 "DishPointerModel" "s" "[I"] ++ wsX70)
def wsX7_day : List Cond := .code yX7_day cX7_day 1 (some .int) :: ([.fieldLink RX7 7 "DishPointerModel" "s" "[I"] ++ wsX70)
def wsX7_gustNow : List Cond := .code yX7_gustNow cX7_gustNow 1 (some .int) :: ([.fieldLink RX7 7 "DishPointerModel" "s" "[I", .methodLink RX7 29 yX7_day, .instanceMethod yX7_day, .selects RX7 yX7_day yX7_day, .initialized RX7, .code yX7_day cX7_day 1 (some .int)] ++ wsX70)
def wsX7_kindOfDay : List Cond := .code yX7_kindOfDay cX7_kindOfDay 1 (some .int) :: ([.fieldLink RX7 7 "DishPointerModel" "s" "[I", .methodLink RX7 33 yX7_gustNow, .instanceMethod yX7_gustNow, .selects RX7 yX7_gustNow yX7_gustNow, .initialized RX7, .code yX7_gustNow cX7_gustNow 1 (some .int), .methodLink RX7 29 yX7_day, .instanceMethod yX7_day, .selects RX7 yX7_day yX7_day, .code yX7_day cX7_day 1 (some .int)] ++ wsX70)
def wsX7_stands : List Cond := .code yX7_stands cX7_stands 2 (some .int) :: ([.methodLink RX7 36 yX7_ofAxis, .instanceMethod yX7_ofAxis, .selects RX7 yX7_ofAxis yX7_ofAxis, .initialized RX7, .code yX7_ofAxis cX7_ofAxis 3 (some .int), .fieldLink RX7 7 "DishPointerModel" "s" "[I"] ++ wsX70)
def wsX7_finds : List Cond := .code yX7_finds cX7_finds 7 none :: ([.fieldLink RX7 44 "DishPointerModel" "turns" "Z", .fieldLink RX7 48 "DishPointerModel" "end" "I", .fieldLink RX7 51 "DishPointerModel" "turn" "I", .fieldLink RX7 7 "DishPointerModel" "s" "[I", .methodLink RX7 40 yX7_stands, .instanceMethod yX7_stands, .selects RX7 yX7_stands yX7_stands, .initialized RX7, .code yX7_stands cX7_stands 2 (some .int), .methodLink RX7 36 yX7_ofAxis, .instanceMethod yX7_ofAxis, .selects RX7 yX7_ofAxis yX7_ofAxis, .code yX7_ofAxis cX7_ofAxis 3 (some .int)] ++ wsX70)
def wsX7_isInRange : List Cond := .code yX7_isInRange cX7_isInRange 3 (some .boolean) :: ([.methodLink RX7 54 yX7_in, .static yX7_in, .initialized RX7, .code yX7_in cX7_in 3 (some .boolean)])
def wsX7_isPossible : List Cond := .code yX7_isPossible cX7_isPossible 3 (some .boolean) :: ([.fieldLink RX7 48 "DishPointerModel" "end" "I", .fieldLink RX7 44 "DishPointerModel" "turns" "Z", .fieldLink RX7 51 "DishPointerModel" "turn" "I", .methodLink RX7 58 yX7_finds, .instanceMethod yX7_finds, .selects RX7 yX7_finds yX7_finds, .initialized RX7, .code yX7_finds cX7_finds 7 none, .fieldLink RX7 7 "DishPointerModel" "s" "[I", .methodLink RX7 40 yX7_stands, .instanceMethod yX7_stands, .selects RX7 yX7_stands yX7_stands, .code yX7_stands cX7_stands 2 (some .int), .methodLink RX7 36 yX7_ofAxis, .instanceMethod yX7_ofAxis, .selects RX7 yX7_ofAxis yX7_ofAxis, .code yX7_ofAxis cX7_ofAxis 3 (some .int), .methodLink RX7 62 yX7_isInRange, .instanceMethod yX7_isInRange, .selects RX7 yX7_isInRange yX7_isInRange, .code yX7_isInRange cX7_isInRange 3 (some .boolean), .methodLink RX7 54 yX7_in, .static yX7_in, .code yX7_in cX7_in 3 (some .boolean)] ++ wsX70)
def wsX7_apart : List Cond := .code yX7_apart cX7_apart 2 (some .int) :: ([])
def wsX7_lengthOf : List Cond := .code yX7_lengthOf cX7_lengthOf 4 (some .int) :: ([.fieldLink RX7 44 "DishPointerModel" "turns" "Z", .fieldLink RX7 51 "DishPointerModel" "turn" "I", .fieldLink RX7 48 "DishPointerModel" "end" "I", .methodLink RX7 58 yX7_finds, .instanceMethod yX7_finds, .selects RX7 yX7_finds yX7_finds, .initialized RX7, .code yX7_finds cX7_finds 7 none, .fieldLink RX7 7 "DishPointerModel" "s" "[I", .methodLink RX7 40 yX7_stands, .instanceMethod yX7_stands, .selects RX7 yX7_stands yX7_stands, .code yX7_stands cX7_stands 2 (some .int), .methodLink RX7 36 yX7_ofAxis, .instanceMethod yX7_ofAxis, .selects RX7 yX7_ofAxis yX7_ofAxis, .code yX7_ofAxis cX7_ofAxis 3 (some .int), .methodLink RX7 66 yX7_apart, .static yX7_apart, .code yX7_apart cX7_apart 2 (some .int)] ++ wsX70)
def wsX7_timeOf : List Cond := .code yX7_timeOf cX7_timeOf 4 (some .int) :: ([.methodLink RX7 36 yX7_ofAxis, .instanceMethod yX7_ofAxis, .selects RX7 yX7_ofAxis yX7_ofAxis, .initialized RX7, .code yX7_ofAxis cX7_ofAxis 3 (some .int), .fieldLink RX7 7 "DishPointerModel" "s" "[I", .methodLink RX7 69 yX7_lengthOf, .instanceMethod yX7_lengthOf, .selects RX7 yX7_lengthOf yX7_lengthOf, .code yX7_lengthOf cX7_lengthOf 4 (some .int), .fieldLink RX7 44 "DishPointerModel" "turns" "Z", .fieldLink RX7 51 "DishPointerModel" "turn" "I", .fieldLink RX7 48 "DishPointerModel" "end" "I", .methodLink RX7 58 yX7_finds, .instanceMethod yX7_finds, .selects RX7 yX7_finds yX7_finds, .code yX7_finds cX7_finds 7 none, .methodLink RX7 40 yX7_stands, .instanceMethod yX7_stands, .selects RX7 yX7_stands yX7_stands, .code yX7_stands cX7_stands 2 (some .int), .methodLink RX7 66 yX7_apart, .static yX7_apart, .code yX7_apart cX7_apart 2 (some .int)] ++ wsX70)
def wsX7_isCalm : List Cond := .code yX7_isCalm cX7_isCalm 2 (some .boolean) :: ([.fieldLink RX7 7 "DishPointerModel" "s" "[I", .methodLink RX7 54 yX7_in, .static yX7_in, .initialized RX7, .code yX7_in cX7_in 3 (some .boolean)] ++ wsX70)
def wsX7_isBetter_r1 : List Cond := [Cond.methodLink RX7 72 yX7_isCalm, Cond.instanceMethod yX7_isCalm, Cond.selects RX7 yX7_isCalm yX7_isCalm, Cond.initialized RX7, Cond.code yX7_isCalm cX7_isCalm 2 (some .boolean), Cond.fieldLink RX7 7 "DishPointerModel" "s" "[I", Cond.methodLink RX7 54 yX7_in, Cond.static yX7_in, Cond.code yX7_in cX7_in 3 (some .boolean), Cond.methodLink RX7 69 yX7_lengthOf, Cond.instanceMethod yX7_lengthOf, Cond.selects RX7 yX7_lengthOf yX7_lengthOf, Cond.code yX7_lengthOf cX7_lengthOf 4 (some .int), Cond.fieldLink RX7 44 "DishPointerModel" "turns" "Z", Cond.fieldLink RX7 51 "DishPointerModel" "turn" "I", Cond.fieldLink RX7 48 "DishPointerModel" "end" "I", Cond.methodLink RX7 58 yX7_finds, Cond.instanceMethod yX7_finds, Cond.selects RX7 yX7_finds yX7_finds, Cond.code yX7_finds cX7_finds 7 none, Cond.methodLink RX7 40 yX7_stands, Cond.instanceMethod yX7_stands, Cond.selects RX7 yX7_stands yX7_stands, Cond.code yX7_stands cX7_stands 2 (some .int)]
def wsX7_isBetter_r2 : List Cond := [Cond.methodLink RX7 36 yX7_ofAxis, Cond.instanceMethod yX7_ofAxis, Cond.selects RX7 yX7_ofAxis yX7_ofAxis, Cond.code yX7_ofAxis cX7_ofAxis 3 (some .int), Cond.methodLink RX7 66 yX7_apart, Cond.static yX7_apart, Cond.code yX7_apart cX7_apart 2 (some .int)]
def wsX7_isBetter : List Cond := .code yX7_isBetter cX7_isBetter 7 (some .boolean) :: ((wsX7_isBetter_r1 ++ wsX7_isBetter_r2) ++ wsX70)
def wsX7_placeOf_r1 : List Cond := [Cond.constant RX7 76 (36000), Cond.constant RX7 80 (-100004), Cond.methodLink RX7 77 yX7_isPossible, Cond.instanceMethod yX7_isPossible, Cond.selects RX7 yX7_isPossible yX7_isPossible, Cond.initialized RX7, Cond.code yX7_isPossible cX7_isPossible 3 (some .boolean), Cond.fieldLink RX7 48 "DishPointerModel" "end" "I", Cond.fieldLink RX7 44 "DishPointerModel" "turns" "Z", Cond.fieldLink RX7 51 "DishPointerModel" "turn" "I", Cond.methodLink RX7 58 yX7_finds, Cond.instanceMethod yX7_finds, Cond.selects RX7 yX7_finds yX7_finds, Cond.code yX7_finds cX7_finds 7 none, Cond.fieldLink RX7 7 "DishPointerModel" "s" "[I", Cond.methodLink RX7 40 yX7_stands, Cond.instanceMethod yX7_stands, Cond.selects RX7 yX7_stands yX7_stands, Cond.code yX7_stands cX7_stands 2 (some .int), Cond.methodLink RX7 36 yX7_ofAxis, Cond.instanceMethod yX7_ofAxis, Cond.selects RX7 yX7_ofAxis yX7_ofAxis, Cond.code yX7_ofAxis cX7_ofAxis 3 (some .int), Cond.methodLink RX7 62 yX7_isInRange]
def wsX7_placeOf_r2 : List Cond := [Cond.instanceMethod yX7_isInRange, Cond.selects RX7 yX7_isInRange yX7_isInRange, Cond.code yX7_isInRange cX7_isInRange 3 (some .boolean), Cond.methodLink RX7 54 yX7_in, Cond.static yX7_in, Cond.code yX7_in cX7_in 3 (some .boolean), Cond.methodLink RX7 81 yX7_isBetter, Cond.instanceMethod yX7_isBetter, Cond.selects RX7 yX7_isBetter yX7_isBetter, Cond.code yX7_isBetter cX7_isBetter 7 (some .boolean), Cond.methodLink RX7 72 yX7_isCalm, Cond.instanceMethod yX7_isCalm, Cond.selects RX7 yX7_isCalm yX7_isCalm, Cond.code yX7_isCalm cX7_isCalm 2 (some .boolean), Cond.methodLink RX7 69 yX7_lengthOf, Cond.instanceMethod yX7_lengthOf, Cond.selects RX7 yX7_lengthOf yX7_lengthOf, Cond.code yX7_lengthOf cX7_lengthOf 4 (some .int), Cond.methodLink RX7 66 yX7_apart, Cond.static yX7_apart, Cond.code yX7_apart cX7_apart 2 (some .int)]
def wsX7_placeOf : List Cond := .code yX7_placeOf cX7_placeOf 5 (some .int) :: ((wsX7_placeOf_r1 ++ wsX7_placeOf_r2) ++ wsX70)
def wsX7_goes : List Cond := .code yX7_goes cX7_goes 6 none :: ([.fieldLink RX7 7 "DishPointerModel" "s" "[I"] ++ wsX70)
def wsX7_leads : List Cond := .code yX7_leads cX7_leads 4 none :: ([.fieldLink RX7 48 "DishPointerModel" "end" "I", .fieldLink RX7 44 "DishPointerModel" "turns" "Z", .fieldLink RX7 51 "DishPointerModel" "turn" "I", .methodLink RX7 58 yX7_finds, .instanceMethod yX7_finds, .selects RX7 yX7_finds yX7_finds, .initialized RX7, .code yX7_finds cX7_finds 7 none, .fieldLink RX7 7 "DishPointerModel" "s" "[I", .methodLink RX7 40 yX7_stands, .instanceMethod yX7_stands, .selects RX7 yX7_stands yX7_stands, .code yX7_stands cX7_stands 2 (some .int), .methodLink RX7 36 yX7_ofAxis, .instanceMethod yX7_ofAxis, .selects RX7 yX7_ofAxis yX7_ofAxis, .code yX7_ofAxis cX7_ofAxis 3 (some .int), .methodLink RX7 84 yX7_goes, .instanceMethod yX7_goes, .selects RX7 yX7_goes yX7_goes, .code yX7_goes cX7_goes 6 none] ++ wsX70)
def wsX7_slews_r1 : List Cond := [Cond.fieldLink RX7 7 "DishPointerModel" "s" "[I", Cond.methodLink RX7 87 yX7_timeOf, Cond.instanceMethod yX7_timeOf, Cond.selects RX7 yX7_timeOf yX7_timeOf, Cond.initialized RX7, Cond.code yX7_timeOf cX7_timeOf 4 (some .int), Cond.methodLink RX7 36 yX7_ofAxis, Cond.instanceMethod yX7_ofAxis, Cond.selects RX7 yX7_ofAxis yX7_ofAxis, Cond.code yX7_ofAxis cX7_ofAxis 3 (some .int), Cond.methodLink RX7 69 yX7_lengthOf, Cond.instanceMethod yX7_lengthOf, Cond.selects RX7 yX7_lengthOf yX7_lengthOf, Cond.code yX7_lengthOf cX7_lengthOf 4 (some .int), Cond.fieldLink RX7 44 "DishPointerModel" "turns" "Z", Cond.fieldLink RX7 51 "DishPointerModel" "turn" "I", Cond.fieldLink RX7 48 "DishPointerModel" "end" "I", Cond.methodLink RX7 58 yX7_finds, Cond.instanceMethod yX7_finds, Cond.selects RX7 yX7_finds yX7_finds, Cond.code yX7_finds cX7_finds 7 none, Cond.methodLink RX7 40 yX7_stands, Cond.instanceMethod yX7_stands, Cond.selects RX7 yX7_stands yX7_stands]
def wsX7_slews_r2 : List Cond := [Cond.code yX7_stands cX7_stands 2 (some .int), Cond.methodLink RX7 66 yX7_apart, Cond.static yX7_apart, Cond.code yX7_apart cX7_apart 2 (some .int), Cond.methodLink RX7 90 yX7_leads, Cond.instanceMethod yX7_leads, Cond.selects RX7 yX7_leads yX7_leads, Cond.code yX7_leads cX7_leads 4 none, Cond.methodLink RX7 84 yX7_goes, Cond.instanceMethod yX7_goes, Cond.selects RX7 yX7_goes yX7_goes, Cond.code yX7_goes cX7_goes 6 none]
def wsX7_slews : List Cond := .code yX7_slews cX7_slews 5 (some .int) :: ((wsX7_slews_r1 ++ wsX7_slews_r2) ++ wsX70)
def wsX7_mostOf : List Cond := .code yX7_mostOf cX7_mostOf 1 (some .int) :: ([])
def wsX7_set : List Cond := .code yX7_set cX7_set 4 (some .int) :: ([.constant RX7 96 (-100001), .fieldLink RX7 7 "DishPointerModel" "s" "[I", .methodLink RX7 54 yX7_in, .static yX7_in, .initialized RX7, .code yX7_in cX7_in 3 (some .boolean), .methodLink RX7 93 yX7_mostOf, .static yX7_mostOf, .code yX7_mostOf cX7_mostOf 1 (some .int), .methodLink RX7 97 yX7_records, .instanceMethod yX7_records, .selects RX7 yX7_records yX7_records, .code yX7_records cX7_records 2 none, .fieldLink RX7 25 "DishPointerModel" "states" "I", .fieldLink RX7 13 "DishPointerModel" "was" "[I"] ++ wsX70)
def wsX7_isOfAxis : List Cond := .code yX7_isOfAxis cX7_isOfAxis 2 (some .boolean) :: ([.methodLink RX7 54 yX7_in, .static yX7_in, .initialized RX7, .code yX7_in cX7_in 3 (some .boolean)])
def wsX7_setAxis : List Cond := .code yX7_setAxis cX7_setAxis 6 (some .int) :: ([.constant RX7 96 (-100001), .fieldLink RX7 7 "DishPointerModel" "s" "[I", .methodLink RX7 54 yX7_in, .static yX7_in, .initialized RX7, .code yX7_in cX7_in 3 (some .boolean), .methodLink RX7 100 yX7_isOfAxis, .static yX7_isOfAxis, .code yX7_isOfAxis cX7_isOfAxis 2 (some .boolean), .methodLink RX7 97 yX7_records, .instanceMethod yX7_records, .selects RX7 yX7_records yX7_records, .code yX7_records cX7_records 2 none, .fieldLink RX7 25 "DishPointerModel" "states" "I", .fieldLink RX7 13 "DishPointerModel" "was" "[I"] ++ wsX70)
def wsX7_gust : List Cond := .code yX7_gust cX7_gust 4 (some .int) :: ([.constant RX7 96 (-100001), .fieldLink RX7 7 "DishPointerModel" "s" "[I", .constant RX7 103 (-100002), .methodLink RX7 54 yX7_in, .static yX7_in, .initialized RX7, .code yX7_in cX7_in 3 (some .boolean), .methodLink RX7 97 yX7_records, .instanceMethod yX7_records, .selects RX7 yX7_records yX7_records, .code yX7_records cX7_records 2 none, .fieldLink RX7 25 "DishPointerModel" "states" "I", .fieldLink RX7 13 "DishPointerModel" "was" "[I"] ++ wsX70)
def wsX7_underWay : List Cond := .code yX7_underWay cX7_underWay 2 (some .int) :: ([.fieldLink RX7 7 "DishPointerModel" "s" "[I", .constant RX7 80 (-100004), .methodLink RX7 104 yX7_of, .instanceMethod yX7_of, .selects RX7 yX7_of yX7_of, .initialized RX7, .code yX7_of cX7_of 3 (some .int)] ++ wsX70)
def wsX7_manyIn : List Cond := .code yX7_manyIn cX7_manyIn 4 (some .int) :: ([.fieldLink RX7 7 "DishPointerModel" "s" "[I", .methodLink RX7 104 yX7_of, .instanceMethod yX7_of, .selects RX7 yX7_of yX7_of, .initialized RX7, .code yX7_of cX7_of 3 (some .int)] ++ wsX70)
def wsX7_minutesLeft : List Cond := .code yX7_minutesLeft cX7_minutesLeft 2 (some .int) :: ([.constant RX7 80 (-100004), .fieldLink RX7 7 "DishPointerModel" "s" "[I", .methodLink RX7 107 yX7_underWay, .instanceMethod yX7_underWay, .selects RX7 yX7_underWay yX7_underWay, .initialized RX7, .code yX7_underWay cX7_underWay 2 (some .int), .methodLink RX7 104 yX7_of, .instanceMethod yX7_of, .selects RX7 yX7_of yX7_of, .code yX7_of cX7_of 3 (some .int)] ++ wsX70)
def wsX7_count_r1 : List Cond := [Cond.fieldLink RX7 7 "DishPointerModel" "s" "[I", Cond.fieldLink RX7 25 "DishPointerModel" "states" "I", Cond.fieldLink RX7 119 "DishPointerModel" "typed" "I", Cond.constant RX7 76 (36000), Cond.constant RX7 96 (-100001), Cond.methodLink RX7 29 yX7_day, Cond.instanceMethod yX7_day, Cond.selects RX7 yX7_day yX7_day, Cond.initialized RX7, Cond.code yX7_day cX7_day 1 (some .int), Cond.methodLink RX7 33 yX7_gustNow, Cond.instanceMethod yX7_gustNow, Cond.selects RX7 yX7_gustNow yX7_gustNow, Cond.code yX7_gustNow cX7_gustNow 1 (some .int), Cond.methodLink RX7 110 yX7_kindOfDay, Cond.instanceMethod yX7_kindOfDay, Cond.selects RX7 yX7_kindOfDay yX7_kindOfDay, Cond.code yX7_kindOfDay cX7_kindOfDay 1 (some .int), Cond.methodLink RX7 113 yX7_manyIn, Cond.instanceMethod yX7_manyIn, Cond.selects RX7 yX7_manyIn yX7_manyIn, Cond.code yX7_manyIn cX7_manyIn 4 (some .int), Cond.methodLink RX7 104 yX7_of, Cond.instanceMethod yX7_of]
def wsX7_count_r2 : List Cond := [Cond.selects RX7 yX7_of yX7_of, Cond.code yX7_of cX7_of 3 (some .int), Cond.methodLink RX7 107 yX7_underWay, Cond.instanceMethod yX7_underWay, Cond.selects RX7 yX7_underWay yX7_underWay, Cond.code yX7_underWay cX7_underWay 2 (some .int), Cond.constant RX7 80 (-100004), Cond.methodLink RX7 116 yX7_minutesLeft, Cond.instanceMethod yX7_minutesLeft, Cond.selects RX7 yX7_minutesLeft yX7_minutesLeft, Cond.code yX7_minutesLeft cX7_minutesLeft 2 (some .int), Cond.methodLink RX7 40 yX7_stands, Cond.instanceMethod yX7_stands, Cond.selects RX7 yX7_stands yX7_stands, Cond.code yX7_stands cX7_stands 2 (some .int), Cond.methodLink RX7 36 yX7_ofAxis, Cond.instanceMethod yX7_ofAxis, Cond.selects RX7 yX7_ofAxis yX7_ofAxis, Cond.code yX7_ofAxis cX7_ofAxis 3 (some .int)]
def wsX7_count : List Cond := .code yX7_count cX7_count 2 (some .int) :: ((wsX7_count_r1 ++ wsX7_count_r2) ++ wsX70)
def wsX7_axis : List Cond := .code yX7_axis cX7_axis 3 (some .int) :: ([.constant RX7 96 (-100001), .methodLink RX7 54 yX7_in, .static yX7_in, .initialized RX7, .code yX7_in cX7_in 3 (some .boolean), .methodLink RX7 36 yX7_ofAxis, .instanceMethod yX7_ofAxis, .selects RX7 yX7_ofAxis yX7_ofAxis, .code yX7_ofAxis cX7_ofAxis 3 (some .int), .fieldLink RX7 7 "DishPointerModel" "s" "[I", .methodLink RX7 40 yX7_stands, .instanceMethod yX7_stands, .selects RX7 yX7_stands yX7_stands, .code yX7_stands cX7_stands 2 (some .int)] ++ wsX70)
def wsX7_way_r1 : List Cond := [Cond.constant RX7 96 (-100001), Cond.constant RX7 80 (-100004), Cond.fieldLink RX7 48 "DishPointerModel" "end" "I", Cond.fieldLink RX7 44 "DishPointerModel" "turns" "Z", Cond.fieldLink RX7 51 "DishPointerModel" "turn" "I", Cond.methodLink RX7 54 yX7_in, Cond.static yX7_in, Cond.initialized RX7, Cond.code yX7_in cX7_in 3 (some .boolean), Cond.methodLink RX7 77 yX7_isPossible, Cond.instanceMethod yX7_isPossible, Cond.selects RX7 yX7_isPossible yX7_isPossible, Cond.code yX7_isPossible cX7_isPossible 3 (some .boolean), Cond.methodLink RX7 58 yX7_finds, Cond.instanceMethod yX7_finds, Cond.selects RX7 yX7_finds yX7_finds, Cond.code yX7_finds cX7_finds 7 none, Cond.fieldLink RX7 7 "DishPointerModel" "s" "[I", Cond.methodLink RX7 40 yX7_stands, Cond.instanceMethod yX7_stands, Cond.selects RX7 yX7_stands yX7_stands, Cond.code yX7_stands cX7_stands 2 (some .int), Cond.methodLink RX7 36 yX7_ofAxis, Cond.instanceMethod yX7_ofAxis]
def wsX7_way_r2 : List Cond := [Cond.selects RX7 yX7_ofAxis yX7_ofAxis, Cond.code yX7_ofAxis cX7_ofAxis 3 (some .int), Cond.methodLink RX7 62 yX7_isInRange, Cond.instanceMethod yX7_isInRange, Cond.selects RX7 yX7_isInRange yX7_isInRange, Cond.code yX7_isInRange cX7_isInRange 3 (some .boolean), Cond.methodLink RX7 69 yX7_lengthOf, Cond.instanceMethod yX7_lengthOf, Cond.selects RX7 yX7_lengthOf yX7_lengthOf, Cond.code yX7_lengthOf cX7_lengthOf 4 (some .int), Cond.methodLink RX7 66 yX7_apart, Cond.static yX7_apart, Cond.code yX7_apart cX7_apart 2 (some .int), Cond.methodLink RX7 87 yX7_timeOf, Cond.instanceMethod yX7_timeOf, Cond.selects RX7 yX7_timeOf yX7_timeOf, Cond.code yX7_timeOf cX7_timeOf 4 (some .int)]
def wsX7_way : List Cond := .code yX7_way cX7_way 4 (some .int) :: ((wsX7_way_r1 ++ wsX7_way_r2) ++ wsX70)
def wsX7_placeFor_r1 : List Cond := [Cond.constant RX7 122 (35999), Cond.constant RX7 96 (-100001), Cond.methodLink RX7 54 yX7_in, Cond.static yX7_in, Cond.initialized RX7, Cond.code yX7_in cX7_in 3 (some .boolean), Cond.methodLink RX7 123 yX7_placeOf, Cond.instanceMethod yX7_placeOf, Cond.selects RX7 yX7_placeOf yX7_placeOf, Cond.code yX7_placeOf cX7_placeOf 5 (some .int), Cond.constant RX7 76 (36000), Cond.constant RX7 80 (-100004), Cond.methodLink RX7 77 yX7_isPossible, Cond.instanceMethod yX7_isPossible, Cond.selects RX7 yX7_isPossible yX7_isPossible, Cond.code yX7_isPossible cX7_isPossible 3 (some .boolean), Cond.fieldLink RX7 48 "DishPointerModel" "end" "I", Cond.fieldLink RX7 44 "DishPointerModel" "turns" "Z", Cond.fieldLink RX7 51 "DishPointerModel" "turn" "I", Cond.methodLink RX7 58 yX7_finds, Cond.instanceMethod yX7_finds, Cond.selects RX7 yX7_finds yX7_finds, Cond.code yX7_finds cX7_finds 7 none, Cond.fieldLink RX7 7 "DishPointerModel" "s" "[I"]
def wsX7_placeFor_r2 : List Cond := [Cond.methodLink RX7 40 yX7_stands, Cond.instanceMethod yX7_stands, Cond.selects RX7 yX7_stands yX7_stands, Cond.code yX7_stands cX7_stands 2 (some .int), Cond.methodLink RX7 36 yX7_ofAxis, Cond.instanceMethod yX7_ofAxis, Cond.selects RX7 yX7_ofAxis yX7_ofAxis, Cond.code yX7_ofAxis cX7_ofAxis 3 (some .int), Cond.methodLink RX7 62 yX7_isInRange, Cond.instanceMethod yX7_isInRange, Cond.selects RX7 yX7_isInRange yX7_isInRange, Cond.code yX7_isInRange cX7_isInRange 3 (some .boolean), Cond.methodLink RX7 81 yX7_isBetter, Cond.instanceMethod yX7_isBetter, Cond.selects RX7 yX7_isBetter yX7_isBetter, Cond.code yX7_isBetter cX7_isBetter 7 (some .boolean), Cond.methodLink RX7 72 yX7_isCalm, Cond.instanceMethod yX7_isCalm, Cond.selects RX7 yX7_isCalm yX7_isCalm, Cond.code yX7_isCalm cX7_isCalm 2 (some .boolean), Cond.methodLink RX7 69 yX7_lengthOf, Cond.instanceMethod yX7_lengthOf, Cond.selects RX7 yX7_lengthOf yX7_lengthOf, Cond.code yX7_lengthOf cX7_lengthOf 4 (some .int)]
def wsX7_placeFor_r3 : List Cond := [Cond.methodLink RX7 66 yX7_apart, Cond.static yX7_apart, Cond.code yX7_apart cX7_apart 2 (some .int)]
def wsX7_placeFor : List Cond := .code yX7_placeFor cX7_placeFor 2 (some .int) :: ((wsX7_placeFor_r1 ++ (wsX7_placeFor_r2 ++ wsX7_placeFor_r3)) ++ wsX70)
def wsX7_slew_r1 : List Cond := [Cond.constant RX7 122 (35999), Cond.constant RX7 96 (-100001), Cond.constant RX7 80 (-100004), Cond.constant RX7 103 (-100002), Cond.methodLink RX7 54 yX7_in, Cond.static yX7_in, Cond.initialized RX7, Cond.code yX7_in cX7_in 3 (some .boolean), Cond.methodLink RX7 107 yX7_underWay, Cond.instanceMethod yX7_underWay, Cond.selects RX7 yX7_underWay yX7_underWay, Cond.code yX7_underWay cX7_underWay 2 (some .int), Cond.fieldLink RX7 7 "DishPointerModel" "s" "[I", Cond.methodLink RX7 104 yX7_of, Cond.instanceMethod yX7_of, Cond.selects RX7 yX7_of yX7_of, Cond.code yX7_of cX7_of 3 (some .int), Cond.methodLink RX7 110 yX7_kindOfDay, Cond.instanceMethod yX7_kindOfDay, Cond.selects RX7 yX7_kindOfDay yX7_kindOfDay, Cond.code yX7_kindOfDay cX7_kindOfDay 1 (some .int), Cond.methodLink RX7 33 yX7_gustNow, Cond.instanceMethod yX7_gustNow, Cond.selects RX7 yX7_gustNow yX7_gustNow]
def wsX7_slew_r2 : List Cond := [Cond.code yX7_gustNow cX7_gustNow 1 (some .int), Cond.methodLink RX7 29 yX7_day, Cond.instanceMethod yX7_day, Cond.selects RX7 yX7_day yX7_day, Cond.code yX7_day cX7_day 1 (some .int), Cond.methodLink RX7 77 yX7_isPossible, Cond.instanceMethod yX7_isPossible, Cond.selects RX7 yX7_isPossible yX7_isPossible, Cond.code yX7_isPossible cX7_isPossible 3 (some .boolean), Cond.fieldLink RX7 48 "DishPointerModel" "end" "I", Cond.fieldLink RX7 44 "DishPointerModel" "turns" "Z", Cond.fieldLink RX7 51 "DishPointerModel" "turn" "I", Cond.methodLink RX7 58 yX7_finds, Cond.instanceMethod yX7_finds, Cond.selects RX7 yX7_finds yX7_finds, Cond.code yX7_finds cX7_finds 7 none, Cond.methodLink RX7 40 yX7_stands, Cond.instanceMethod yX7_stands, Cond.selects RX7 yX7_stands yX7_stands, Cond.code yX7_stands cX7_stands 2 (some .int), Cond.methodLink RX7 36 yX7_ofAxis, Cond.instanceMethod yX7_ofAxis, Cond.selects RX7 yX7_ofAxis yX7_ofAxis, Cond.code yX7_ofAxis cX7_ofAxis 3 (some .int)]
def wsX7_slew_r3 : List Cond := [Cond.methodLink RX7 62 yX7_isInRange, Cond.instanceMethod yX7_isInRange, Cond.selects RX7 yX7_isInRange yX7_isInRange, Cond.code yX7_isInRange cX7_isInRange 3 (some .boolean), Cond.methodLink RX7 123 yX7_placeOf, Cond.instanceMethod yX7_placeOf, Cond.selects RX7 yX7_placeOf yX7_placeOf, Cond.code yX7_placeOf cX7_placeOf 5 (some .int), Cond.constant RX7 76 (36000), Cond.methodLink RX7 81 yX7_isBetter, Cond.instanceMethod yX7_isBetter, Cond.selects RX7 yX7_isBetter yX7_isBetter, Cond.code yX7_isBetter cX7_isBetter 7 (some .boolean), Cond.methodLink RX7 72 yX7_isCalm, Cond.instanceMethod yX7_isCalm, Cond.selects RX7 yX7_isCalm yX7_isCalm, Cond.code yX7_isCalm cX7_isCalm 2 (some .boolean), Cond.methodLink RX7 69 yX7_lengthOf, Cond.instanceMethod yX7_lengthOf, Cond.selects RX7 yX7_lengthOf yX7_lengthOf, Cond.code yX7_lengthOf cX7_lengthOf 4 (some .int), Cond.methodLink RX7 66 yX7_apart, Cond.static yX7_apart, Cond.code yX7_apart cX7_apart 2 (some .int)]
def wsX7_slew_r4 : List Cond := [Cond.methodLink RX7 97 yX7_records, Cond.instanceMethod yX7_records, Cond.selects RX7 yX7_records yX7_records, Cond.code yX7_records cX7_records 2 none, Cond.fieldLink RX7 25 "DishPointerModel" "states" "I", Cond.fieldLink RX7 13 "DishPointerModel" "was" "[I", Cond.methodLink RX7 126 yX7_slews, Cond.instanceMethod yX7_slews, Cond.selects RX7 yX7_slews yX7_slews, Cond.code yX7_slews cX7_slews 5 (some .int), Cond.methodLink RX7 87 yX7_timeOf, Cond.instanceMethod yX7_timeOf, Cond.selects RX7 yX7_timeOf yX7_timeOf, Cond.code yX7_timeOf cX7_timeOf 4 (some .int), Cond.methodLink RX7 90 yX7_leads, Cond.instanceMethod yX7_leads, Cond.selects RX7 yX7_leads yX7_leads, Cond.code yX7_leads cX7_leads 4 none, Cond.methodLink RX7 84 yX7_goes, Cond.instanceMethod yX7_goes, Cond.selects RX7 yX7_goes yX7_goes, Cond.code yX7_goes cX7_goes 6 none]
def wsX7_slew : List Cond := .code yX7_slew cX7_slew 3 (some .int) :: ((wsX7_slew_r1 ++ (wsX7_slew_r2 ++ (wsX7_slew_r3 ++ wsX7_slew_r4))) ++ wsX70)
def wsX7_isWound : List Cond := .code yX7_isWound cX7_isWound 1 (some .int) :: ([.methodLink RX7 36 yX7_ofAxis, .instanceMethod yX7_ofAxis, .selects RX7 yX7_ofAxis yX7_ofAxis, .initialized RX7, .code yX7_ofAxis cX7_ofAxis 3 (some .int), .fieldLink RX7 7 "DishPointerModel" "s" "[I", .methodLink RX7 72 yX7_isCalm, .instanceMethod yX7_isCalm, .selects RX7 yX7_isCalm yX7_isCalm, .code yX7_isCalm cX7_isCalm 2 (some .boolean), .methodLink RX7 54 yX7_in, .static yX7_in, .code yX7_in cX7_in 3 (some .boolean)] ++ wsX70)
def wsX7_isWindow : List Cond := .code yX7_isWindow cX7_isWindow 2 (some .boolean) :: ([.constant RX7 129 (43200), .methodLink RX7 54 yX7_in, .static yX7_in, .initialized RX7, .code yX7_in cX7_in 3 (some .boolean)])
def wsX7_isGood : List Cond := .code yX7_isGood cX7_isGood 6 (some .boolean) :: ([.constant RX7 122 (35999), .methodLink RX7 54 yX7_in, .static yX7_in, .initialized RX7, .code yX7_in cX7_in 3 (some .boolean), .methodLink RX7 130 yX7_isWindow, .static yX7_isWindow, .code yX7_isWindow cX7_isWindow 2 (some .boolean), .constant RX7 129 (43200)])
def wsX7_adds : List Cond := .code yX7_adds cX7_adds 9 none :: ([.fieldLink RX7 7 "DishPointerModel" "s" "[I", .methodLink RX7 133 yX7_puts, .instanceMethod yX7_puts, .selects RX7 yX7_puts yX7_puts, .initialized RX7, .code yX7_puts cX7_puts 4 none] ++ wsX70)
def wsX7_add_r1 : List Cond := [Cond.constant RX7 96 (-100001), Cond.fieldLink RX7 7 "DishPointerModel" "s" "[I", Cond.constant RX7 141 (-100003), Cond.methodLink RX7 137 yX7_isGood, Cond.static yX7_isGood, Cond.initialized RX7, Cond.code yX7_isGood cX7_isGood 6 (some .boolean), Cond.constant RX7 122 (35999), Cond.methodLink RX7 54 yX7_in, Cond.static yX7_in, Cond.code yX7_in cX7_in 3 (some .boolean), Cond.methodLink RX7 130 yX7_isWindow, Cond.static yX7_isWindow, Cond.code yX7_isWindow cX7_isWindow 2 (some .boolean), Cond.constant RX7 129 (43200), Cond.methodLink RX7 97 yX7_records, Cond.instanceMethod yX7_records, Cond.selects RX7 yX7_records yX7_records, Cond.code yX7_records cX7_records 2 none, Cond.fieldLink RX7 25 "DishPointerModel" "states" "I", Cond.fieldLink RX7 13 "DishPointerModel" "was" "[I", Cond.methodLink RX7 142 yX7_adds, Cond.instanceMethod yX7_adds, Cond.selects RX7 yX7_adds yX7_adds]
def wsX7_add_r2 : List Cond := [Cond.code yX7_adds cX7_adds 9 none, Cond.methodLink RX7 133 yX7_puts, Cond.instanceMethod yX7_puts, Cond.selects RX7 yX7_puts yX7_puts, Cond.code yX7_puts cX7_puts 4 none]
def wsX7_add : List Cond := .code yX7_add cX7_add 7 (some .int) :: ((wsX7_add_r1 ++ wsX7_add_r2) ++ wsX70)
def wsX7_drop : List Cond := .code yX7_drop cX7_drop 3 (some .int) :: ([.constant RX7 96 (-100001), .constant RX7 103 (-100002), .fieldLink RX7 7 "DishPointerModel" "s" "[I", .methodLink RX7 146 yX7_isTarget, .instanceMethod yX7_isTarget, .selects RX7 yX7_isTarget yX7_isTarget, .initialized RX7, .code yX7_isTarget cX7_isTarget 2 (some .boolean), .methodLink RX7 104 yX7_of, .instanceMethod yX7_of, .selects RX7 yX7_of yX7_of, .code yX7_of cX7_of 3 (some .int), .methodLink RX7 97 yX7_records, .instanceMethod yX7_records, .selects RX7 yX7_records yX7_records, .code yX7_records cX7_records 2 none, .fieldLink RX7 25 "DishPointerModel" "states" "I", .fieldLink RX7 13 "DishPointerModel" "was" "[I"] ++ wsX70)
def wsX7_target : List Cond := .code yX7_target cX7_target 5 (some .int) :: ([.constant RX7 96 (-100001), .constant RX7 80 (-100004), .methodLink RX7 146 yX7_isTarget, .instanceMethod yX7_isTarget, .selects RX7 yX7_isTarget yX7_isTarget, .initialized RX7, .code yX7_isTarget cX7_isTarget 2 (some .boolean), .fieldLink RX7 7 "DishPointerModel" "s" "[I", .methodLink RX7 54 yX7_in, .static yX7_in, .code yX7_in cX7_in 3 (some .boolean), .methodLink RX7 104 yX7_of, .instanceMethod yX7_of, .selects RX7 yX7_of yX7_of, .code yX7_of cX7_of 3 (some .int)] ++ wsX70)
def wsX7_whyNot_r1 : List Cond := [Cond.constant RX7 80 (-100004), Cond.fieldLink RX7 7 "DishPointerModel" "s" "[I", Cond.methodLink RX7 104 yX7_of, Cond.instanceMethod yX7_of, Cond.selects RX7 yX7_of yX7_of, Cond.initialized RX7, Cond.code yX7_of cX7_of 3 (some .int), Cond.methodLink RX7 107 yX7_underWay, Cond.instanceMethod yX7_underWay, Cond.selects RX7 yX7_underWay yX7_underWay, Cond.code yX7_underWay cX7_underWay 2 (some .int), Cond.methodLink RX7 110 yX7_kindOfDay, Cond.instanceMethod yX7_kindOfDay, Cond.selects RX7 yX7_kindOfDay yX7_kindOfDay, Cond.code yX7_kindOfDay cX7_kindOfDay 1 (some .int), Cond.methodLink RX7 33 yX7_gustNow, Cond.instanceMethod yX7_gustNow, Cond.selects RX7 yX7_gustNow yX7_gustNow, Cond.code yX7_gustNow cX7_gustNow 1 (some .int), Cond.methodLink RX7 29 yX7_day, Cond.instanceMethod yX7_day, Cond.selects RX7 yX7_day yX7_day, Cond.code yX7_day cX7_day 1 (some .int), Cond.methodLink RX7 77 yX7_isPossible]
def wsX7_whyNot_r2 : List Cond := [Cond.instanceMethod yX7_isPossible, Cond.selects RX7 yX7_isPossible yX7_isPossible, Cond.code yX7_isPossible cX7_isPossible 3 (some .boolean), Cond.fieldLink RX7 48 "DishPointerModel" "end" "I", Cond.fieldLink RX7 44 "DishPointerModel" "turns" "Z", Cond.fieldLink RX7 51 "DishPointerModel" "turn" "I", Cond.methodLink RX7 58 yX7_finds, Cond.instanceMethod yX7_finds, Cond.selects RX7 yX7_finds yX7_finds, Cond.code yX7_finds cX7_finds 7 none, Cond.methodLink RX7 40 yX7_stands, Cond.instanceMethod yX7_stands, Cond.selects RX7 yX7_stands yX7_stands, Cond.code yX7_stands cX7_stands 2 (some .int), Cond.methodLink RX7 36 yX7_ofAxis, Cond.instanceMethod yX7_ofAxis, Cond.selects RX7 yX7_ofAxis yX7_ofAxis, Cond.code yX7_ofAxis cX7_ofAxis 3 (some .int), Cond.methodLink RX7 62 yX7_isInRange, Cond.instanceMethod yX7_isInRange, Cond.selects RX7 yX7_isInRange yX7_isInRange, Cond.code yX7_isInRange cX7_isInRange 3 (some .boolean), Cond.methodLink RX7 54 yX7_in, Cond.static yX7_in]
def wsX7_whyNot_r3 : List Cond := [Cond.code yX7_in cX7_in 3 (some .boolean), Cond.methodLink RX7 123 yX7_placeOf, Cond.instanceMethod yX7_placeOf, Cond.selects RX7 yX7_placeOf yX7_placeOf, Cond.code yX7_placeOf cX7_placeOf 5 (some .int), Cond.constant RX7 76 (36000), Cond.methodLink RX7 81 yX7_isBetter, Cond.instanceMethod yX7_isBetter, Cond.selects RX7 yX7_isBetter yX7_isBetter, Cond.code yX7_isBetter cX7_isBetter 7 (some .boolean), Cond.methodLink RX7 72 yX7_isCalm, Cond.instanceMethod yX7_isCalm, Cond.selects RX7 yX7_isCalm yX7_isCalm, Cond.code yX7_isCalm cX7_isCalm 2 (some .boolean), Cond.methodLink RX7 69 yX7_lengthOf, Cond.instanceMethod yX7_lengthOf, Cond.selects RX7 yX7_lengthOf yX7_lengthOf, Cond.code yX7_lengthOf cX7_lengthOf 4 (some .int), Cond.methodLink RX7 66 yX7_apart, Cond.static yX7_apart, Cond.code yX7_apart cX7_apart 2 (some .int), Cond.methodLink RX7 87 yX7_timeOf, Cond.instanceMethod yX7_timeOf, Cond.selects RX7 yX7_timeOf yX7_timeOf]
def wsX7_whyNot_r4 : List Cond := [Cond.code yX7_timeOf cX7_timeOf 4 (some .int)]
def wsX7_whyNot : List Cond := .code yX7_whyNot cX7_whyNot 5 (some .int) :: ((wsX7_whyNot_r1 ++ (wsX7_whyNot_r2 ++ (wsX7_whyNot_r3 ++ wsX7_whyNot_r4))) ++ wsX70)
def wsX7_why_r1 : List Cond := [Cond.constant RX7 96 (-100001), Cond.methodLink RX7 146 yX7_isTarget, Cond.instanceMethod yX7_isTarget, Cond.selects RX7 yX7_isTarget yX7_isTarget, Cond.initialized RX7, Cond.code yX7_isTarget cX7_isTarget 2 (some .boolean), Cond.fieldLink RX7 7 "DishPointerModel" "s" "[I", Cond.methodLink RX7 149 yX7_whyNot, Cond.instanceMethod yX7_whyNot, Cond.selects RX7 yX7_whyNot yX7_whyNot, Cond.code yX7_whyNot cX7_whyNot 5 (some .int), Cond.constant RX7 80 (-100004), Cond.methodLink RX7 104 yX7_of, Cond.instanceMethod yX7_of, Cond.selects RX7 yX7_of yX7_of, Cond.code yX7_of cX7_of 3 (some .int), Cond.methodLink RX7 107 yX7_underWay, Cond.instanceMethod yX7_underWay, Cond.selects RX7 yX7_underWay yX7_underWay, Cond.code yX7_underWay cX7_underWay 2 (some .int), Cond.methodLink RX7 110 yX7_kindOfDay, Cond.instanceMethod yX7_kindOfDay, Cond.selects RX7 yX7_kindOfDay yX7_kindOfDay, Cond.code yX7_kindOfDay cX7_kindOfDay 1 (some .int)]
def wsX7_why_r2 : List Cond := [Cond.methodLink RX7 33 yX7_gustNow, Cond.instanceMethod yX7_gustNow, Cond.selects RX7 yX7_gustNow yX7_gustNow, Cond.code yX7_gustNow cX7_gustNow 1 (some .int), Cond.methodLink RX7 29 yX7_day, Cond.instanceMethod yX7_day, Cond.selects RX7 yX7_day yX7_day, Cond.code yX7_day cX7_day 1 (some .int), Cond.methodLink RX7 77 yX7_isPossible, Cond.instanceMethod yX7_isPossible, Cond.selects RX7 yX7_isPossible yX7_isPossible, Cond.code yX7_isPossible cX7_isPossible 3 (some .boolean), Cond.fieldLink RX7 48 "DishPointerModel" "end" "I", Cond.fieldLink RX7 44 "DishPointerModel" "turns" "Z", Cond.fieldLink RX7 51 "DishPointerModel" "turn" "I", Cond.methodLink RX7 58 yX7_finds, Cond.instanceMethod yX7_finds, Cond.selects RX7 yX7_finds yX7_finds, Cond.code yX7_finds cX7_finds 7 none, Cond.methodLink RX7 40 yX7_stands, Cond.instanceMethod yX7_stands, Cond.selects RX7 yX7_stands yX7_stands, Cond.code yX7_stands cX7_stands 2 (some .int), Cond.methodLink RX7 36 yX7_ofAxis]
def wsX7_why_r3 : List Cond := [Cond.instanceMethod yX7_ofAxis, Cond.selects RX7 yX7_ofAxis yX7_ofAxis, Cond.code yX7_ofAxis cX7_ofAxis 3 (some .int), Cond.methodLink RX7 62 yX7_isInRange, Cond.instanceMethod yX7_isInRange, Cond.selects RX7 yX7_isInRange yX7_isInRange, Cond.code yX7_isInRange cX7_isInRange 3 (some .boolean), Cond.methodLink RX7 54 yX7_in, Cond.static yX7_in, Cond.code yX7_in cX7_in 3 (some .boolean), Cond.methodLink RX7 123 yX7_placeOf, Cond.instanceMethod yX7_placeOf, Cond.selects RX7 yX7_placeOf yX7_placeOf, Cond.code yX7_placeOf cX7_placeOf 5 (some .int), Cond.constant RX7 76 (36000), Cond.methodLink RX7 81 yX7_isBetter, Cond.instanceMethod yX7_isBetter, Cond.selects RX7 yX7_isBetter yX7_isBetter, Cond.code yX7_isBetter cX7_isBetter 7 (some .boolean), Cond.methodLink RX7 72 yX7_isCalm, Cond.instanceMethod yX7_isCalm, Cond.selects RX7 yX7_isCalm yX7_isCalm, Cond.code yX7_isCalm cX7_isCalm 2 (some .boolean), Cond.methodLink RX7 69 yX7_lengthOf]
def wsX7_why_r4 : List Cond := [Cond.instanceMethod yX7_lengthOf, Cond.selects RX7 yX7_lengthOf yX7_lengthOf, Cond.code yX7_lengthOf cX7_lengthOf 4 (some .int), Cond.methodLink RX7 66 yX7_apart, Cond.static yX7_apart, Cond.code yX7_apart cX7_apart 2 (some .int), Cond.methodLink RX7 87 yX7_timeOf, Cond.instanceMethod yX7_timeOf, Cond.selects RX7 yX7_timeOf yX7_timeOf, Cond.code yX7_timeOf cX7_timeOf 4 (some .int)]
def wsX7_why : List Cond := .code yX7_why cX7_why 2 (some .int) :: ((wsX7_why_r1 ++ (wsX7_why_r2 ++ (wsX7_why_r3 ++ wsX7_why_r4))) ++ wsX70)
def wsX7_comesFirst : List Cond := .code yX7_comesFirst cX7_comesFirst 3 (some .boolean) :: ([.methodLink RX7 104 yX7_of, .instanceMethod yX7_of, .selects RX7 yX7_of yX7_of, .initialized RX7, .code yX7_of cX7_of 3 (some .int), .fieldLink RX7 7 "DishPointerModel" "s" "[I"] ++ wsX70)
def wsX7_nextOne_r1 : List Cond := [Cond.constant RX7 80 (-100004), Cond.fieldLink RX7 7 "DishPointerModel" "s" "[I", Cond.methodLink RX7 149 yX7_whyNot, Cond.instanceMethod yX7_whyNot, Cond.selects RX7 yX7_whyNot yX7_whyNot, Cond.initialized RX7, Cond.code yX7_whyNot cX7_whyNot 5 (some .int), Cond.methodLink RX7 104 yX7_of, Cond.instanceMethod yX7_of, Cond.selects RX7 yX7_of yX7_of, Cond.code yX7_of cX7_of 3 (some .int), Cond.methodLink RX7 107 yX7_underWay, Cond.instanceMethod yX7_underWay, Cond.selects RX7 yX7_underWay yX7_underWay, Cond.code yX7_underWay cX7_underWay 2 (some .int), Cond.methodLink RX7 110 yX7_kindOfDay, Cond.instanceMethod yX7_kindOfDay, Cond.selects RX7 yX7_kindOfDay yX7_kindOfDay, Cond.code yX7_kindOfDay cX7_kindOfDay 1 (some .int), Cond.methodLink RX7 33 yX7_gustNow, Cond.instanceMethod yX7_gustNow, Cond.selects RX7 yX7_gustNow yX7_gustNow, Cond.code yX7_gustNow cX7_gustNow 1 (some .int), Cond.methodLink RX7 29 yX7_day]
def wsX7_nextOne_r2 : List Cond := [Cond.instanceMethod yX7_day, Cond.selects RX7 yX7_day yX7_day, Cond.code yX7_day cX7_day 1 (some .int), Cond.methodLink RX7 77 yX7_isPossible, Cond.instanceMethod yX7_isPossible, Cond.selects RX7 yX7_isPossible yX7_isPossible, Cond.code yX7_isPossible cX7_isPossible 3 (some .boolean), Cond.fieldLink RX7 48 "DishPointerModel" "end" "I", Cond.fieldLink RX7 44 "DishPointerModel" "turns" "Z", Cond.fieldLink RX7 51 "DishPointerModel" "turn" "I", Cond.methodLink RX7 58 yX7_finds, Cond.instanceMethod yX7_finds, Cond.selects RX7 yX7_finds yX7_finds, Cond.code yX7_finds cX7_finds 7 none, Cond.methodLink RX7 40 yX7_stands, Cond.instanceMethod yX7_stands, Cond.selects RX7 yX7_stands yX7_stands, Cond.code yX7_stands cX7_stands 2 (some .int), Cond.methodLink RX7 36 yX7_ofAxis, Cond.instanceMethod yX7_ofAxis, Cond.selects RX7 yX7_ofAxis yX7_ofAxis, Cond.code yX7_ofAxis cX7_ofAxis 3 (some .int), Cond.methodLink RX7 62 yX7_isInRange, Cond.instanceMethod yX7_isInRange]
def wsX7_nextOne_r3 : List Cond := [Cond.selects RX7 yX7_isInRange yX7_isInRange, Cond.code yX7_isInRange cX7_isInRange 3 (some .boolean), Cond.methodLink RX7 54 yX7_in, Cond.static yX7_in, Cond.code yX7_in cX7_in 3 (some .boolean), Cond.methodLink RX7 123 yX7_placeOf, Cond.instanceMethod yX7_placeOf, Cond.selects RX7 yX7_placeOf yX7_placeOf, Cond.code yX7_placeOf cX7_placeOf 5 (some .int), Cond.constant RX7 76 (36000), Cond.methodLink RX7 81 yX7_isBetter, Cond.instanceMethod yX7_isBetter, Cond.selects RX7 yX7_isBetter yX7_isBetter, Cond.code yX7_isBetter cX7_isBetter 7 (some .boolean), Cond.methodLink RX7 72 yX7_isCalm, Cond.instanceMethod yX7_isCalm, Cond.selects RX7 yX7_isCalm yX7_isCalm, Cond.code yX7_isCalm cX7_isCalm 2 (some .boolean), Cond.methodLink RX7 69 yX7_lengthOf, Cond.instanceMethod yX7_lengthOf, Cond.selects RX7 yX7_lengthOf yX7_lengthOf, Cond.code yX7_lengthOf cX7_lengthOf 4 (some .int), Cond.methodLink RX7 66 yX7_apart, Cond.static yX7_apart]
def wsX7_nextOne_r4 : List Cond := [Cond.code yX7_apart cX7_apart 2 (some .int), Cond.methodLink RX7 87 yX7_timeOf, Cond.instanceMethod yX7_timeOf, Cond.selects RX7 yX7_timeOf yX7_timeOf, Cond.code yX7_timeOf cX7_timeOf 4 (some .int), Cond.methodLink RX7 152 yX7_comesFirst, Cond.instanceMethod yX7_comesFirst, Cond.selects RX7 yX7_comesFirst yX7_comesFirst, Cond.code yX7_comesFirst cX7_comesFirst 3 (some .boolean)]
def wsX7_nextOne : List Cond := .code yX7_nextOne cX7_nextOne 3 (some .int) :: ((wsX7_nextOne_r1 ++ (wsX7_nextOne_r2 ++ (wsX7_nextOne_r3 ++ wsX7_nextOne_r4))) ++ wsX70)
def wsX7_next_r1 : List Cond := [Cond.methodLink RX7 155 yX7_nextOne, Cond.instanceMethod yX7_nextOne, Cond.selects RX7 yX7_nextOne yX7_nextOne, Cond.initialized RX7, Cond.code yX7_nextOne cX7_nextOne 3 (some .int), Cond.constant RX7 80 (-100004), Cond.fieldLink RX7 7 "DishPointerModel" "s" "[I", Cond.methodLink RX7 149 yX7_whyNot, Cond.instanceMethod yX7_whyNot, Cond.selects RX7 yX7_whyNot yX7_whyNot, Cond.code yX7_whyNot cX7_whyNot 5 (some .int), Cond.methodLink RX7 104 yX7_of, Cond.instanceMethod yX7_of, Cond.selects RX7 yX7_of yX7_of, Cond.code yX7_of cX7_of 3 (some .int), Cond.methodLink RX7 107 yX7_underWay, Cond.instanceMethod yX7_underWay, Cond.selects RX7 yX7_underWay yX7_underWay, Cond.code yX7_underWay cX7_underWay 2 (some .int), Cond.methodLink RX7 110 yX7_kindOfDay, Cond.instanceMethod yX7_kindOfDay, Cond.selects RX7 yX7_kindOfDay yX7_kindOfDay, Cond.code yX7_kindOfDay cX7_kindOfDay 1 (some .int), Cond.methodLink RX7 33 yX7_gustNow]
def wsX7_next_r2 : List Cond := [Cond.instanceMethod yX7_gustNow, Cond.selects RX7 yX7_gustNow yX7_gustNow, Cond.code yX7_gustNow cX7_gustNow 1 (some .int), Cond.methodLink RX7 29 yX7_day, Cond.instanceMethod yX7_day, Cond.selects RX7 yX7_day yX7_day, Cond.code yX7_day cX7_day 1 (some .int), Cond.methodLink RX7 77 yX7_isPossible, Cond.instanceMethod yX7_isPossible, Cond.selects RX7 yX7_isPossible yX7_isPossible, Cond.code yX7_isPossible cX7_isPossible 3 (some .boolean), Cond.fieldLink RX7 48 "DishPointerModel" "end" "I", Cond.fieldLink RX7 44 "DishPointerModel" "turns" "Z", Cond.fieldLink RX7 51 "DishPointerModel" "turn" "I", Cond.methodLink RX7 58 yX7_finds, Cond.instanceMethod yX7_finds, Cond.selects RX7 yX7_finds yX7_finds, Cond.code yX7_finds cX7_finds 7 none, Cond.methodLink RX7 40 yX7_stands, Cond.instanceMethod yX7_stands, Cond.selects RX7 yX7_stands yX7_stands, Cond.code yX7_stands cX7_stands 2 (some .int), Cond.methodLink RX7 36 yX7_ofAxis, Cond.instanceMethod yX7_ofAxis]
def wsX7_next_r3 : List Cond := [Cond.selects RX7 yX7_ofAxis yX7_ofAxis, Cond.code yX7_ofAxis cX7_ofAxis 3 (some .int), Cond.methodLink RX7 62 yX7_isInRange, Cond.instanceMethod yX7_isInRange, Cond.selects RX7 yX7_isInRange yX7_isInRange, Cond.code yX7_isInRange cX7_isInRange 3 (some .boolean), Cond.methodLink RX7 54 yX7_in, Cond.static yX7_in, Cond.code yX7_in cX7_in 3 (some .boolean), Cond.methodLink RX7 123 yX7_placeOf, Cond.instanceMethod yX7_placeOf, Cond.selects RX7 yX7_placeOf yX7_placeOf, Cond.code yX7_placeOf cX7_placeOf 5 (some .int), Cond.constant RX7 76 (36000), Cond.methodLink RX7 81 yX7_isBetter, Cond.instanceMethod yX7_isBetter, Cond.selects RX7 yX7_isBetter yX7_isBetter, Cond.code yX7_isBetter cX7_isBetter 7 (some .boolean), Cond.methodLink RX7 72 yX7_isCalm, Cond.instanceMethod yX7_isCalm, Cond.selects RX7 yX7_isCalm yX7_isCalm, Cond.code yX7_isCalm cX7_isCalm 2 (some .boolean), Cond.methodLink RX7 69 yX7_lengthOf, Cond.instanceMethod yX7_lengthOf]
def wsX7_next_r4 : List Cond := [Cond.selects RX7 yX7_lengthOf yX7_lengthOf, Cond.code yX7_lengthOf cX7_lengthOf 4 (some .int), Cond.methodLink RX7 66 yX7_apart, Cond.static yX7_apart, Cond.code yX7_apart cX7_apart 2 (some .int), Cond.methodLink RX7 87 yX7_timeOf, Cond.instanceMethod yX7_timeOf, Cond.selects RX7 yX7_timeOf yX7_timeOf, Cond.code yX7_timeOf cX7_timeOf 4 (some .int), Cond.methodLink RX7 152 yX7_comesFirst, Cond.instanceMethod yX7_comesFirst, Cond.selects RX7 yX7_comesFirst yX7_comesFirst, Cond.code yX7_comesFirst cX7_comesFirst 3 (some .boolean)]
def wsX7_next : List Cond := .code yX7_next cX7_next 1 (some .int) :: ((wsX7_next_r1 ++ (wsX7_next_r2 ++ (wsX7_next_r3 ++ wsX7_next_r4))) ++ wsX70)
def wsX7_pushes : List Cond := .code yX7_pushes cX7_pushes 3 none :: ([.fieldLink RX7 7 "DishPointerModel" "s" "[I", .methodLink RX7 104 yX7_of, .instanceMethod yX7_of, .selects RX7 yX7_of yX7_of, .initialized RX7, .code yX7_of cX7_of 3 (some .int), .methodLink RX7 110 yX7_kindOfDay, .instanceMethod yX7_kindOfDay, .selects RX7 yX7_kindOfDay yX7_kindOfDay, .code yX7_kindOfDay cX7_kindOfDay 1 (some .int), .methodLink RX7 33 yX7_gustNow, .instanceMethod yX7_gustNow, .selects RX7 yX7_gustNow yX7_gustNow, .code yX7_gustNow cX7_gustNow 1 (some .int), .methodLink RX7 29 yX7_day, .instanceMethod yX7_day, .selects RX7 yX7_day yX7_day, .code yX7_day cX7_day 1 (some .int), .methodLink RX7 133 yX7_puts, .instanceMethod yX7_puts, .selects RX7 yX7_puts yX7_puts, .code yX7_puts cX7_puts 4 none] ++ wsX70)
def wsX7_begins_r1 : List Cond := [Cond.fieldLink RX7 7 "DishPointerModel" "s" "[I", Cond.methodLink RX7 104 yX7_of, Cond.instanceMethod yX7_of, Cond.selects RX7 yX7_of yX7_of, Cond.initialized RX7, Cond.code yX7_of cX7_of 3 (some .int), Cond.methodLink RX7 123 yX7_placeOf, Cond.instanceMethod yX7_placeOf, Cond.selects RX7 yX7_placeOf yX7_placeOf, Cond.code yX7_placeOf cX7_placeOf 5 (some .int), Cond.constant RX7 76 (36000), Cond.constant RX7 80 (-100004), Cond.methodLink RX7 77 yX7_isPossible, Cond.instanceMethod yX7_isPossible, Cond.selects RX7 yX7_isPossible yX7_isPossible, Cond.code yX7_isPossible cX7_isPossible 3 (some .boolean), Cond.fieldLink RX7 48 "DishPointerModel" "end" "I", Cond.fieldLink RX7 44 "DishPointerModel" "turns" "Z", Cond.fieldLink RX7 51 "DishPointerModel" "turn" "I", Cond.methodLink RX7 58 yX7_finds, Cond.instanceMethod yX7_finds, Cond.selects RX7 yX7_finds yX7_finds, Cond.code yX7_finds cX7_finds 7 none, Cond.methodLink RX7 40 yX7_stands]
def wsX7_begins_r2 : List Cond := [Cond.instanceMethod yX7_stands, Cond.selects RX7 yX7_stands yX7_stands, Cond.code yX7_stands cX7_stands 2 (some .int), Cond.methodLink RX7 36 yX7_ofAxis, Cond.instanceMethod yX7_ofAxis, Cond.selects RX7 yX7_ofAxis yX7_ofAxis, Cond.code yX7_ofAxis cX7_ofAxis 3 (some .int), Cond.methodLink RX7 62 yX7_isInRange, Cond.instanceMethod yX7_isInRange, Cond.selects RX7 yX7_isInRange yX7_isInRange, Cond.code yX7_isInRange cX7_isInRange 3 (some .boolean), Cond.methodLink RX7 54 yX7_in, Cond.static yX7_in, Cond.code yX7_in cX7_in 3 (some .boolean), Cond.methodLink RX7 81 yX7_isBetter, Cond.instanceMethod yX7_isBetter, Cond.selects RX7 yX7_isBetter yX7_isBetter, Cond.code yX7_isBetter cX7_isBetter 7 (some .boolean), Cond.methodLink RX7 72 yX7_isCalm, Cond.instanceMethod yX7_isCalm, Cond.selects RX7 yX7_isCalm yX7_isCalm, Cond.code yX7_isCalm cX7_isCalm 2 (some .boolean), Cond.methodLink RX7 69 yX7_lengthOf, Cond.instanceMethod yX7_lengthOf]
def wsX7_begins_r3 : List Cond := [Cond.selects RX7 yX7_lengthOf yX7_lengthOf, Cond.code yX7_lengthOf cX7_lengthOf 4 (some .int), Cond.methodLink RX7 66 yX7_apart, Cond.static yX7_apart, Cond.code yX7_apart cX7_apart 2 (some .int), Cond.methodLink RX7 126 yX7_slews, Cond.instanceMethod yX7_slews, Cond.selects RX7 yX7_slews yX7_slews, Cond.code yX7_slews cX7_slews 5 (some .int), Cond.methodLink RX7 87 yX7_timeOf, Cond.instanceMethod yX7_timeOf, Cond.selects RX7 yX7_timeOf yX7_timeOf, Cond.code yX7_timeOf cX7_timeOf 4 (some .int), Cond.methodLink RX7 90 yX7_leads, Cond.instanceMethod yX7_leads, Cond.selects RX7 yX7_leads yX7_leads, Cond.code yX7_leads cX7_leads 4 none, Cond.methodLink RX7 84 yX7_goes, Cond.instanceMethod yX7_goes, Cond.selects RX7 yX7_goes yX7_goes, Cond.code yX7_goes cX7_goes 6 none, Cond.methodLink RX7 133 yX7_puts, Cond.instanceMethod yX7_puts, Cond.selects RX7 yX7_puts yX7_puts]
def wsX7_begins_r4 : List Cond := [Cond.code yX7_puts cX7_puts 4 none, Cond.methodLink RX7 158 yX7_pushes, Cond.instanceMethod yX7_pushes, Cond.selects RX7 yX7_pushes yX7_pushes, Cond.code yX7_pushes cX7_pushes 3 none, Cond.methodLink RX7 110 yX7_kindOfDay, Cond.instanceMethod yX7_kindOfDay, Cond.selects RX7 yX7_kindOfDay yX7_kindOfDay, Cond.code yX7_kindOfDay cX7_kindOfDay 1 (some .int), Cond.methodLink RX7 33 yX7_gustNow, Cond.instanceMethod yX7_gustNow, Cond.selects RX7 yX7_gustNow yX7_gustNow, Cond.code yX7_gustNow cX7_gustNow 1 (some .int), Cond.methodLink RX7 29 yX7_day, Cond.instanceMethod yX7_day, Cond.selects RX7 yX7_day yX7_day, Cond.code yX7_day cX7_day 1 (some .int)]
def wsX7_begins : List Cond := .code yX7_begins cX7_begins 4 none :: ((wsX7_begins_r1 ++ (wsX7_begins_r2 ++ (wsX7_begins_r3 ++ wsX7_begins_r4))) ++ wsX70)
def wsX7_holds : List Cond := .code yX7_holds cX7_holds 2 none :: ([.constant RX7 80 (-100004), .fieldLink RX7 7 "DishPointerModel" "s" "[I", .methodLink RX7 107 yX7_underWay, .instanceMethod yX7_underWay, .selects RX7 yX7_underWay yX7_underWay, .initialized RX7, .code yX7_underWay cX7_underWay 2 (some .int), .methodLink RX7 104 yX7_of, .instanceMethod yX7_of, .selects RX7 yX7_of yX7_of, .code yX7_of cX7_of 3 (some .int), .methodLink RX7 133 yX7_puts, .instanceMethod yX7_puts, .selects RX7 yX7_puts yX7_puts, .code yX7_puts cX7_puts 4 none, .methodLink RX7 84 yX7_goes, .instanceMethod yX7_goes, .selects RX7 yX7_goes yX7_goes, .code yX7_goes cX7_goes 6 none] ++ wsX70)
def wsX7_minute_r1 : List Cond := [Cond.constant RX7 80 (-100004), Cond.fieldLink RX7 7 "DishPointerModel" "s" "[I", Cond.methodLink RX7 107 yX7_underWay, Cond.instanceMethod yX7_underWay, Cond.selects RX7 yX7_underWay yX7_underWay, Cond.initialized RX7, Cond.code yX7_underWay cX7_underWay 2 (some .int), Cond.methodLink RX7 104 yX7_of, Cond.instanceMethod yX7_of, Cond.selects RX7 yX7_of yX7_of, Cond.code yX7_of cX7_of 3 (some .int), Cond.methodLink RX7 158 yX7_pushes, Cond.instanceMethod yX7_pushes, Cond.selects RX7 yX7_pushes yX7_pushes, Cond.code yX7_pushes cX7_pushes 3 none, Cond.methodLink RX7 110 yX7_kindOfDay, Cond.instanceMethod yX7_kindOfDay, Cond.selects RX7 yX7_kindOfDay yX7_kindOfDay, Cond.code yX7_kindOfDay cX7_kindOfDay 1 (some .int), Cond.methodLink RX7 33 yX7_gustNow, Cond.instanceMethod yX7_gustNow, Cond.selects RX7 yX7_gustNow yX7_gustNow, Cond.code yX7_gustNow cX7_gustNow 1 (some .int), Cond.methodLink RX7 29 yX7_day]
def wsX7_minute_r2 : List Cond := [Cond.instanceMethod yX7_day, Cond.selects RX7 yX7_day yX7_day, Cond.code yX7_day cX7_day 1 (some .int), Cond.methodLink RX7 133 yX7_puts, Cond.instanceMethod yX7_puts, Cond.selects RX7 yX7_puts yX7_puts, Cond.code yX7_puts cX7_puts 4 none, Cond.methodLink RX7 40 yX7_stands, Cond.instanceMethod yX7_stands, Cond.selects RX7 yX7_stands yX7_stands, Cond.code yX7_stands cX7_stands 2 (some .int), Cond.methodLink RX7 36 yX7_ofAxis, Cond.instanceMethod yX7_ofAxis, Cond.selects RX7 yX7_ofAxis yX7_ofAxis, Cond.code yX7_ofAxis cX7_ofAxis 3 (some .int), Cond.methodLink RX7 155 yX7_nextOne, Cond.instanceMethod yX7_nextOne, Cond.selects RX7 yX7_nextOne yX7_nextOne, Cond.code yX7_nextOne cX7_nextOne 3 (some .int), Cond.methodLink RX7 149 yX7_whyNot, Cond.instanceMethod yX7_whyNot, Cond.selects RX7 yX7_whyNot yX7_whyNot, Cond.code yX7_whyNot cX7_whyNot 5 (some .int), Cond.methodLink RX7 77 yX7_isPossible]
def wsX7_minute_r3 : List Cond := [Cond.instanceMethod yX7_isPossible, Cond.selects RX7 yX7_isPossible yX7_isPossible, Cond.code yX7_isPossible cX7_isPossible 3 (some .boolean), Cond.fieldLink RX7 48 "DishPointerModel" "end" "I", Cond.fieldLink RX7 44 "DishPointerModel" "turns" "Z", Cond.fieldLink RX7 51 "DishPointerModel" "turn" "I", Cond.methodLink RX7 58 yX7_finds, Cond.instanceMethod yX7_finds, Cond.selects RX7 yX7_finds yX7_finds, Cond.code yX7_finds cX7_finds 7 none, Cond.methodLink RX7 62 yX7_isInRange, Cond.instanceMethod yX7_isInRange, Cond.selects RX7 yX7_isInRange yX7_isInRange, Cond.code yX7_isInRange cX7_isInRange 3 (some .boolean), Cond.methodLink RX7 54 yX7_in, Cond.static yX7_in, Cond.code yX7_in cX7_in 3 (some .boolean), Cond.methodLink RX7 123 yX7_placeOf, Cond.instanceMethod yX7_placeOf, Cond.selects RX7 yX7_placeOf yX7_placeOf, Cond.code yX7_placeOf cX7_placeOf 5 (some .int), Cond.constant RX7 76 (36000), Cond.methodLink RX7 81 yX7_isBetter, Cond.instanceMethod yX7_isBetter]
def wsX7_minute_r4 : List Cond := [Cond.selects RX7 yX7_isBetter yX7_isBetter, Cond.code yX7_isBetter cX7_isBetter 7 (some .boolean), Cond.methodLink RX7 72 yX7_isCalm, Cond.instanceMethod yX7_isCalm, Cond.selects RX7 yX7_isCalm yX7_isCalm, Cond.code yX7_isCalm cX7_isCalm 2 (some .boolean), Cond.methodLink RX7 69 yX7_lengthOf, Cond.instanceMethod yX7_lengthOf, Cond.selects RX7 yX7_lengthOf yX7_lengthOf, Cond.code yX7_lengthOf cX7_lengthOf 4 (some .int), Cond.methodLink RX7 66 yX7_apart, Cond.static yX7_apart, Cond.code yX7_apart cX7_apart 2 (some .int), Cond.methodLink RX7 87 yX7_timeOf, Cond.instanceMethod yX7_timeOf, Cond.selects RX7 yX7_timeOf yX7_timeOf, Cond.code yX7_timeOf cX7_timeOf 4 (some .int), Cond.methodLink RX7 152 yX7_comesFirst, Cond.instanceMethod yX7_comesFirst, Cond.selects RX7 yX7_comesFirst yX7_comesFirst, Cond.code yX7_comesFirst cX7_comesFirst 3 (some .boolean), Cond.methodLink RX7 162 yX7_begins, Cond.instanceMethod yX7_begins, Cond.selects RX7 yX7_begins yX7_begins]
def wsX7_minute_r5 : List Cond := [Cond.code yX7_begins cX7_begins 4 none, Cond.methodLink RX7 126 yX7_slews, Cond.instanceMethod yX7_slews, Cond.selects RX7 yX7_slews yX7_slews, Cond.code yX7_slews cX7_slews 5 (some .int), Cond.methodLink RX7 90 yX7_leads, Cond.instanceMethod yX7_leads, Cond.selects RX7 yX7_leads yX7_leads, Cond.code yX7_leads cX7_leads 4 none, Cond.methodLink RX7 84 yX7_goes, Cond.instanceMethod yX7_goes, Cond.selects RX7 yX7_goes yX7_goes, Cond.code yX7_goes cX7_goes 6 none]
def wsX7_minute : List Cond := .code yX7_minute cX7_minute 4 (some .int) :: ((wsX7_minute_r1 ++ (wsX7_minute_r2 ++ (wsX7_minute_r3 ++ (wsX7_minute_r4 ++ wsX7_minute_r5)))) ++ wsX70)
def wsX7_runs_r1 : List Cond := [Cond.fieldLink RX7 7 "DishPointerModel" "s" "[I", Cond.methodLink RX7 165 yX7_minute, Cond.instanceMethod yX7_minute, Cond.selects RX7 yX7_minute yX7_minute, Cond.initialized RX7, Cond.code yX7_minute cX7_minute 4 (some .int), Cond.constant RX7 80 (-100004), Cond.methodLink RX7 107 yX7_underWay, Cond.instanceMethod yX7_underWay, Cond.selects RX7 yX7_underWay yX7_underWay, Cond.code yX7_underWay cX7_underWay 2 (some .int), Cond.methodLink RX7 104 yX7_of, Cond.instanceMethod yX7_of, Cond.selects RX7 yX7_of yX7_of, Cond.code yX7_of cX7_of 3 (some .int), Cond.methodLink RX7 158 yX7_pushes, Cond.instanceMethod yX7_pushes, Cond.selects RX7 yX7_pushes yX7_pushes, Cond.code yX7_pushes cX7_pushes 3 none, Cond.methodLink RX7 110 yX7_kindOfDay, Cond.instanceMethod yX7_kindOfDay, Cond.selects RX7 yX7_kindOfDay yX7_kindOfDay, Cond.code yX7_kindOfDay cX7_kindOfDay 1 (some .int), Cond.methodLink RX7 33 yX7_gustNow]
def wsX7_runs_r2 : List Cond := [Cond.instanceMethod yX7_gustNow, Cond.selects RX7 yX7_gustNow yX7_gustNow, Cond.code yX7_gustNow cX7_gustNow 1 (some .int), Cond.methodLink RX7 29 yX7_day, Cond.instanceMethod yX7_day, Cond.selects RX7 yX7_day yX7_day, Cond.code yX7_day cX7_day 1 (some .int), Cond.methodLink RX7 133 yX7_puts, Cond.instanceMethod yX7_puts, Cond.selects RX7 yX7_puts yX7_puts, Cond.code yX7_puts cX7_puts 4 none, Cond.methodLink RX7 40 yX7_stands, Cond.instanceMethod yX7_stands, Cond.selects RX7 yX7_stands yX7_stands, Cond.code yX7_stands cX7_stands 2 (some .int), Cond.methodLink RX7 36 yX7_ofAxis, Cond.instanceMethod yX7_ofAxis, Cond.selects RX7 yX7_ofAxis yX7_ofAxis, Cond.code yX7_ofAxis cX7_ofAxis 3 (some .int), Cond.methodLink RX7 155 yX7_nextOne, Cond.instanceMethod yX7_nextOne, Cond.selects RX7 yX7_nextOne yX7_nextOne, Cond.code yX7_nextOne cX7_nextOne 3 (some .int), Cond.methodLink RX7 149 yX7_whyNot]
def wsX7_runs_r3 : List Cond := [Cond.instanceMethod yX7_whyNot, Cond.selects RX7 yX7_whyNot yX7_whyNot, Cond.code yX7_whyNot cX7_whyNot 5 (some .int), Cond.methodLink RX7 77 yX7_isPossible, Cond.instanceMethod yX7_isPossible, Cond.selects RX7 yX7_isPossible yX7_isPossible, Cond.code yX7_isPossible cX7_isPossible 3 (some .boolean), Cond.fieldLink RX7 48 "DishPointerModel" "end" "I", Cond.fieldLink RX7 44 "DishPointerModel" "turns" "Z", Cond.fieldLink RX7 51 "DishPointerModel" "turn" "I", Cond.methodLink RX7 58 yX7_finds, Cond.instanceMethod yX7_finds, Cond.selects RX7 yX7_finds yX7_finds, Cond.code yX7_finds cX7_finds 7 none, Cond.methodLink RX7 62 yX7_isInRange, Cond.instanceMethod yX7_isInRange, Cond.selects RX7 yX7_isInRange yX7_isInRange, Cond.code yX7_isInRange cX7_isInRange 3 (some .boolean), Cond.methodLink RX7 54 yX7_in, Cond.static yX7_in, Cond.code yX7_in cX7_in 3 (some .boolean), Cond.methodLink RX7 123 yX7_placeOf, Cond.instanceMethod yX7_placeOf, Cond.selects RX7 yX7_placeOf yX7_placeOf]
def wsX7_runs_r4 : List Cond := [Cond.code yX7_placeOf cX7_placeOf 5 (some .int), Cond.constant RX7 76 (36000), Cond.methodLink RX7 81 yX7_isBetter, Cond.instanceMethod yX7_isBetter, Cond.selects RX7 yX7_isBetter yX7_isBetter, Cond.code yX7_isBetter cX7_isBetter 7 (some .boolean), Cond.methodLink RX7 72 yX7_isCalm, Cond.instanceMethod yX7_isCalm, Cond.selects RX7 yX7_isCalm yX7_isCalm, Cond.code yX7_isCalm cX7_isCalm 2 (some .boolean), Cond.methodLink RX7 69 yX7_lengthOf, Cond.instanceMethod yX7_lengthOf, Cond.selects RX7 yX7_lengthOf yX7_lengthOf, Cond.code yX7_lengthOf cX7_lengthOf 4 (some .int), Cond.methodLink RX7 66 yX7_apart, Cond.static yX7_apart, Cond.code yX7_apart cX7_apart 2 (some .int), Cond.methodLink RX7 87 yX7_timeOf, Cond.instanceMethod yX7_timeOf, Cond.selects RX7 yX7_timeOf yX7_timeOf, Cond.code yX7_timeOf cX7_timeOf 4 (some .int), Cond.methodLink RX7 152 yX7_comesFirst, Cond.instanceMethod yX7_comesFirst, Cond.selects RX7 yX7_comesFirst yX7_comesFirst]
def wsX7_runs_r5 : List Cond := [Cond.code yX7_comesFirst cX7_comesFirst 3 (some .boolean), Cond.methodLink RX7 162 yX7_begins, Cond.instanceMethod yX7_begins, Cond.selects RX7 yX7_begins yX7_begins, Cond.code yX7_begins cX7_begins 4 none, Cond.methodLink RX7 126 yX7_slews, Cond.instanceMethod yX7_slews, Cond.selects RX7 yX7_slews yX7_slews, Cond.code yX7_slews cX7_slews 5 (some .int), Cond.methodLink RX7 90 yX7_leads, Cond.instanceMethod yX7_leads, Cond.selects RX7 yX7_leads yX7_leads, Cond.code yX7_leads cX7_leads 4 none, Cond.methodLink RX7 84 yX7_goes, Cond.instanceMethod yX7_goes, Cond.selects RX7 yX7_goes yX7_goes, Cond.code yX7_goes cX7_goes 6 none, Cond.methodLink RX7 168 yX7_holds, Cond.instanceMethod yX7_holds, Cond.selects RX7 yX7_holds yX7_holds, Cond.code yX7_holds cX7_holds 2 none]
def wsX7_runs : List Cond := .code yX7_runs cX7_runs 4 (some .int) :: ((wsX7_runs_r1 ++ (wsX7_runs_r2 ++ (wsX7_runs_r3 ++ (wsX7_runs_r4 ++ wsX7_runs_r5)))) ++ wsX70)
def wsX7_run_r1 : List Cond := [Cond.constant RX7 96 (-100001), Cond.fieldLink RX7 7 "DishPointerModel" "s" "[I", Cond.constant RX7 129 (43200), Cond.constant RX7 141 (-100003), Cond.methodLink RX7 54 yX7_in, Cond.static yX7_in, Cond.initialized RX7, Cond.code yX7_in cX7_in 3 (some .boolean), Cond.methodLink RX7 97 yX7_records, Cond.instanceMethod yX7_records, Cond.selects RX7 yX7_records yX7_records, Cond.code yX7_records cX7_records 2 none, Cond.fieldLink RX7 25 "DishPointerModel" "states" "I", Cond.fieldLink RX7 13 "DishPointerModel" "was" "[I", Cond.methodLink RX7 171 yX7_runs, Cond.instanceMethod yX7_runs, Cond.selects RX7 yX7_runs yX7_runs, Cond.code yX7_runs cX7_runs 4 (some .int), Cond.methodLink RX7 165 yX7_minute, Cond.instanceMethod yX7_minute, Cond.selects RX7 yX7_minute yX7_minute, Cond.code yX7_minute cX7_minute 4 (some .int), Cond.constant RX7 80 (-100004), Cond.methodLink RX7 107 yX7_underWay]
def wsX7_run_r2 : List Cond := [Cond.instanceMethod yX7_underWay, Cond.selects RX7 yX7_underWay yX7_underWay, Cond.code yX7_underWay cX7_underWay 2 (some .int), Cond.methodLink RX7 104 yX7_of, Cond.instanceMethod yX7_of, Cond.selects RX7 yX7_of yX7_of, Cond.code yX7_of cX7_of 3 (some .int), Cond.methodLink RX7 158 yX7_pushes, Cond.instanceMethod yX7_pushes, Cond.selects RX7 yX7_pushes yX7_pushes, Cond.code yX7_pushes cX7_pushes 3 none, Cond.methodLink RX7 110 yX7_kindOfDay, Cond.instanceMethod yX7_kindOfDay, Cond.selects RX7 yX7_kindOfDay yX7_kindOfDay, Cond.code yX7_kindOfDay cX7_kindOfDay 1 (some .int), Cond.methodLink RX7 33 yX7_gustNow, Cond.instanceMethod yX7_gustNow, Cond.selects RX7 yX7_gustNow yX7_gustNow, Cond.code yX7_gustNow cX7_gustNow 1 (some .int), Cond.methodLink RX7 29 yX7_day, Cond.instanceMethod yX7_day, Cond.selects RX7 yX7_day yX7_day, Cond.code yX7_day cX7_day 1 (some .int), Cond.methodLink RX7 133 yX7_puts]
def wsX7_run_r3 : List Cond := [Cond.instanceMethod yX7_puts, Cond.selects RX7 yX7_puts yX7_puts, Cond.code yX7_puts cX7_puts 4 none, Cond.methodLink RX7 40 yX7_stands, Cond.instanceMethod yX7_stands, Cond.selects RX7 yX7_stands yX7_stands, Cond.code yX7_stands cX7_stands 2 (some .int), Cond.methodLink RX7 36 yX7_ofAxis, Cond.instanceMethod yX7_ofAxis, Cond.selects RX7 yX7_ofAxis yX7_ofAxis, Cond.code yX7_ofAxis cX7_ofAxis 3 (some .int), Cond.methodLink RX7 155 yX7_nextOne, Cond.instanceMethod yX7_nextOne, Cond.selects RX7 yX7_nextOne yX7_nextOne, Cond.code yX7_nextOne cX7_nextOne 3 (some .int), Cond.methodLink RX7 149 yX7_whyNot, Cond.instanceMethod yX7_whyNot, Cond.selects RX7 yX7_whyNot yX7_whyNot, Cond.code yX7_whyNot cX7_whyNot 5 (some .int), Cond.methodLink RX7 77 yX7_isPossible, Cond.instanceMethod yX7_isPossible, Cond.selects RX7 yX7_isPossible yX7_isPossible, Cond.code yX7_isPossible cX7_isPossible 3 (some .boolean), Cond.fieldLink RX7 48 "DishPointerModel" "end" "I"]
def wsX7_run_r4 : List Cond := [Cond.fieldLink RX7 44 "DishPointerModel" "turns" "Z", Cond.fieldLink RX7 51 "DishPointerModel" "turn" "I", Cond.methodLink RX7 58 yX7_finds, Cond.instanceMethod yX7_finds, Cond.selects RX7 yX7_finds yX7_finds, Cond.code yX7_finds cX7_finds 7 none, Cond.methodLink RX7 62 yX7_isInRange, Cond.instanceMethod yX7_isInRange, Cond.selects RX7 yX7_isInRange yX7_isInRange, Cond.code yX7_isInRange cX7_isInRange 3 (some .boolean), Cond.methodLink RX7 123 yX7_placeOf, Cond.instanceMethod yX7_placeOf, Cond.selects RX7 yX7_placeOf yX7_placeOf, Cond.code yX7_placeOf cX7_placeOf 5 (some .int), Cond.constant RX7 76 (36000), Cond.methodLink RX7 81 yX7_isBetter, Cond.instanceMethod yX7_isBetter, Cond.selects RX7 yX7_isBetter yX7_isBetter, Cond.code yX7_isBetter cX7_isBetter 7 (some .boolean), Cond.methodLink RX7 72 yX7_isCalm, Cond.instanceMethod yX7_isCalm, Cond.selects RX7 yX7_isCalm yX7_isCalm, Cond.code yX7_isCalm cX7_isCalm 2 (some .boolean), Cond.methodLink RX7 69 yX7_lengthOf]
def wsX7_run_r5 : List Cond := [Cond.instanceMethod yX7_lengthOf, Cond.selects RX7 yX7_lengthOf yX7_lengthOf, Cond.code yX7_lengthOf cX7_lengthOf 4 (some .int), Cond.methodLink RX7 66 yX7_apart, Cond.static yX7_apart, Cond.code yX7_apart cX7_apart 2 (some .int), Cond.methodLink RX7 87 yX7_timeOf, Cond.instanceMethod yX7_timeOf, Cond.selects RX7 yX7_timeOf yX7_timeOf, Cond.code yX7_timeOf cX7_timeOf 4 (some .int), Cond.methodLink RX7 152 yX7_comesFirst, Cond.instanceMethod yX7_comesFirst, Cond.selects RX7 yX7_comesFirst yX7_comesFirst, Cond.code yX7_comesFirst cX7_comesFirst 3 (some .boolean), Cond.methodLink RX7 162 yX7_begins, Cond.instanceMethod yX7_begins, Cond.selects RX7 yX7_begins yX7_begins, Cond.code yX7_begins cX7_begins 4 none, Cond.methodLink RX7 126 yX7_slews, Cond.instanceMethod yX7_slews, Cond.selects RX7 yX7_slews yX7_slews, Cond.code yX7_slews cX7_slews 5 (some .int), Cond.methodLink RX7 90 yX7_leads, Cond.instanceMethod yX7_leads]
def wsX7_run_r6 : List Cond := [Cond.selects RX7 yX7_leads yX7_leads, Cond.code yX7_leads cX7_leads 4 none, Cond.methodLink RX7 84 yX7_goes, Cond.instanceMethod yX7_goes, Cond.selects RX7 yX7_goes yX7_goes, Cond.code yX7_goes cX7_goes 6 none, Cond.methodLink RX7 168 yX7_holds, Cond.instanceMethod yX7_holds, Cond.selects RX7 yX7_holds yX7_holds, Cond.code yX7_holds cX7_holds 2 none]
def wsX7_run : List Cond := .code yX7_run cX7_run 2 (some .int) :: ((wsX7_run_r1 ++ (wsX7_run_r2 ++ (wsX7_run_r3 ++ (wsX7_run_r4 ++ (wsX7_run_r5 ++ wsX7_run_r6))))) ++ wsX70)
def wsX7_ifRun_r1 : List Cond := [Cond.constant RX7 96 (-100001), Cond.fieldLink RX7 7 "DishPointerModel" "s" "[I", Cond.constant RX7 129 (43200), Cond.constant RX7 141 (-100003), Cond.fieldLink RX7 16 "DishPointerModel" "aside" "[I", Cond.methodLink RX7 54 yX7_in, Cond.static yX7_in, Cond.initialized RX7, Cond.code yX7_in cX7_in 3 (some .boolean), Cond.methodLink RX7 174 yX7_copies, Cond.instanceMethod yX7_copies, Cond.selects RX7 yX7_copies yX7_copies, Cond.code yX7_copies cX7_copies 4 none, Cond.methodLink RX7 171 yX7_runs, Cond.instanceMethod yX7_runs, Cond.selects RX7 yX7_runs yX7_runs, Cond.code yX7_runs cX7_runs 4 (some .int), Cond.methodLink RX7 165 yX7_minute, Cond.instanceMethod yX7_minute, Cond.selects RX7 yX7_minute yX7_minute, Cond.code yX7_minute cX7_minute 4 (some .int), Cond.constant RX7 80 (-100004), Cond.methodLink RX7 107 yX7_underWay, Cond.instanceMethod yX7_underWay]
def wsX7_ifRun_r2 : List Cond := [Cond.selects RX7 yX7_underWay yX7_underWay, Cond.code yX7_underWay cX7_underWay 2 (some .int), Cond.methodLink RX7 104 yX7_of, Cond.instanceMethod yX7_of, Cond.selects RX7 yX7_of yX7_of, Cond.code yX7_of cX7_of 3 (some .int), Cond.methodLink RX7 158 yX7_pushes, Cond.instanceMethod yX7_pushes, Cond.selects RX7 yX7_pushes yX7_pushes, Cond.code yX7_pushes cX7_pushes 3 none, Cond.methodLink RX7 110 yX7_kindOfDay, Cond.instanceMethod yX7_kindOfDay, Cond.selects RX7 yX7_kindOfDay yX7_kindOfDay, Cond.code yX7_kindOfDay cX7_kindOfDay 1 (some .int), Cond.methodLink RX7 33 yX7_gustNow, Cond.instanceMethod yX7_gustNow, Cond.selects RX7 yX7_gustNow yX7_gustNow, Cond.code yX7_gustNow cX7_gustNow 1 (some .int), Cond.methodLink RX7 29 yX7_day, Cond.instanceMethod yX7_day, Cond.selects RX7 yX7_day yX7_day, Cond.code yX7_day cX7_day 1 (some .int), Cond.methodLink RX7 133 yX7_puts, Cond.instanceMethod yX7_puts]
def wsX7_ifRun_r3 : List Cond := [Cond.selects RX7 yX7_puts yX7_puts, Cond.code yX7_puts cX7_puts 4 none, Cond.methodLink RX7 40 yX7_stands, Cond.instanceMethod yX7_stands, Cond.selects RX7 yX7_stands yX7_stands, Cond.code yX7_stands cX7_stands 2 (some .int), Cond.methodLink RX7 36 yX7_ofAxis, Cond.instanceMethod yX7_ofAxis, Cond.selects RX7 yX7_ofAxis yX7_ofAxis, Cond.code yX7_ofAxis cX7_ofAxis 3 (some .int), Cond.methodLink RX7 155 yX7_nextOne, Cond.instanceMethod yX7_nextOne, Cond.selects RX7 yX7_nextOne yX7_nextOne, Cond.code yX7_nextOne cX7_nextOne 3 (some .int), Cond.methodLink RX7 149 yX7_whyNot, Cond.instanceMethod yX7_whyNot, Cond.selects RX7 yX7_whyNot yX7_whyNot, Cond.code yX7_whyNot cX7_whyNot 5 (some .int), Cond.methodLink RX7 77 yX7_isPossible, Cond.instanceMethod yX7_isPossible, Cond.selects RX7 yX7_isPossible yX7_isPossible, Cond.code yX7_isPossible cX7_isPossible 3 (some .boolean), Cond.fieldLink RX7 48 "DishPointerModel" "end" "I", Cond.fieldLink RX7 44 "DishPointerModel" "turns" "Z"]
def wsX7_ifRun_r4 : List Cond := [Cond.fieldLink RX7 51 "DishPointerModel" "turn" "I", Cond.methodLink RX7 58 yX7_finds, Cond.instanceMethod yX7_finds, Cond.selects RX7 yX7_finds yX7_finds, Cond.code yX7_finds cX7_finds 7 none, Cond.methodLink RX7 62 yX7_isInRange, Cond.instanceMethod yX7_isInRange, Cond.selects RX7 yX7_isInRange yX7_isInRange, Cond.code yX7_isInRange cX7_isInRange 3 (some .boolean), Cond.methodLink RX7 123 yX7_placeOf, Cond.instanceMethod yX7_placeOf, Cond.selects RX7 yX7_placeOf yX7_placeOf, Cond.code yX7_placeOf cX7_placeOf 5 (some .int), Cond.constant RX7 76 (36000), Cond.methodLink RX7 81 yX7_isBetter, Cond.instanceMethod yX7_isBetter, Cond.selects RX7 yX7_isBetter yX7_isBetter, Cond.code yX7_isBetter cX7_isBetter 7 (some .boolean), Cond.methodLink RX7 72 yX7_isCalm, Cond.instanceMethod yX7_isCalm, Cond.selects RX7 yX7_isCalm yX7_isCalm, Cond.code yX7_isCalm cX7_isCalm 2 (some .boolean), Cond.methodLink RX7 69 yX7_lengthOf, Cond.instanceMethod yX7_lengthOf]
def wsX7_ifRun_r5 : List Cond := [Cond.selects RX7 yX7_lengthOf yX7_lengthOf, Cond.code yX7_lengthOf cX7_lengthOf 4 (some .int), Cond.methodLink RX7 66 yX7_apart, Cond.static yX7_apart, Cond.code yX7_apart cX7_apart 2 (some .int), Cond.methodLink RX7 87 yX7_timeOf, Cond.instanceMethod yX7_timeOf, Cond.selects RX7 yX7_timeOf yX7_timeOf, Cond.code yX7_timeOf cX7_timeOf 4 (some .int), Cond.methodLink RX7 152 yX7_comesFirst, Cond.instanceMethod yX7_comesFirst, Cond.selects RX7 yX7_comesFirst yX7_comesFirst, Cond.code yX7_comesFirst cX7_comesFirst 3 (some .boolean), Cond.methodLink RX7 162 yX7_begins, Cond.instanceMethod yX7_begins, Cond.selects RX7 yX7_begins yX7_begins, Cond.code yX7_begins cX7_begins 4 none, Cond.methodLink RX7 126 yX7_slews, Cond.instanceMethod yX7_slews, Cond.selects RX7 yX7_slews yX7_slews, Cond.code yX7_slews cX7_slews 5 (some .int), Cond.methodLink RX7 90 yX7_leads, Cond.instanceMethod yX7_leads, Cond.selects RX7 yX7_leads yX7_leads]
def wsX7_ifRun_r6 : List Cond := [Cond.code yX7_leads cX7_leads 4 none, Cond.methodLink RX7 84 yX7_goes, Cond.instanceMethod yX7_goes, Cond.selects RX7 yX7_goes yX7_goes, Cond.code yX7_goes cX7_goes 6 none, Cond.methodLink RX7 168 yX7_holds, Cond.instanceMethod yX7_holds, Cond.selects RX7 yX7_holds yX7_holds, Cond.code yX7_holds cX7_holds 2 none, Cond.methodLink RX7 113 yX7_manyIn, Cond.instanceMethod yX7_manyIn, Cond.selects RX7 yX7_manyIn yX7_manyIn, Cond.code yX7_manyIn cX7_manyIn 4 (some .int)]
def wsX7_ifRun : List Cond := .code yX7_ifRun cX7_ifRun 3 (some .int) :: ((wsX7_ifRun_r1 ++ (wsX7_ifRun_r2 ++ (wsX7_ifRun_r3 ++ (wsX7_ifRun_r4 ++ (wsX7_ifRun_r5 ++ wsX7_ifRun_r6))))) ++ wsX70)
def wsX7_undo : List Cond := .code yX7_undo cX7_undo 2 (some .int) :: ([.fieldLink RX7 25 "DishPointerModel" "states" "I", .constant RX7 103 (-100002), .fieldLink RX7 7 "DishPointerModel" "s" "[I", .fieldLink RX7 13 "DishPointerModel" "was" "[I"] ++ wsX70)
def wsX7_type : List Cond := .code yX7_type cX7_type 2 (some .int) :: ([.constant RX7 96 (-100001), .fieldLink RX7 119 "DishPointerModel" "typed" "I", .constant RX7 141 (-100003), .fieldLink RX7 19 "DishPointerModel" "text" "[I", .methodLink RX7 54 yX7_in, .static yX7_in, .initialized RX7, .code yX7_in cX7_in 3 (some .boolean)] ++ wsX70)
def wsX7_clearText : List Cond := .code yX7_clearText cX7_clearText 2 (some .int) :: ([.fieldLink RX7 119 "DishPointerModel" "typed" "I"] ++ wsX70)
def wsX7_isPart : List Cond := .code yX7_isPart cX7_isPart 5 (some .boolean) :: ([.fieldLink RX7 178 "DishPointerModel" "at" "I", .fieldLink RX7 119 "DishPointerModel" "typed" "I", .fieldLink RX7 19 "DishPointerModel" "text" "[I", .fieldLink RX7 22 "DishPointerModel" "parts" "[I", .methodLink RX7 54 yX7_in, .static yX7_in, .initialized RX7, .code yX7_in cX7_in 3 (some .boolean)] ++ wsX70)
def wsX7_reason : List Cond := .code yX7_reason cX7_reason 4 (some .int) :: ([.fieldLink RX7 178 "DishPointerModel" "at" "I", .fieldLink RX7 119 "DishPointerModel" "typed" "I", .fieldLink RX7 19 "DishPointerModel" "text" "[I", .fieldLink RX7 22 "DishPointerModel" "parts" "[I", .methodLink RX7 181 yX7_isPart, .instanceMethod yX7_isPart, .selects RX7 yX7_isPart yX7_isPart, .initialized RX7, .code yX7_isPart cX7_isPart 5 (some .boolean), .methodLink RX7 54 yX7_in, .static yX7_in, .code yX7_in cX7_in 3 (some .boolean), .methodLink RX7 137 yX7_isGood, .static yX7_isGood, .code yX7_isGood cX7_isGood 6 (some .boolean), .constant RX7 122 (35999), .methodLink RX7 130 yX7_isWindow, .static yX7_isWindow, .code yX7_isWindow cX7_isWindow 2 (some .boolean), .constant RX7 129 (43200)] ++ wsX70)
def wsX7_faultAt_r1 : List Cond := [Cond.fieldLink RX7 7 "DishPointerModel" "s" "[I", Cond.fieldLink RX7 178 "DishPointerModel" "at" "I", Cond.fieldLink RX7 119 "DishPointerModel" "typed" "I", Cond.fieldLink RX7 187 "DishPointerModel" "kept" "I", Cond.constant RX7 80 (-100004), Cond.methodLink RX7 184 yX7_reason, Cond.instanceMethod yX7_reason, Cond.selects RX7 yX7_reason yX7_reason, Cond.initialized RX7, Cond.code yX7_reason cX7_reason 4 (some .int), Cond.fieldLink RX7 19 "DishPointerModel" "text" "[I", Cond.fieldLink RX7 22 "DishPointerModel" "parts" "[I", Cond.methodLink RX7 181 yX7_isPart, Cond.instanceMethod yX7_isPart, Cond.selects RX7 yX7_isPart yX7_isPart, Cond.code yX7_isPart cX7_isPart 5 (some .boolean), Cond.methodLink RX7 54 yX7_in, Cond.static yX7_in, Cond.code yX7_in cX7_in 3 (some .boolean), Cond.methodLink RX7 137 yX7_isGood, Cond.static yX7_isGood, Cond.code yX7_isGood cX7_isGood 6 (some .boolean), Cond.constant RX7 122 (35999), Cond.methodLink RX7 130 yX7_isWindow]
def wsX7_faultAt_r2 : List Cond := [Cond.static yX7_isWindow, Cond.code yX7_isWindow cX7_isWindow 2 (some .boolean), Cond.constant RX7 129 (43200)]
def wsX7_faultAt : List Cond := .code yX7_faultAt cX7_faultAt 3 (some .int) :: ((wsX7_faultAt_r1 ++ wsX7_faultAt_r2) ++ wsX70)
def wsX7_fault_r1 : List Cond := [Cond.constant RX7 96 (-100001), Cond.constant RX7 80 (-100004), Cond.fieldLink RX7 187 "DishPointerModel" "kept" "I", Cond.methodLink RX7 54 yX7_in, Cond.static yX7_in, Cond.initialized RX7, Cond.code yX7_in cX7_in 3 (some .boolean), Cond.methodLink RX7 190 yX7_faultAt, Cond.instanceMethod yX7_faultAt, Cond.selects RX7 yX7_faultAt yX7_faultAt, Cond.code yX7_faultAt cX7_faultAt 3 (some .int), Cond.fieldLink RX7 7 "DishPointerModel" "s" "[I", Cond.fieldLink RX7 178 "DishPointerModel" "at" "I", Cond.fieldLink RX7 119 "DishPointerModel" "typed" "I", Cond.methodLink RX7 184 yX7_reason, Cond.instanceMethod yX7_reason, Cond.selects RX7 yX7_reason yX7_reason, Cond.code yX7_reason cX7_reason 4 (some .int), Cond.fieldLink RX7 19 "DishPointerModel" "text" "[I", Cond.fieldLink RX7 22 "DishPointerModel" "parts" "[I", Cond.methodLink RX7 181 yX7_isPart, Cond.instanceMethod yX7_isPart, Cond.selects RX7 yX7_isPart yX7_isPart, Cond.code yX7_isPart cX7_isPart 5 (some .boolean)]
def wsX7_fault_r2 : List Cond := [Cond.methodLink RX7 137 yX7_isGood, Cond.static yX7_isGood, Cond.code yX7_isGood cX7_isGood 6 (some .boolean), Cond.constant RX7 122 (35999), Cond.methodLink RX7 130 yX7_isWindow, Cond.static yX7_isWindow, Cond.code yX7_isWindow cX7_isWindow 2 (some .boolean), Cond.constant RX7 129 (43200)]
def wsX7_fault : List Cond := .code yX7_fault cX7_fault 3 (some .int) :: ((wsX7_fault_r1 ++ wsX7_fault_r2) ++ wsX70)
def wsX7_enter_r1 : List Cond := [Cond.constant RX7 80 (-100004), Cond.constant RX7 103 (-100002), Cond.fieldLink RX7 178 "DishPointerModel" "at" "I", Cond.fieldLink RX7 119 "DishPointerModel" "typed" "I", Cond.fieldLink RX7 22 "DishPointerModel" "parts" "[I", Cond.methodLink RX7 190 yX7_faultAt, Cond.instanceMethod yX7_faultAt, Cond.selects RX7 yX7_faultAt yX7_faultAt, Cond.initialized RX7, Cond.code yX7_faultAt cX7_faultAt 3 (some .int), Cond.fieldLink RX7 7 "DishPointerModel" "s" "[I", Cond.fieldLink RX7 187 "DishPointerModel" "kept" "I", Cond.methodLink RX7 184 yX7_reason, Cond.instanceMethod yX7_reason, Cond.selects RX7 yX7_reason yX7_reason, Cond.code yX7_reason cX7_reason 4 (some .int), Cond.fieldLink RX7 19 "DishPointerModel" "text" "[I", Cond.methodLink RX7 181 yX7_isPart, Cond.instanceMethod yX7_isPart, Cond.selects RX7 yX7_isPart yX7_isPart, Cond.code yX7_isPart cX7_isPart 5 (some .boolean), Cond.methodLink RX7 54 yX7_in, Cond.static yX7_in, Cond.code yX7_in cX7_in 3 (some .boolean)]
def wsX7_enter_r2 : List Cond := [Cond.methodLink RX7 137 yX7_isGood, Cond.static yX7_isGood, Cond.code yX7_isGood cX7_isGood 6 (some .boolean), Cond.constant RX7 122 (35999), Cond.methodLink RX7 130 yX7_isWindow, Cond.static yX7_isWindow, Cond.code yX7_isWindow cX7_isWindow 2 (some .boolean), Cond.constant RX7 129 (43200), Cond.methodLink RX7 97 yX7_records, Cond.instanceMethod yX7_records, Cond.selects RX7 yX7_records yX7_records, Cond.code yX7_records cX7_records 2 none, Cond.fieldLink RX7 25 "DishPointerModel" "states" "I", Cond.fieldLink RX7 13 "DishPointerModel" "was" "[I", Cond.methodLink RX7 142 yX7_adds, Cond.instanceMethod yX7_adds, Cond.selects RX7 yX7_adds yX7_adds, Cond.code yX7_adds cX7_adds 9 none, Cond.methodLink RX7 133 yX7_puts, Cond.instanceMethod yX7_puts, Cond.selects RX7 yX7_puts yX7_puts, Cond.code yX7_puts cX7_puts 4 none]
def wsX7_enter : List Cond := .code yX7_enter cX7_enter 3 (some .int) :: ((wsX7_enter_r1 ++ wsX7_enter_r2) ++ wsX70)
def wsJ9_abs_0f7a4 : List Cond := .code yJ9_abs_0f7a4 cJ9_abs_0f7a4 1 (some .int) :: ([])
def wsJ9_max_7cf53 : List Cond := .code yJ9_max_7cf53 cJ9_max_7cf53 2 (some .int) :: ([])
def wsJ9_min_7cf53 : List Cond := .code yJ9_min_7cf53 cJ9_min_7cf53 2 (some .int) :: ([])
abbrev vwCl : List vw_C := [(RX0, TX0, 10), (RX1, TX1, 2), (RX2, TX2, 11), (RX3, TX3, 14), (RX4, TX4, 6), (RX5, TX5, 7), (RX6, TX6, 4), (RX7, TX7, 12)]
end
section
theorem dX0_init_0 : decode cX0_init 0 = .ok (.aload_n 0, 1) := by decide +kernel
theorem dX0_init_1 : decode cX0_init 1 = .ok (.invokespecial 3, 3) := by decide +kernel
theorem dX0_init_4 : decode cX0_init 4 = .ok (.aload_n 0, 1) := by decide +kernel
theorem dX0_init_5 : decode cX0_init 5 = .ok (.iload_n 1, 1) := by decide +kernel
theorem dX0_init_6 : decode cX0_init 6 = .ok (.putfield 9, 3) := by decide +kernel
theorem dX0_init_9 : decode cX0_init 9 = .ok (.aload_n 0, 1) := by decide +kernel
theorem dX0_init_10 : decode cX0_init 10 = .ok (.iload_n 2, 1) := by decide +kernel
theorem dX0_init_11 : decode cX0_init 11 = .ok (.putfield 15, 3) := by decide +kernel
theorem dX0_init_14 : decode cX0_init 14 = .ok (.aload_n 0, 1) := by decide +kernel
theorem dX0_init_15 : decode cX0_init 15 = .ok (.iload_n 3, 1) := by decide +kernel
theorem dX0_init_16 : decode cX0_init 16 = .ok (.putfield 18, 3) := by decide +kernel
theorem dX0_init_19 : decode cX0_init 19 = .ok (.aload_n 0, 1) := by decide +kernel
theorem dX0_init_20 : decode cX0_init 20 = .ok (.iload_n 3, 1) := by decide +kernel
theorem dX0_init_21 : decode cX0_init 21 = .ok (.putfield 21, 3) := by decide +kernel
theorem dX0_init_24 : decode cX0_init 24 = .ok (.aload_n 0, 1) := by decide +kernel
theorem dX0_init_25 : decode cX0_init 25 = .ok (.iload 4, 2) := by decide +kernel
theorem dX0_init_27 : decode cX0_init 27 = .ok (.putfield 24, 3) := by decide +kernel
theorem dX0_init_30 : decode cX0_init 30 = .ok (.aload_n 0, 1) := by decide +kernel
theorem dX0_init_31 : decode cX0_init 31 = .ok (.iload 5, 2) := by decide +kernel
theorem dX0_init_33 : decode cX0_init 33 = .ok (.putfield 27, 3) := by decide +kernel
theorem dX0_init_36 : decode cX0_init 36 = .ok (.return_, 1) := by decide +kernel
theorem dX0_copyFrom_0 : decode cX0_copyFrom 0 = .ok (.aload_n 0, 1) := by decide +kernel
theorem dX0_copyFrom_1 : decode cX0_copyFrom 1 = .ok (.aload_n 1, 1) := by decide +kernel
theorem dX0_copyFrom_2 : decode cX0_copyFrom 2 = .ok (.getfield 24, 3) := by decide +kernel
theorem dX0_copyFrom_5 : decode cX0_copyFrom 5 = .ok (.putfield 24, 3) := by decide +kernel
theorem dX0_copyFrom_8 : decode cX0_copyFrom 8 = .ok (.aload_n 0, 1) := by decide +kernel
theorem dX0_copyFrom_9 : decode cX0_copyFrom 9 = .ok (.aload_n 1, 1) := by decide +kernel
theorem dX0_copyFrom_10 : decode cX0_copyFrom 10 = .ok (.getfield 30, 3) := by decide +kernel
theorem dX0_copyFrom_13 : decode cX0_copyFrom 13 = .ok (.putfield 30, 3) := by decide +kernel
theorem dX0_copyFrom_16 : decode cX0_copyFrom 16 = .ok (.aload_n 0, 1) := by decide +kernel
theorem dX0_copyFrom_17 : decode cX0_copyFrom 17 = .ok (.aload_n 1, 1) := by decide +kernel
theorem dX0_copyFrom_18 : decode cX0_copyFrom 18 = .ok (.getfield 27, 3) := by decide +kernel
theorem dX0_copyFrom_21 : decode cX0_copyFrom 21 = .ok (.putfield 27, 3) := by decide +kernel
theorem dX0_copyFrom_24 : decode cX0_copyFrom 24 = .ok (.aload_n 0, 1) := by decide +kernel
theorem dX0_copyFrom_25 : decode cX0_copyFrom 25 = .ok (.aload_n 1, 1) := by decide +kernel
theorem dX0_copyFrom_26 : decode cX0_copyFrom 26 = .ok (.getfield 21, 3) := by decide +kernel
theorem dX0_copyFrom_29 : decode cX0_copyFrom 29 = .ok (.putfield 21, 3) := by decide +kernel
theorem dX0_copyFrom_32 : decode cX0_copyFrom 32 = .ok (.aload_n 0, 1) := by decide +kernel
theorem dX0_copyFrom_33 : decode cX0_copyFrom 33 = .ok (.aload_n 1, 1) := by decide +kernel
theorem dX0_copyFrom_34 : decode cX0_copyFrom 34 = .ok (.getfield 33, 3) := by decide +kernel
theorem dX0_copyFrom_37 : decode cX0_copyFrom 37 = .ok (.putfield 33, 3) := by decide +kernel
theorem dX0_copyFrom_40 : decode cX0_copyFrom 40 = .ok (.aload_n 0, 1) := by decide +kernel
theorem dX0_copyFrom_41 : decode cX0_copyFrom 41 = .ok (.aload_n 1, 1) := by decide +kernel
theorem dX0_copyFrom_42 : decode cX0_copyFrom 42 = .ok (.getfield 36, 3) := by decide +kernel
theorem dX0_copyFrom_45 : decode cX0_copyFrom 45 = .ok (.putfield 36, 3) := by decide +kernel
theorem dX0_copyFrom_48 : decode cX0_copyFrom 48 = .ok (.aload_n 0, 1) := by decide +kernel
theorem dX0_copyFrom_49 : decode cX0_copyFrom 49 = .ok (.aload_n 1, 1) := by decide +kernel
theorem dX0_copyFrom_50 : decode cX0_copyFrom 50 = .ok (.getfield 39, 3) := by decide +kernel
theorem dX0_copyFrom_53 : decode cX0_copyFrom 53 = .ok (.putfield 39, 3) := by decide +kernel
theorem dX0_copyFrom_56 : decode cX0_copyFrom 56 = .ok (.return_, 1) := by decide +kernel
theorem dX0_dish_0 : decode cX0_dish 0 = .ok (.aload_n 0, 1) := by decide +kernel
theorem dX0_dish_1 : decode cX0_dish 1 = .ok (.getfield 21, 3) := by decide +kernel
theorem dX0_dish_4 : decode cX0_dish 4 = .ok (.aload_n 0, 1) := by decide +kernel
theorem dX0_dish_5 : decode cX0_dish 5 = .ok (.getfield 33, 3) := by decide +kernel
theorem dX0_dish_8 : decode cX0_dish 8 = .ok (.isub, 1) := by decide +kernel
theorem dX0_dish_9 : decode cX0_dish 9 = .ok (.ireturn, 1) := by decide +kernel
theorem dX0_reaches_0 : decode cX0_reaches 0 = .ok (.iload_n 1, 1) := by decide +kernel
theorem dX0_reaches_1 : decode cX0_reaches 1 = .ok (.aload_n 0, 1) := by decide +kernel
theorem dX0_reaches_2 : decode cX0_reaches 2 = .ok (.getfield 9, 3) := by decide +kernel
theorem dX0_reaches_5 : decode cX0_reaches 5 = .ok (.if_icmp .lt 15, 3) := by decide +kernel
theorem dX0_reaches_8 : decode cX0_reaches 8 = .ok (.iload_n 1, 1) := by decide +kernel
theorem dX0_reaches_9 : decode cX0_reaches 9 = .ok (.aload_n 0, 1) := by decide +kernel
theorem dX0_reaches_10 : decode cX0_reaches 10 = .ok (.getfield 15, 3) := by decide +kernel
theorem dX0_reaches_13 : decode cX0_reaches 13 = .ok (.if_icmp .gt 7, 3) := by decide +kernel
theorem dX0_reaches_16 : decode cX0_reaches 16 = .ok (.iconst 1, 1) := by decide +kernel
theorem dX0_reaches_17 : decode cX0_reaches 17 = .ok (.goto 4, 3) := by decide +kernel
theorem dX0_reaches_20 : decode cX0_reaches 20 = .ok (.iconst 0, 1) := by decide +kernel
theorem dX0_reaches_21 : decode cX0_reaches 21 = .ok (.ireturn, 1) := by decide +kernel
set_option maxRecDepth 20000 in
theorem ggX0_change_X0_tell : GoodIn wsX0_change wsX0_tell := goodIn_r _ [13, 1, 7, 8, 14, 2, 15, 16, 17, 18, 19, 20, 21, 12, 22, 23, 24, 25, 26, 27, 28, 29, 30, 31, 32] (by decide +kernel) (by decide +kernel)
set_option maxRecDepth 20000 in
theorem gX0_change_X0_tell : GoodIn wsX0_change (wsV RX0 42 RX0 yX0_tell wsX0_tell) := goodIn_app (goodIn_of _ (by decide +kernel)) ggX0_change_X0_tell
theorem dX0_change_0 : decode cX0_change 0 = .ok (.aload_n 0, 1) := by decide +kernel
theorem dX0_change_1 : decode cX0_change 1 = .ok (.iload_n 1, 1) := by decide +kernel
theorem dX0_change_2 : decode cX0_change 2 = .ok (.invokevirtual 42, 3) := by decide +kernel
theorem dX0_change_5 : decode cX0_change 5 = .ok (.istore_n 3, 1) := by decide +kernel
theorem dX0_change_6 : decode cX0_change 6 = .ok (.iload_n 1, 1) := by decide +kernel
theorem dX0_change_7 : decode cX0_change 7 = .ok (.tableswitch 64 0 2 #[25, 48, 56], 25) := by decide +kernel
theorem dX0_change_32 : decode cX0_change 32 = .ok (.aload_n 0, 1) := by decide +kernel
theorem dX0_change_33 : decode cX0_change 33 = .ok (.iload_n 2, 1) := by decide +kernel
theorem dX0_change_34 : decode cX0_change 34 = .ok (.putfield 24, 3) := by decide +kernel
theorem dX0_change_37 : decode cX0_change 37 = .ok (.aload_n 0, 1) := by decide +kernel
theorem dX0_change_38 : decode cX0_change 38 = .ok (.aload_n 0, 1) := by decide +kernel
theorem dX0_change_39 : decode cX0_change 39 = .ok (.getfield 33, 3) := by decide +kernel
theorem dX0_change_42 : decode cX0_change 42 = .ok (.aload_n 0, 1) := by decide +kernel
theorem dX0_change_43 : decode cX0_change 43 = .ok (.getfield 24, 3) := by decide +kernel
theorem dX0_change_46 : decode cX0_change 46 = .ok (.invokestatic 46, 3) := by decide +kernel
theorem dX0_change_49 : decode cX0_change 49 = .ok (.putfield 33, 3) := by decide +kernel
theorem dX0_change_52 : decode cX0_change 52 = .ok (.goto 19, 3) := by decide +kernel
theorem dX0_change_55 : decode cX0_change 55 = .ok (.aload_n 0, 1) := by decide +kernel
theorem dX0_change_56 : decode cX0_change 56 = .ok (.iload_n 2, 1) := by decide +kernel
theorem dX0_change_57 : decode cX0_change 57 = .ok (.putfield 30, 3) := by decide +kernel
theorem dX0_change_60 : decode cX0_change 60 = .ok (.goto 11, 3) := by decide +kernel
theorem dX0_change_63 : decode cX0_change 63 = .ok (.aload_n 0, 1) := by decide +kernel
theorem dX0_change_64 : decode cX0_change 64 = .ok (.iload_n 2, 1) := by decide +kernel
theorem dX0_change_65 : decode cX0_change 65 = .ok (.putfield 27, 3) := by decide +kernel
theorem dX0_change_68 : decode cX0_change 68 = .ok (.goto 3, 3) := by decide +kernel
theorem dX0_change_71 : decode cX0_change 71 = .ok (.iload_n 3, 1) := by decide +kernel
theorem dX0_change_72 : decode cX0_change 72 = .ok (.ireturn, 1) := by decide +kernel
theorem dX0_moveTo_0 : decode cX0_moveTo 0 = .ok (.iload_n 1, 1) := by decide +kernel
theorem dX0_moveTo_1 : decode cX0_moveTo 1 = .ok (.aload_n 0, 1) := by decide +kernel
theorem dX0_moveTo_2 : decode cX0_moveTo 2 = .ok (.getfield 21, 3) := by decide +kernel
theorem dX0_moveTo_5 : decode cX0_moveTo 5 = .ok (.isub, 1) := by decide +kernel
theorem dX0_moveTo_6 : decode cX0_moveTo 6 = .ok (.istore_n 2, 1) := by decide +kernel
theorem dX0_moveTo_7 : decode cX0_moveTo 7 = .ok (.aload_n 0, 1) := by decide +kernel
theorem dX0_moveTo_8 : decode cX0_moveTo 8 = .ok (.iload_n 1, 1) := by decide +kernel
theorem dX0_moveTo_9 : decode cX0_moveTo 9 = .ok (.putfield 21, 3) := by decide +kernel
theorem dX0_moveTo_12 : decode cX0_moveTo 12 = .ok (.iload_n 2, 1) := by decide +kernel
theorem dX0_moveTo_13 : decode cX0_moveTo 13 = .ok (.ifCond .lt 33, 3) := by decide +kernel
theorem dX0_moveTo_16 : decode cX0_moveTo 16 = .ok (.aload_n 0, 1) := by decide +kernel
theorem dX0_moveTo_17 : decode cX0_moveTo 17 = .ok (.dup, 1) := by decide +kernel
theorem dX0_moveTo_18 : decode cX0_moveTo 18 = .ok (.getfield 36, 3) := by decide +kernel
theorem dX0_moveTo_21 : decode cX0_moveTo 21 = .ok (.iload_n 2, 1) := by decide +kernel
theorem dX0_moveTo_22 : decode cX0_moveTo 22 = .ok (.iadd, 1) := by decide +kernel
theorem dX0_moveTo_23 : decode cX0_moveTo 23 = .ok (.putfield 36, 3) := by decide +kernel
theorem dX0_moveTo_26 : decode cX0_moveTo 26 = .ok (.aload_n 0, 1) := by decide +kernel
theorem dX0_moveTo_27 : decode cX0_moveTo 27 = .ok (.aload_n 0, 1) := by decide +kernel
theorem dX0_moveTo_28 : decode cX0_moveTo 28 = .ok (.getfield 33, 3) := by decide +kernel
theorem dX0_moveTo_31 : decode cX0_moveTo 31 = .ok (.iload_n 2, 1) := by decide +kernel
theorem dX0_moveTo_32 : decode cX0_moveTo 32 = .ok (.iadd, 1) := by decide +kernel
theorem dX0_moveTo_33 : decode cX0_moveTo 33 = .ok (.aload_n 0, 1) := by decide +kernel
theorem dX0_moveTo_34 : decode cX0_moveTo 34 = .ok (.getfield 24, 3) := by decide +kernel
theorem dX0_moveTo_37 : decode cX0_moveTo 37 = .ok (.invokestatic 46, 3) := by decide +kernel
theorem dX0_moveTo_40 : decode cX0_moveTo 40 = .ok (.putfield 33, 3) := by decide +kernel
theorem dX0_moveTo_43 : decode cX0_moveTo 43 = .ok (.goto 27, 3) := by decide +kernel
theorem dX0_moveTo_46 : decode cX0_moveTo 46 = .ok (.aload_n 0, 1) := by decide +kernel
theorem dX0_moveTo_47 : decode cX0_moveTo 47 = .ok (.dup, 1) := by decide +kernel
theorem dX0_moveTo_48 : decode cX0_moveTo 48 = .ok (.getfield 39, 3) := by decide +kernel
theorem dX0_moveTo_51 : decode cX0_moveTo 51 = .ok (.iload_n 2, 1) := by decide +kernel
theorem dX0_moveTo_52 : decode cX0_moveTo 52 = .ok (.isub, 1) := by decide +kernel
theorem dX0_moveTo_53 : decode cX0_moveTo 53 = .ok (.putfield 39, 3) := by decide +kernel
theorem dX0_moveTo_56 : decode cX0_moveTo 56 = .ok (.aload_n 0, 1) := by decide +kernel
theorem dX0_moveTo_57 : decode cX0_moveTo 57 = .ok (.aload_n 0, 1) := by decide +kernel
theorem dX0_moveTo_58 : decode cX0_moveTo 58 = .ok (.getfield 33, 3) := by decide +kernel
theorem dX0_moveTo_61 : decode cX0_moveTo 61 = .ok (.iload_n 2, 1) := by decide +kernel
theorem dX0_moveTo_62 : decode cX0_moveTo 62 = .ok (.iadd, 1) := by decide +kernel
theorem dX0_moveTo_63 : decode cX0_moveTo 63 = .ok (.iconst 0, 1) := by decide +kernel
theorem dX0_moveTo_64 : decode cX0_moveTo 64 = .ok (.invokestatic 52, 3) := by decide +kernel
theorem dX0_moveTo_67 : decode cX0_moveTo 67 = .ok (.putfield 33, 3) := by decide +kernel
theorem dX0_moveTo_70 : decode cX0_moveTo 70 = .ok (.return_, 1) := by decide +kernel
set_option maxRecDepth 20000 in
theorem ggX0_follow_X0_moveTo : GoodIn wsX0_follow wsX0_moveTo := goodIn_r _ [7, 8, 9, 10, 11, 12, 13, 14, 15, 16, 17, 18, 19, 27, 28, 29, 30, 31, 32, 33, 34, 35, 36] (by decide +kernel) (by decide +kernel)
set_option maxRecDepth 20000 in
theorem gX0_follow_X0_moveTo : GoodIn wsX0_follow (wsV RX0 60 RX0 yX0_moveTo wsX0_moveTo) := goodIn_app (goodIn_of _ (by decide +kernel)) ggX0_follow_X0_moveTo
theorem dX0_follow_0 : decode cX0_follow 0 = .ok (.aload_n 0, 1) := by decide +kernel
theorem dX0_follow_1 : decode cX0_follow 1 = .ok (.aload_n 1, 1) := by decide +kernel
theorem dX0_follow_2 : decode cX0_follow 2 = .ok (.getfield 55, 3) := by decide +kernel
theorem dX0_follow_5 : decode cX0_follow 5 = .ok (.invokevirtual 60, 3) := by decide +kernel
theorem dX0_follow_8 : decode cX0_follow 8 = .ok (.aload_n 0, 1) := by decide +kernel
theorem dX0_follow_9 : decode cX0_follow 9 = .ok (.aload_n 1, 1) := by decide +kernel
theorem dX0_follow_10 : decode cX0_follow 10 = .ok (.getfield 64, 3) := by decide +kernel
theorem dX0_follow_13 : decode cX0_follow 13 = .ok (.invokevirtual 60, 3) := by decide +kernel
theorem dX0_follow_16 : decode cX0_follow 16 = .ok (.return_, 1) := by decide +kernel
set_option maxRecDepth 20000 in
theorem ggX0_tell_X0_dish : GoodIn wsX0_tell wsX0_dish := goodIn_r _ [14, 4, 5, 15, 16, 17, 18, 19, 20, 21, 22, 23, 24] (by decide +kernel) (by decide +kernel)
set_option maxRecDepth 20000 in
theorem gX0_tell_X0_dish : GoodIn wsX0_tell (wsV RX0 67 RX0 yX0_dish wsX0_dish) := goodIn_app (goodIn_of _ (by decide +kernel)) ggX0_tell_X0_dish
theorem dX0_tell_0 : decode cX0_tell 0 = .ok (.iload_n 1, 1) := by decide +kernel
theorem dX0_tell_1 : decode cX0_tell 1 = .ok (.tableswitch 106 0 8 #[51, 56, 61, 66, 71, 76, 81, 86, 91], 51) := by decide +kernel
theorem dX0_tell_52 : decode cX0_tell 52 = .ok (.aload_n 0, 1) := by decide +kernel
theorem dX0_tell_53 : decode cX0_tell 53 = .ok (.getfield 24, 3) := by decide +kernel
theorem dX0_tell_56 : decode cX0_tell 56 = .ok (.ireturn, 1) := by decide +kernel
theorem dX0_tell_57 : decode cX0_tell 57 = .ok (.aload_n 0, 1) := by decide +kernel
theorem dX0_tell_58 : decode cX0_tell 58 = .ok (.getfield 30, 3) := by decide +kernel
theorem dX0_tell_61 : decode cX0_tell 61 = .ok (.ireturn, 1) := by decide +kernel
theorem dX0_tell_62 : decode cX0_tell 62 = .ok (.aload_n 0, 1) := by decide +kernel
theorem dX0_tell_63 : decode cX0_tell 63 = .ok (.getfield 27, 3) := by decide +kernel
theorem dX0_tell_66 : decode cX0_tell 66 = .ok (.ireturn, 1) := by decide +kernel
theorem dX0_tell_67 : decode cX0_tell 67 = .ok (.aload_n 0, 1) := by decide +kernel
theorem dX0_tell_68 : decode cX0_tell 68 = .ok (.getfield 21, 3) := by decide +kernel
theorem dX0_tell_71 : decode cX0_tell 71 = .ok (.ireturn, 1) := by decide +kernel
theorem dX0_tell_72 : decode cX0_tell 72 = .ok (.aload_n 0, 1) := by decide +kernel
theorem dX0_tell_73 : decode cX0_tell 73 = .ok (.getfield 33, 3) := by decide +kernel
theorem dX0_tell_76 : decode cX0_tell 76 = .ok (.ireturn, 1) := by decide +kernel
theorem dX0_tell_77 : decode cX0_tell 77 = .ok (.aload_n 0, 1) := by decide +kernel
theorem dX0_tell_78 : decode cX0_tell 78 = .ok (.invokevirtual 67, 3) := by decide +kernel
theorem dX0_tell_81 : decode cX0_tell 81 = .ok (.ireturn, 1) := by decide +kernel
theorem dX0_tell_82 : decode cX0_tell 82 = .ok (.aload_n 0, 1) := by decide +kernel
theorem dX0_tell_83 : decode cX0_tell 83 = .ok (.getfield 36, 3) := by decide +kernel
theorem dX0_tell_86 : decode cX0_tell 86 = .ok (.ireturn, 1) := by decide +kernel
theorem dX0_tell_87 : decode cX0_tell 87 = .ok (.aload_n 0, 1) := by decide +kernel
theorem dX0_tell_88 : decode cX0_tell 88 = .ok (.getfield 39, 3) := by decide +kernel
theorem dX0_tell_91 : decode cX0_tell 91 = .ok (.ireturn, 1) := by decide +kernel
theorem dX0_tell_92 : decode cX0_tell 92 = .ok (.aload_n 0, 1) := by decide +kernel
theorem dX0_tell_93 : decode cX0_tell 93 = .ok (.getfield 18, 3) := by decide +kernel
theorem dX0_tell_96 : decode cX0_tell 96 = .ok (.aload_n 0, 1) := by decide +kernel
theorem dX0_tell_97 : decode cX0_tell 97 = .ok (.getfield 36, 3) := by decide +kernel
theorem dX0_tell_100 : decode cX0_tell 100 = .ok (.iadd, 1) := by decide +kernel
theorem dX0_tell_101 : decode cX0_tell 101 = .ok (.aload_n 0, 1) := by decide +kernel
theorem dX0_tell_102 : decode cX0_tell 102 = .ok (.getfield 39, 3) := by decide +kernel
theorem dX0_tell_105 : decode cX0_tell 105 = .ok (.isub, 1) := by decide +kernel
theorem dX0_tell_106 : decode cX0_tell 106 = .ok (.ireturn, 1) := by decide +kernel
theorem dX0_tell_107 : decode cX0_tell 107 = .ok (.ldc 71, 2) := by decide +kernel
theorem dX0_tell_109 : decode cX0_tell 109 = .ok (.ireturn, 1) := by decide +kernel
set_option maxRecDepth 20000 in
theorem ggX1_init_X2_init : GoodIn wsX1_init wsX2_init := goodIn_r _ [10, 11, 2, 3, 12, 13, 14, 15, 16, 17, 18, 19, 20, 21, 22, 23, 24, 25, 26, 27, 28, 29, 30, 31, 32, 33, 34, 35, 36, 37, 38, 39, 40, 41, 42, 43, 44, 45, 46, 49, 50, 51, 52, 53, 54, 55, 56, 57, 58, 59, 60, 61, 62, 63, 64, 65, 66, 67, 68, 69, 70, 71, 72, 73, 74, 75, 76, 77, 78, 79, 80, 81, 82, 83, 84, 85, 86, 87, 88, 89, 90] (by decide +kernel) (by decide +kernel)
set_option maxRecDepth 20000 in
theorem gX1_init_X2_init : GoodIn wsX1_init (wsX2_init) := ggX1_init_X2_init
theorem dX1_init_0 : decode cX1_init 0 = .ok (.aload_n 0, 1) := by decide +kernel
theorem dX1_init_1 : decode cX1_init 1 = .ok (.invokespecial 3, 3) := by decide +kernel
theorem dX1_init_4 : decode cX1_init 4 = .ok (.aload_n 0, 1) := by decide +kernel
theorem dX1_init_5 : decode cX1_init 5 = .ok (.iconst 5, 1) := by decide +kernel
theorem dX1_init_6 : decode cX1_init 6 = .ok (.anewarray 9, 3) := by decide +kernel
theorem dX1_init_9 : decode cX1_init 9 = .ok (.putfield 11, 3) := by decide +kernel
theorem dX1_init_12 : decode cX1_init 12 = .ok (.iconst 0, 1) := by decide +kernel
theorem dX1_init_13 : decode cX1_init 13 = .ok (.istore_n 1, 1) := by decide +kernel
theorem dX1_init_14 : decode cX1_init 14 = .ok (.iload_n 1, 1) := by decide +kernel
theorem dX1_init_15 : decode cX1_init 15 = .ok (.aload_n 0, 1) := by decide +kernel
theorem dX1_init_16 : decode cX1_init 16 = .ok (.getfield 11, 3) := by decide +kernel
theorem dX1_init_19 : decode cX1_init 19 = .ok (.arraylength, 1) := by decide +kernel
theorem dX1_init_20 : decode cX1_init 20 = .ok (.if_icmp .ge 22, 3) := by decide +kernel
theorem dX1_init_23 : decode cX1_init 23 = .ok (.aload_n 0, 1) := by decide +kernel
theorem dX1_init_24 : decode cX1_init 24 = .ok (.getfield 11, 3) := by decide +kernel
theorem dX1_init_27 : decode cX1_init 27 = .ok (.iload_n 1, 1) := by decide +kernel
theorem dX1_init_28 : decode cX1_init 28 = .ok (.new 9, 3) := by decide +kernel
theorem dX1_init_31 : decode cX1_init 31 = .ok (.dup, 1) := by decide +kernel
theorem dX1_init_32 : decode cX1_init 32 = .ok (.invokespecial 17, 3) := by decide +kernel
theorem dX1_init_35 : decode cX1_init 35 = .ok (.aastore, 1) := by decide +kernel
theorem dX1_init_36 : decode cX1_init 36 = .ok (.iinc 1 1, 3) := by decide +kernel
theorem dX1_init_39 : decode cX1_init 39 = .ok (.goto (-25), 3) := by decide +kernel
theorem dX1_init_42 : decode cX1_init 42 = .ok (.return_, 1) := by decide +kernel
set_option maxRecDepth 20000 in
theorem ggX1_record_X1_dropOldest : GoodIn wsX1_record wsX1_dropOldest := goodIn_r _ [7, 2, 1, 56, 57] (by decide +kernel) (by decide +kernel)
set_option maxRecDepth 20000 in
theorem gX1_record_X1_dropOldest : GoodIn wsX1_record (wsV RX1 22 RX1 yX1_dropOldest wsX1_dropOldest) := goodIn_app (goodIn_of _ (by decide +kernel)) ggX1_record_X1_dropOldest
set_option maxRecDepth 20000 in
theorem ggX1_record_X2_copyFrom : GoodIn wsX1_record wsX2_copyFrom := goodIn_r _ [12, 13, 14, 15, 16, 17, 18, 19, 20, 21, 22, 23, 24, 25, 26, 27, 28, 29, 30, 31, 32, 33, 34, 35, 36, 37, 38, 39, 40, 41, 42, 43, 44, 45, 46, 47, 48, 49, 50, 51, 52, 53, 54, 55, 58, 59, 60, 61, 62, 63, 64, 65, 66, 67, 68, 69, 70, 71, 72, 73, 74, 75, 76, 77, 78, 79, 80, 81, 82, 83, 84, 85, 86, 87, 88, 89, 90, 91, 92] (by decide +kernel) (by decide +kernel)
set_option maxRecDepth 20000 in
theorem gX1_record_X2_copyFrom : GoodIn wsX1_record (wsV RX1 25 RX2 yX2_copyFrom wsX2_copyFrom) := goodIn_app (goodIn_of _ (by decide +kernel)) ggX1_record_X2_copyFrom
theorem dX1_record_0 : decode cX1_record 0 = .ok (.aload_n 0, 1) := by decide +kernel
theorem dX1_record_1 : decode cX1_record 1 = .ok (.getfield 18, 3) := by decide +kernel
theorem dX1_record_4 : decode cX1_record 4 = .ok (.aload_n 0, 1) := by decide +kernel
theorem dX1_record_5 : decode cX1_record 5 = .ok (.getfield 11, 3) := by decide +kernel
theorem dX1_record_8 : decode cX1_record 8 = .ok (.arraylength, 1) := by decide +kernel
theorem dX1_record_9 : decode cX1_record 9 = .ok (.if_icmp .lt 7, 3) := by decide +kernel
theorem dX1_record_12 : decode cX1_record 12 = .ok (.aload_n 0, 1) := by decide +kernel
theorem dX1_record_13 : decode cX1_record 13 = .ok (.invokevirtual 22, 3) := by decide +kernel
theorem dX1_record_16 : decode cX1_record 16 = .ok (.aload_n 0, 1) := by decide +kernel
theorem dX1_record_17 : decode cX1_record 17 = .ok (.getfield 11, 3) := by decide +kernel
theorem dX1_record_20 : decode cX1_record 20 = .ok (.aload_n 0, 1) := by decide +kernel
theorem dX1_record_21 : decode cX1_record 21 = .ok (.getfield 18, 3) := by decide +kernel
theorem dX1_record_24 : decode cX1_record 24 = .ok (.aaload, 1) := by decide +kernel
theorem dX1_record_25 : decode cX1_record 25 = .ok (.aload_n 1, 1) := by decide +kernel
theorem dX1_record_26 : decode cX1_record 26 = .ok (.invokevirtual 25, 3) := by decide +kernel
theorem dX1_record_29 : decode cX1_record 29 = .ok (.aload_n 0, 1) := by decide +kernel
theorem dX1_record_30 : decode cX1_record 30 = .ok (.dup, 1) := by decide +kernel
theorem dX1_record_31 : decode cX1_record 31 = .ok (.getfield 18, 3) := by decide +kernel
theorem dX1_record_34 : decode cX1_record 34 = .ok (.iconst 1, 1) := by decide +kernel
theorem dX1_record_35 : decode cX1_record 35 = .ok (.iadd, 1) := by decide +kernel
theorem dX1_record_36 : decode cX1_record 36 = .ok (.putfield 18, 3) := by decide +kernel
theorem dX1_record_39 : decode cX1_record 39 = .ok (.return_, 1) := by decide +kernel
theorem dX1_dropOldest_0 : decode cX1_dropOldest 0 = .ok (.aload_n 0, 1) := by decide +kernel
theorem dX1_dropOldest_1 : decode cX1_dropOldest 1 = .ok (.getfield 11, 3) := by decide +kernel
theorem dX1_dropOldest_4 : decode cX1_dropOldest 4 = .ok (.iconst 0, 1) := by decide +kernel
theorem dX1_dropOldest_5 : decode cX1_dropOldest 5 = .ok (.aaload, 1) := by decide +kernel
theorem dX1_dropOldest_6 : decode cX1_dropOldest 6 = .ok (.astore_n 1, 1) := by decide +kernel
theorem dX1_dropOldest_7 : decode cX1_dropOldest 7 = .ok (.iconst 0, 1) := by decide +kernel
theorem dX1_dropOldest_8 : decode cX1_dropOldest 8 = .ok (.istore_n 2, 1) := by decide +kernel
theorem dX1_dropOldest_9 : decode cX1_dropOldest 9 = .ok (.iload_n 2, 1) := by decide +kernel
theorem dX1_dropOldest_10 : decode cX1_dropOldest 10 = .ok (.aload_n 0, 1) := by decide +kernel
theorem dX1_dropOldest_11 : decode cX1_dropOldest 11 = .ok (.getfield 11, 3) := by decide +kernel
theorem dX1_dropOldest_14 : decode cX1_dropOldest 14 = .ok (.arraylength, 1) := by decide +kernel
theorem dX1_dropOldest_15 : decode cX1_dropOldest 15 = .ok (.iconst 1, 1) := by decide +kernel
theorem dX1_dropOldest_16 : decode cX1_dropOldest 16 = .ok (.isub, 1) := by decide +kernel
theorem dX1_dropOldest_17 : decode cX1_dropOldest 17 = .ok (.if_icmp .ge 23, 3) := by decide +kernel
theorem dX1_dropOldest_20 : decode cX1_dropOldest 20 = .ok (.aload_n 0, 1) := by decide +kernel
theorem dX1_dropOldest_21 : decode cX1_dropOldest 21 = .ok (.getfield 11, 3) := by decide +kernel
theorem dX1_dropOldest_24 : decode cX1_dropOldest 24 = .ok (.iload_n 2, 1) := by decide +kernel
theorem dX1_dropOldest_25 : decode cX1_dropOldest 25 = .ok (.aload_n 0, 1) := by decide +kernel
theorem dX1_dropOldest_26 : decode cX1_dropOldest 26 = .ok (.getfield 11, 3) := by decide +kernel
theorem dX1_dropOldest_29 : decode cX1_dropOldest 29 = .ok (.iload_n 2, 1) := by decide +kernel
theorem dX1_dropOldest_30 : decode cX1_dropOldest 30 = .ok (.iconst 1, 1) := by decide +kernel
theorem dX1_dropOldest_31 : decode cX1_dropOldest 31 = .ok (.iadd, 1) := by decide +kernel
theorem dX1_dropOldest_32 : decode cX1_dropOldest 32 = .ok (.aaload, 1) := by decide +kernel
theorem dX1_dropOldest_33 : decode cX1_dropOldest 33 = .ok (.aastore, 1) := by decide +kernel
theorem dX1_dropOldest_34 : decode cX1_dropOldest 34 = .ok (.iinc 2 1, 3) := by decide +kernel
theorem dX1_dropOldest_37 : decode cX1_dropOldest 37 = .ok (.goto (-28), 3) := by decide +kernel
theorem dX1_dropOldest_40 : decode cX1_dropOldest 40 = .ok (.aload_n 0, 1) := by decide +kernel
theorem dX1_dropOldest_41 : decode cX1_dropOldest 41 = .ok (.getfield 11, 3) := by decide +kernel
theorem dX1_dropOldest_44 : decode cX1_dropOldest 44 = .ok (.aload_n 0, 1) := by decide +kernel
theorem dX1_dropOldest_45 : decode cX1_dropOldest 45 = .ok (.getfield 11, 3) := by decide +kernel
theorem dX1_dropOldest_48 : decode cX1_dropOldest 48 = .ok (.arraylength, 1) := by decide +kernel
theorem dX1_dropOldest_49 : decode cX1_dropOldest 49 = .ok (.iconst 1, 1) := by decide +kernel
theorem dX1_dropOldest_50 : decode cX1_dropOldest 50 = .ok (.isub, 1) := by decide +kernel
theorem dX1_dropOldest_51 : decode cX1_dropOldest 51 = .ok (.aload_n 1, 1) := by decide +kernel
theorem dX1_dropOldest_52 : decode cX1_dropOldest 52 = .ok (.aastore, 1) := by decide +kernel
theorem dX1_dropOldest_53 : decode cX1_dropOldest 53 = .ok (.aload_n 0, 1) := by decide +kernel
theorem dX1_dropOldest_54 : decode cX1_dropOldest 54 = .ok (.aload_n 0, 1) := by decide +kernel
theorem dX1_dropOldest_55 : decode cX1_dropOldest 55 = .ok (.getfield 11, 3) := by decide +kernel
theorem dX1_dropOldest_58 : decode cX1_dropOldest 58 = .ok (.arraylength, 1) := by decide +kernel
theorem dX1_dropOldest_59 : decode cX1_dropOldest 59 = .ok (.iconst 1, 1) := by decide +kernel
theorem dX1_dropOldest_60 : decode cX1_dropOldest 60 = .ok (.isub, 1) := by decide +kernel
theorem dX1_dropOldest_61 : decode cX1_dropOldest 61 = .ok (.putfield 18, 3) := by decide +kernel
theorem dX1_dropOldest_64 : decode cX1_dropOldest 64 = .ok (.return_, 1) := by decide +kernel
set_option maxRecDepth 20000 in
theorem ggX1_restoreLatest_X2_copyFrom : GoodIn wsX1_restoreLatest wsX2_copyFrom := goodIn_r _ [7, 8, 9, 10, 11, 12, 13, 14, 15, 16, 17, 18, 19, 20, 21, 22, 23, 24, 25, 26, 27, 28, 29, 30, 31, 32, 33, 34, 35, 36, 37, 38, 39, 40, 41, 42, 43, 44, 45, 46, 47, 48, 49, 50, 53, 54, 55, 56, 57, 58, 59, 60, 61, 62, 63, 64, 65, 66, 67, 68, 69, 70, 71, 72, 73, 74, 75, 76, 77, 78, 79, 80, 81, 82, 83, 84, 85, 86, 87] (by decide +kernel) (by decide +kernel)
set_option maxRecDepth 20000 in
theorem gX1_restoreLatest_X2_copyFrom : GoodIn wsX1_restoreLatest (wsV RX1 25 RX2 yX2_copyFrom wsX2_copyFrom) := goodIn_app (goodIn_of _ (by decide +kernel)) ggX1_restoreLatest_X2_copyFrom
theorem dX1_restoreLatest_0 : decode cX1_restoreLatest 0 = .ok (.aload_n 0, 1) := by decide +kernel
theorem dX1_restoreLatest_1 : decode cX1_restoreLatest 1 = .ok (.getfield 18, 3) := by decide +kernel
theorem dX1_restoreLatest_4 : decode cX1_restoreLatest 4 = .ok (.iconst 1, 1) := by decide +kernel
theorem dX1_restoreLatest_5 : decode cX1_restoreLatest 5 = .ok (.if_icmp .lt 38, 3) := by decide +kernel
theorem dX1_restoreLatest_8 : decode cX1_restoreLatest 8 = .ok (.aload_n 0, 1) := by decide +kernel
theorem dX1_restoreLatest_9 : decode cX1_restoreLatest 9 = .ok (.getfield 18, 3) := by decide +kernel
theorem dX1_restoreLatest_12 : decode cX1_restoreLatest 12 = .ok (.aload_n 0, 1) := by decide +kernel
theorem dX1_restoreLatest_13 : decode cX1_restoreLatest 13 = .ok (.getfield 11, 3) := by decide +kernel
theorem dX1_restoreLatest_16 : decode cX1_restoreLatest 16 = .ok (.arraylength, 1) := by decide +kernel
theorem dX1_restoreLatest_17 : decode cX1_restoreLatest 17 = .ok (.if_icmp .gt 26, 3) := by decide +kernel
theorem dX1_restoreLatest_20 : decode cX1_restoreLatest 20 = .ok (.aload_n 0, 1) := by decide +kernel
theorem dX1_restoreLatest_21 : decode cX1_restoreLatest 21 = .ok (.dup, 1) := by decide +kernel
theorem dX1_restoreLatest_22 : decode cX1_restoreLatest 22 = .ok (.getfield 18, 3) := by decide +kernel
theorem dX1_restoreLatest_25 : decode cX1_restoreLatest 25 = .ok (.iconst 1, 1) := by decide +kernel
theorem dX1_restoreLatest_26 : decode cX1_restoreLatest 26 = .ok (.isub, 1) := by decide +kernel
theorem dX1_restoreLatest_27 : decode cX1_restoreLatest 27 = .ok (.putfield 18, 3) := by decide +kernel
theorem dX1_restoreLatest_30 : decode cX1_restoreLatest 30 = .ok (.aload_n 1, 1) := by decide +kernel
theorem dX1_restoreLatest_31 : decode cX1_restoreLatest 31 = .ok (.aload_n 0, 1) := by decide +kernel
theorem dX1_restoreLatest_32 : decode cX1_restoreLatest 32 = .ok (.getfield 11, 3) := by decide +kernel
theorem dX1_restoreLatest_35 : decode cX1_restoreLatest 35 = .ok (.aload_n 0, 1) := by decide +kernel
theorem dX1_restoreLatest_36 : decode cX1_restoreLatest 36 = .ok (.getfield 18, 3) := by decide +kernel
theorem dX1_restoreLatest_39 : decode cX1_restoreLatest 39 = .ok (.aaload, 1) := by decide +kernel
theorem dX1_restoreLatest_40 : decode cX1_restoreLatest 40 = .ok (.invokevirtual 25, 3) := by decide +kernel
theorem dX1_restoreLatest_43 : decode cX1_restoreLatest 43 = .ok (.return_, 1) := by decide +kernel
set_option maxRecDepth 20000 in
theorem ggX2_init_X0_init : GoodIn wsX2_init wsX0_init := goodIn_r _ [24, 25, 2, 3, 26, 27, 28, 29, 30, 31, 50, 51, 52, 53, 54, 55, 56, 57, 58, 59] (by decide +kernel) (by decide +kernel)
set_option maxRecDepth 20000 in
theorem gX2_init_X0_init : GoodIn wsX2_init (wsX0_init) := ggX2_init_X0_init
set_option maxRecDepth 20000 in
theorem ggX2_init_X5_init : GoodIn wsX2_init wsX5_init := goodIn_r _ [33, 34, 2, 3] (by decide +kernel) (by decide +kernel)
set_option maxRecDepth 20000 in
theorem gX2_init_X5_init_n38 : GoodIn wsX2_init (wsX5_init) := ggX2_init_X5_init
set_option maxRecDepth 20000 in
theorem ggX2_init_X3_init : GoodIn wsX2_init wsX3_init := goodIn_r _ [36, 37, 2, 3, 38, 67, 68, 69, 70, 71, 72, 73, 74, 75, 76, 77, 78, 79, 80] (by decide +kernel) (by decide +kernel)
set_option maxRecDepth 20000 in
theorem gX2_init_X3_init_n49 : GoodIn wsX2_init (wsX3_init) := ggX2_init_X3_init
theorem dX2_init_0 : decode cX2_init 0 = .ok (.aload_n 0, 1) := by decide +kernel
theorem dX2_init_1 : decode cX2_init 1 = .ok (.invokespecial 3, 3) := by decide +kernel
theorem dX2_init_4 : decode cX2_init 4 = .ok (.aload_n 0, 1) := by decide +kernel
theorem dX2_init_5 : decode cX2_init 5 = .ok (.iconst 4, 1) := by decide +kernel
theorem dX2_init_6 : decode cX2_init 6 = .ok (.newarray .int, 2) := by decide +kernel
theorem dX2_init_8 : decode cX2_init 8 = .ok (.dup, 1) := by decide +kernel
theorem dX2_init_9 : decode cX2_init 9 = .ok (.iconst 0, 1) := by decide +kernel
theorem dX2_init_10 : decode cX2_init 10 = .ok (.bipush 100, 2) := by decide +kernel
theorem dX2_init_12 : decode cX2_init 12 = .ok (.iastore, 1) := by decide +kernel
theorem dX2_init_13 : decode cX2_init 13 = .ok (.dup, 1) := by decide +kernel
theorem dX2_init_14 : decode cX2_init 14 = .ok (.iconst 1, 1) := by decide +kernel
theorem dX2_init_15 : decode cX2_init 15 = .ok (.sipush 18000, 3) := by decide +kernel
theorem dX2_init_18 : decode cX2_init 18 = .ok (.iastore, 1) := by decide +kernel
theorem dX2_init_19 : decode cX2_init 19 = .ok (.dup, 1) := by decide +kernel
theorem dX2_init_20 : decode cX2_init 20 = .ok (.iconst 2, 1) := by decide +kernel
theorem dX2_init_21 : decode cX2_init 21 = .ok (.bipush 30, 2) := by decide +kernel
theorem dX2_init_23 : decode cX2_init 23 = .ok (.iastore, 1) := by decide +kernel
theorem dX2_init_24 : decode cX2_init 24 = .ok (.dup, 1) := by decide +kernel
theorem dX2_init_25 : decode cX2_init 25 = .ok (.iconst 3, 1) := by decide +kernel
theorem dX2_init_26 : decode cX2_init 26 = .ok (.bipush 60, 2) := by decide +kernel
theorem dX2_init_28 : decode cX2_init 28 = .ok (.iastore, 1) := by decide +kernel
theorem dX2_init_29 : decode cX2_init 29 = .ok (.putfield 9, 3) := by decide +kernel
theorem dX2_init_32 : decode cX2_init 32 = .ok (.aload_n 0, 1) := by decide +kernel
theorem dX2_init_33 : decode cX2_init 33 = .ok (.bipush 31, 2) := by decide +kernel
theorem dX2_init_35 : decode cX2_init 35 = .ok (.newarray .int, 2) := by decide +kernel
theorem dX2_init_37 : decode cX2_init 37 = .ok (.putfield 15, 3) := by decide +kernel
theorem dX2_init_40 : decode cX2_init 40 = .ok (.aload_n 0, 1) := by decide +kernel
theorem dX2_init_41 : decode cX2_init 41 = .ok (.new 18, 3) := by decide +kernel
theorem dX2_init_44 : decode cX2_init 44 = .ok (.dup, 1) := by decide +kernel
theorem dX2_init_45 : decode cX2_init 45 = .ok (.sipush (-27000), 3) := by decide +kernel
theorem dX2_init_48 : decode cX2_init 48 = .ok (.sipush 27000, 3) := by decide +kernel
theorem dX2_init_51 : decode cX2_init 51 = .ok (.iconst 0, 1) := by decide +kernel
theorem dX2_init_52 : decode cX2_init 52 = .ok (.bipush 40, 2) := by decide +kernel
theorem dX2_init_54 : decode cX2_init 54 = .ok (.sipush 600, 3) := by decide +kernel
theorem dX2_init_57 : decode cX2_init 57 = .ok (.invokespecial 20, 3) := by decide +kernel
theorem dX2_init_60 : decode cX2_init 60 = .ok (.putfield 23, 3) := by decide +kernel
theorem dX2_init_63 : decode cX2_init 63 = .ok (.aload_n 0, 1) := by decide +kernel
theorem dX2_init_64 : decode cX2_init 64 = .ok (.new 18, 3) := by decide +kernel
theorem dX2_init_67 : decode cX2_init 67 = .ok (.dup, 1) := by decide +kernel
theorem dX2_init_68 : decode cX2_init 68 = .ok (.sipush 500, 3) := by decide +kernel
theorem dX2_init_71 : decode cX2_init 71 = .ok (.sipush 9000, 3) := by decide +kernel
theorem dX2_init_74 : decode cX2_init 74 = .ok (.sipush 9000, 3) := by decide +kernel
theorem dX2_init_77 : decode cX2_init 77 = .ok (.bipush 20, 2) := by decide +kernel
theorem dX2_init_79 : decode cX2_init 79 = .ok (.sipush 300, 3) := by decide +kernel
theorem dX2_init_82 : decode cX2_init 82 = .ok (.invokespecial 20, 3) := by decide +kernel
theorem dX2_init_85 : decode cX2_init 85 = .ok (.putfield 27, 3) := by decide +kernel
theorem dX2_init_88 : decode cX2_init 88 = .ok (.aload_n 0, 1) := by decide +kernel
theorem dX2_init_89 : decode cX2_init 89 = .ok (.bipush 10, 2) := by decide +kernel
theorem dX2_init_91 : decode cX2_init 91 = .ok (.anewarray 30, 3) := by decide +kernel
theorem dX2_init_94 : decode cX2_init 94 = .ok (.putfield 32, 3) := by decide +kernel
theorem dX2_init_97 : decode cX2_init 97 = .ok (.aload_n 0, 1) := by decide +kernel
theorem dX2_init_98 : decode cX2_init 98 = .ok (.new 36, 3) := by decide +kernel
theorem dX2_init_101 : decode cX2_init 101 = .ok (.dup, 1) := by decide +kernel
theorem dX2_init_102 : decode cX2_init 102 = .ok (.invokespecial 38, 3) := by decide +kernel
theorem dX2_init_105 : decode cX2_init 105 = .ok (.putfield 39, 3) := by decide +kernel
theorem dX2_init_108 : decode cX2_init 108 = .ok (.aload_n 0, 1) := by decide +kernel
theorem dX2_init_109 : decode cX2_init 109 = .ok (.new 36, 3) := by decide +kernel
theorem dX2_init_112 : decode cX2_init 112 = .ok (.dup, 1) := by decide +kernel
theorem dX2_init_113 : decode cX2_init 113 = .ok (.invokespecial 38, 3) := by decide +kernel
theorem dX2_init_116 : decode cX2_init 116 = .ok (.putfield 43, 3) := by decide +kernel
theorem dX2_init_119 : decode cX2_init 119 = .ok (.aload_n 0, 1) := by decide +kernel
theorem dX2_init_120 : decode cX2_init 120 = .ok (.new 36, 3) := by decide +kernel
theorem dX2_init_123 : decode cX2_init 123 = .ok (.dup, 1) := by decide +kernel
theorem dX2_init_124 : decode cX2_init 124 = .ok (.invokespecial 38, 3) := by decide +kernel
theorem dX2_init_127 : decode cX2_init 127 = .ok (.putfield 46, 3) := by decide +kernel
theorem dX2_init_130 : decode cX2_init 130 = .ok (.iconst 0, 1) := by decide +kernel
theorem dX2_init_131 : decode cX2_init 131 = .ok (.istore_n 1, 1) := by decide +kernel
theorem dX2_init_132 : decode cX2_init 132 = .ok (.iload_n 1, 1) := by decide +kernel
theorem dX2_init_133 : decode cX2_init 133 = .ok (.aload_n 0, 1) := by decide +kernel
theorem dX2_init_134 : decode cX2_init 134 = .ok (.getfield 32, 3) := by decide +kernel
theorem dX2_init_137 : decode cX2_init 137 = .ok (.arraylength, 1) := by decide +kernel
theorem dX2_init_138 : decode cX2_init 138 = .ok (.if_icmp .ge 22, 3) := by decide +kernel
theorem dX2_init_141 : decode cX2_init 141 = .ok (.aload_n 0, 1) := by decide +kernel
theorem dX2_init_142 : decode cX2_init 142 = .ok (.getfield 32, 3) := by decide +kernel
theorem dX2_init_145 : decode cX2_init 145 = .ok (.iload_n 1, 1) := by decide +kernel
theorem dX2_init_146 : decode cX2_init 146 = .ok (.new 30, 3) := by decide +kernel
theorem dX2_init_149 : decode cX2_init 149 = .ok (.dup, 1) := by decide +kernel
theorem dX2_init_150 : decode cX2_init 150 = .ok (.invokespecial 49, 3) := by decide +kernel
theorem dX2_init_153 : decode cX2_init 153 = .ok (.aastore, 1) := by decide +kernel
theorem dX2_init_154 : decode cX2_init 154 = .ok (.iinc 1 1, 3) := by decide +kernel
theorem dX2_init_157 : decode cX2_init 157 = .ok (.goto (-25), 3) := by decide +kernel
theorem dX2_init_160 : decode cX2_init 160 = .ok (.return_, 1) := by decide +kernel
set_option maxRecDepth 20000 in
theorem ggX2_copyFrom_X0_copyFrom : GoodIn wsX2_copyFrom wsX0_copyFrom := goodIn_r _ [17, 18, 19, 20, 21, 22, 23, 24, 55, 56, 57, 58, 59, 60, 61, 62, 63, 64] (by decide +kernel) (by decide +kernel)
set_option maxRecDepth 20000 in
theorem gX2_copyFrom_X0_copyFrom : GoodIn wsX2_copyFrom (wsV RX2 66 RX0 yX0_copyFrom wsX0_copyFrom) := goodIn_app (goodIn_of _ (by decide +kernel)) ggX2_copyFrom_X0_copyFrom
set_option maxRecDepth 20000 in
theorem ggX2_copyFrom_X3_copyFrom : GoodIn wsX2_copyFrom wsX3_copyFrom := goodIn_r _ [29, 30, 31, 32, 33, 34, 35, 36, 37, 38, 39, 40, 41, 42, 43, 65, 66, 67, 68, 69, 70, 71, 72, 73, 74, 75, 76, 77, 78] (by decide +kernel) (by decide +kernel)
set_option maxRecDepth 20000 in
theorem gX2_copyFrom_X3_copyFrom : GoodIn wsX2_copyFrom (wsV RX2 70 RX3 yX3_copyFrom wsX3_copyFrom) := goodIn_app (goodIn_of _ (by decide +kernel)) ggX2_copyFrom_X3_copyFrom
theorem dX2_copyFrom_0 : decode cX2_copyFrom 0 = .ok (.aload_n 0, 1) := by decide +kernel
theorem dX2_copyFrom_1 : decode cX2_copyFrom 1 = .ok (.aload_n 1, 1) := by decide +kernel
theorem dX2_copyFrom_2 : decode cX2_copyFrom 2 = .ok (.getfield 50, 3) := by decide +kernel
theorem dX2_copyFrom_5 : decode cX2_copyFrom 5 = .ok (.putfield 50, 3) := by decide +kernel
theorem dX2_copyFrom_8 : decode cX2_copyFrom 8 = .ok (.aload_n 0, 1) := by decide +kernel
theorem dX2_copyFrom_9 : decode cX2_copyFrom 9 = .ok (.aload_n 1, 1) := by decide +kernel
theorem dX2_copyFrom_10 : decode cX2_copyFrom 10 = .ok (.getfield 54, 3) := by decide +kernel
theorem dX2_copyFrom_13 : decode cX2_copyFrom 13 = .ok (.putfield 54, 3) := by decide +kernel
theorem dX2_copyFrom_16 : decode cX2_copyFrom 16 = .ok (.aload_n 0, 1) := by decide +kernel
theorem dX2_copyFrom_17 : decode cX2_copyFrom 17 = .ok (.aload_n 1, 1) := by decide +kernel
theorem dX2_copyFrom_18 : decode cX2_copyFrom 18 = .ok (.getfield 57, 3) := by decide +kernel
theorem dX2_copyFrom_21 : decode cX2_copyFrom 21 = .ok (.putfield 57, 3) := by decide +kernel
theorem dX2_copyFrom_24 : decode cX2_copyFrom 24 = .ok (.aload_n 1, 1) := by decide +kernel
theorem dX2_copyFrom_25 : decode cX2_copyFrom 25 = .ok (.getfield 9, 3) := by decide +kernel
theorem dX2_copyFrom_28 : decode cX2_copyFrom 28 = .ok (.iconst 0, 1) := by decide +kernel
theorem dX2_copyFrom_29 : decode cX2_copyFrom 29 = .ok (.aload_n 0, 1) := by decide +kernel
theorem dX2_copyFrom_30 : decode cX2_copyFrom 30 = .ok (.getfield 9, 3) := by decide +kernel
theorem dX2_copyFrom_33 : decode cX2_copyFrom 33 = .ok (.iconst 0, 1) := by decide +kernel
theorem dX2_copyFrom_34 : decode cX2_copyFrom 34 = .ok (.aload_n 0, 1) := by decide +kernel
theorem dX2_copyFrom_35 : decode cX2_copyFrom 35 = .ok (.getfield 9, 3) := by decide +kernel
theorem dX2_copyFrom_38 : decode cX2_copyFrom 38 = .ok (.arraylength, 1) := by decide +kernel
theorem dX2_copyFrom_39 : decode cX2_copyFrom 39 = .ok (.invokestatic 60, 3) := by decide +kernel
theorem dX2_copyFrom_42 : decode cX2_copyFrom 42 = .ok (.aload_n 1, 1) := by decide +kernel
theorem dX2_copyFrom_43 : decode cX2_copyFrom 43 = .ok (.getfield 15, 3) := by decide +kernel
theorem dX2_copyFrom_46 : decode cX2_copyFrom 46 = .ok (.iconst 0, 1) := by decide +kernel
theorem dX2_copyFrom_47 : decode cX2_copyFrom 47 = .ok (.aload_n 0, 1) := by decide +kernel
theorem dX2_copyFrom_48 : decode cX2_copyFrom 48 = .ok (.getfield 15, 3) := by decide +kernel
theorem dX2_copyFrom_51 : decode cX2_copyFrom 51 = .ok (.iconst 0, 1) := by decide +kernel
theorem dX2_copyFrom_52 : decode cX2_copyFrom 52 = .ok (.aload_n 0, 1) := by decide +kernel
theorem dX2_copyFrom_53 : decode cX2_copyFrom 53 = .ok (.getfield 15, 3) := by decide +kernel
theorem dX2_copyFrom_56 : decode cX2_copyFrom 56 = .ok (.arraylength, 1) := by decide +kernel
theorem dX2_copyFrom_57 : decode cX2_copyFrom 57 = .ok (.invokestatic 60, 3) := by decide +kernel
theorem dX2_copyFrom_60 : decode cX2_copyFrom 60 = .ok (.aload_n 0, 1) := by decide +kernel
theorem dX2_copyFrom_61 : decode cX2_copyFrom 61 = .ok (.getfield 23, 3) := by decide +kernel
theorem dX2_copyFrom_64 : decode cX2_copyFrom 64 = .ok (.aload_n 1, 1) := by decide +kernel
theorem dX2_copyFrom_65 : decode cX2_copyFrom 65 = .ok (.getfield 23, 3) := by decide +kernel
theorem dX2_copyFrom_68 : decode cX2_copyFrom 68 = .ok (.invokevirtual 66, 3) := by decide +kernel
theorem dX2_copyFrom_71 : decode cX2_copyFrom 71 = .ok (.aload_n 0, 1) := by decide +kernel
theorem dX2_copyFrom_72 : decode cX2_copyFrom 72 = .ok (.getfield 27, 3) := by decide +kernel
theorem dX2_copyFrom_75 : decode cX2_copyFrom 75 = .ok (.aload_n 1, 1) := by decide +kernel
theorem dX2_copyFrom_76 : decode cX2_copyFrom 76 = .ok (.getfield 27, 3) := by decide +kernel
theorem dX2_copyFrom_79 : decode cX2_copyFrom 79 = .ok (.invokevirtual 66, 3) := by decide +kernel
theorem dX2_copyFrom_82 : decode cX2_copyFrom 82 = .ok (.iconst 0, 1) := by decide +kernel
theorem dX2_copyFrom_83 : decode cX2_copyFrom 83 = .ok (.istore_n 2, 1) := by decide +kernel
theorem dX2_copyFrom_84 : decode cX2_copyFrom 84 = .ok (.iload_n 2, 1) := by decide +kernel
theorem dX2_copyFrom_85 : decode cX2_copyFrom 85 = .ok (.aload_n 0, 1) := by decide +kernel
theorem dX2_copyFrom_86 : decode cX2_copyFrom 86 = .ok (.getfield 32, 3) := by decide +kernel
theorem dX2_copyFrom_89 : decode cX2_copyFrom 89 = .ok (.arraylength, 1) := by decide +kernel
theorem dX2_copyFrom_90 : decode cX2_copyFrom 90 = .ok (.if_icmp .ge 24, 3) := by decide +kernel
theorem dX2_copyFrom_93 : decode cX2_copyFrom 93 = .ok (.aload_n 0, 1) := by decide +kernel
theorem dX2_copyFrom_94 : decode cX2_copyFrom 94 = .ok (.getfield 32, 3) := by decide +kernel
theorem dX2_copyFrom_97 : decode cX2_copyFrom 97 = .ok (.iload_n 2, 1) := by decide +kernel
theorem dX2_copyFrom_98 : decode cX2_copyFrom 98 = .ok (.aaload, 1) := by decide +kernel
theorem dX2_copyFrom_99 : decode cX2_copyFrom 99 = .ok (.aload_n 1, 1) := by decide +kernel
theorem dX2_copyFrom_100 : decode cX2_copyFrom 100 = .ok (.getfield 32, 3) := by decide +kernel
theorem dX2_copyFrom_103 : decode cX2_copyFrom 103 = .ok (.iload_n 2, 1) := by decide +kernel
theorem dX2_copyFrom_104 : decode cX2_copyFrom 104 = .ok (.aaload, 1) := by decide +kernel
theorem dX2_copyFrom_105 : decode cX2_copyFrom 105 = .ok (.invokevirtual 70, 3) := by decide +kernel
theorem dX2_copyFrom_108 : decode cX2_copyFrom 108 = .ok (.iinc 2 1, 3) := by decide +kernel
theorem dX2_copyFrom_111 : decode cX2_copyFrom 111 = .ok (.goto (-27), 3) := by decide +kernel
theorem dX2_copyFrom_114 : decode cX2_copyFrom 114 = .ok (.return_, 1) := by decide +kernel
theorem dX2_changeSetting_0 : decode cX2_changeSetting 0 = .ok (.aload_n 0, 1) := by decide +kernel
theorem dX2_changeSetting_1 : decode cX2_changeSetting 1 = .ok (.getfield 9, 3) := by decide +kernel
theorem dX2_changeSetting_4 : decode cX2_changeSetting 4 = .ok (.iload_n 1, 1) := by decide +kernel
theorem dX2_changeSetting_5 : decode cX2_changeSetting 5 = .ok (.iaload, 1) := by decide +kernel
theorem dX2_changeSetting_6 : decode cX2_changeSetting 6 = .ok (.istore_n 3, 1) := by decide +kernel
theorem dX2_changeSetting_7 : decode cX2_changeSetting 7 = .ok (.aload_n 0, 1) := by decide +kernel
theorem dX2_changeSetting_8 : decode cX2_changeSetting 8 = .ok (.getfield 9, 3) := by decide +kernel
theorem dX2_changeSetting_11 : decode cX2_changeSetting 11 = .ok (.iload_n 1, 1) := by decide +kernel
theorem dX2_changeSetting_12 : decode cX2_changeSetting 12 = .ok (.iload_n 2, 1) := by decide +kernel
theorem dX2_changeSetting_13 : decode cX2_changeSetting 13 = .ok (.iastore, 1) := by decide +kernel
theorem dX2_changeSetting_14 : decode cX2_changeSetting 14 = .ok (.iload_n 3, 1) := by decide +kernel
theorem dX2_changeSetting_15 : decode cX2_changeSetting 15 = .ok (.ireturn, 1) := by decide +kernel
theorem dX2_changeGust_0 : decode cX2_changeGust 0 = .ok (.aload_n 0, 1) := by decide +kernel
theorem dX2_changeGust_1 : decode cX2_changeGust 1 = .ok (.getfield 15, 3) := by decide +kernel
theorem dX2_changeGust_4 : decode cX2_changeGust 4 = .ok (.iload_n 1, 1) := by decide +kernel
theorem dX2_changeGust_5 : decode cX2_changeGust 5 = .ok (.iaload, 1) := by decide +kernel
theorem dX2_changeGust_6 : decode cX2_changeGust 6 = .ok (.istore_n 3, 1) := by decide +kernel
theorem dX2_changeGust_7 : decode cX2_changeGust 7 = .ok (.aload_n 0, 1) := by decide +kernel
theorem dX2_changeGust_8 : decode cX2_changeGust 8 = .ok (.getfield 15, 3) := by decide +kernel
theorem dX2_changeGust_11 : decode cX2_changeGust 11 = .ok (.iload_n 1, 1) := by decide +kernel
theorem dX2_changeGust_12 : decode cX2_changeGust 12 = .ok (.iload_n 2, 1) := by decide +kernel
theorem dX2_changeGust_13 : decode cX2_changeGust 13 = .ok (.iastore, 1) := by decide +kernel
theorem dX2_changeGust_14 : decode cX2_changeGust 14 = .ok (.iload_n 3, 1) := by decide +kernel
theorem dX2_changeGust_15 : decode cX2_changeGust 15 = .ok (.ireturn, 1) := by decide +kernel
theorem dX2_axisNumber_0 : decode cX2_axisNumber 0 = .ok (.iload_n 1, 1) := by decide +kernel
theorem dX2_axisNumber_1 : decode cX2_axisNumber 1 = .ok (.ifCond .ne 10, 3) := by decide +kernel
theorem dX2_axisNumber_4 : decode cX2_axisNumber 4 = .ok (.aload_n 0, 1) := by decide +kernel
theorem dX2_axisNumber_5 : decode cX2_axisNumber 5 = .ok (.getfield 23, 3) := by decide +kernel
theorem dX2_axisNumber_8 : decode cX2_axisNumber 8 = .ok (.goto 7, 3) := by decide +kernel
theorem dX2_axisNumber_11 : decode cX2_axisNumber 11 = .ok (.aload_n 0, 1) := by decide +kernel
theorem dX2_axisNumber_12 : decode cX2_axisNumber 12 = .ok (.getfield 27, 3) := by decide +kernel
theorem dX2_axisNumber_15 : decode cX2_axisNumber 15 = .ok (.areturn, 1) := by decide +kernel
theorem dX2_day_0 : decode cX2_day 0 = .ok (.aload_n 0, 1) := by decide +kernel
theorem dX2_day_1 : decode cX2_day 1 = .ok (.getfield 50, 3) := by decide +kernel
theorem dX2_day_4 : decode cX2_day 4 = .ok (.sipush 1440, 3) := by decide +kernel
theorem dX2_day_7 : decode cX2_day 7 = .ok (.idiv, 1) := by decide +kernel
theorem dX2_day_8 : decode cX2_day 8 = .ok (.ireturn, 1) := by decide +kernel
set_option maxRecDepth 20000 in
theorem ggX2_gustToday_X2_day : GoodIn wsX2_gustToday wsX2_day := goodIn_r _ [6, 7, 8, 9, 10, 11, 12, 13, 14, 15, 16, 17, 18] (by decide +kernel) (by decide +kernel)
set_option maxRecDepth 20000 in
theorem gX2_gustToday_X2_day : GoodIn wsX2_gustToday (wsV RX2 73 RX2 yX2_day wsX2_day) := goodIn_app (goodIn_of _ (by decide +kernel)) ggX2_gustToday_X2_day
theorem dX2_gustToday_0 : decode cX2_gustToday 0 = .ok (.aload_n 0, 1) := by decide +kernel
theorem dX2_gustToday_1 : decode cX2_gustToday 1 = .ok (.invokevirtual 73, 3) := by decide +kernel
theorem dX2_gustToday_4 : decode cX2_gustToday 4 = .ok (.istore_n 1, 1) := by decide +kernel
theorem dX2_gustToday_5 : decode cX2_gustToday 5 = .ok (.iload_n 1, 1) := by decide +kernel
theorem dX2_gustToday_6 : decode cX2_gustToday 6 = .ok (.ifCond .lt 21, 3) := by decide +kernel
theorem dX2_gustToday_9 : decode cX2_gustToday 9 = .ok (.iload_n 1, 1) := by decide +kernel
theorem dX2_gustToday_10 : decode cX2_gustToday 10 = .ok (.aload_n 0, 1) := by decide +kernel
theorem dX2_gustToday_11 : decode cX2_gustToday 11 = .ok (.getfield 15, 3) := by decide +kernel
theorem dX2_gustToday_14 : decode cX2_gustToday 14 = .ok (.arraylength, 1) := by decide +kernel
theorem dX2_gustToday_15 : decode cX2_gustToday 15 = .ok (.if_icmp .ge 12, 3) := by decide +kernel
theorem dX2_gustToday_18 : decode cX2_gustToday 18 = .ok (.aload_n 0, 1) := by decide +kernel
theorem dX2_gustToday_19 : decode cX2_gustToday 19 = .ok (.getfield 15, 3) := by decide +kernel
theorem dX2_gustToday_22 : decode cX2_gustToday 22 = .ok (.iload_n 1, 1) := by decide +kernel
theorem dX2_gustToday_23 : decode cX2_gustToday 23 = .ok (.iaload, 1) := by decide +kernel
theorem dX2_gustToday_24 : decode cX2_gustToday 24 = .ok (.goto 4, 3) := by decide +kernel
theorem dX2_gustToday_27 : decode cX2_gustToday 27 = .ok (.iconst 0, 1) := by decide +kernel
theorem dX2_gustToday_28 : decode cX2_gustToday 28 = .ok (.ireturn, 1) := by decide +kernel
set_option maxRecDepth 20000 in
theorem ggX2_kindOfDay_X2_gustToday : GoodIn wsX2_kindOfDay wsX2_gustToday := goodIn_r _ [6, 7, 8, 9, 10, 5, 11, 12, 13, 14, 15, 16, 17, 18, 19, 20, 21, 22, 23] (by decide +kernel) (by decide +kernel)
set_option maxRecDepth 20000 in
theorem gX2_kindOfDay_X2_gustToday : GoodIn wsX2_kindOfDay (wsV RX2 77 RX2 yX2_gustToday wsX2_gustToday) := goodIn_app (goodIn_of _ (by decide +kernel)) ggX2_kindOfDay_X2_gustToday
theorem dX2_kindOfDay_0 : decode cX2_kindOfDay 0 = .ok (.aload_n 0, 1) := by decide +kernel
theorem dX2_kindOfDay_1 : decode cX2_kindOfDay 1 = .ok (.invokevirtual 77, 3) := by decide +kernel
theorem dX2_kindOfDay_4 : decode cX2_kindOfDay 4 = .ok (.istore_n 1, 1) := by decide +kernel
theorem dX2_kindOfDay_5 : decode cX2_kindOfDay 5 = .ok (.iload_n 1, 1) := by decide +kernel
theorem dX2_kindOfDay_6 : decode cX2_kindOfDay 6 = .ok (.aload_n 0, 1) := by decide +kernel
theorem dX2_kindOfDay_7 : decode cX2_kindOfDay 7 = .ok (.getfield 9, 3) := by decide +kernel
theorem dX2_kindOfDay_10 : decode cX2_kindOfDay 10 = .ok (.iconst 3, 1) := by decide +kernel
theorem dX2_kindOfDay_11 : decode cX2_kindOfDay 11 = .ok (.iaload, 1) := by decide +kernel
theorem dX2_kindOfDay_12 : decode cX2_kindOfDay 12 = .ok (.if_icmp .lt 5, 3) := by decide +kernel
theorem dX2_kindOfDay_15 : decode cX2_kindOfDay 15 = .ok (.iconst 0, 1) := by decide +kernel
theorem dX2_kindOfDay_16 : decode cX2_kindOfDay 16 = .ok (.ireturn, 1) := by decide +kernel
theorem dX2_kindOfDay_17 : decode cX2_kindOfDay 17 = .ok (.iload_n 1, 1) := by decide +kernel
theorem dX2_kindOfDay_18 : decode cX2_kindOfDay 18 = .ok (.aload_n 0, 1) := by decide +kernel
theorem dX2_kindOfDay_19 : decode cX2_kindOfDay 19 = .ok (.getfield 9, 3) := by decide +kernel
theorem dX2_kindOfDay_22 : decode cX2_kindOfDay 22 = .ok (.iconst 2, 1) := by decide +kernel
theorem dX2_kindOfDay_23 : decode cX2_kindOfDay 23 = .ok (.iaload, 1) := by decide +kernel
theorem dX2_kindOfDay_24 : decode cX2_kindOfDay 24 = .ok (.if_icmp .lt 7, 3) := by decide +kernel
theorem dX2_kindOfDay_27 : decode cX2_kindOfDay 27 = .ok (.iconst 1, 1) := by decide +kernel
theorem dX2_kindOfDay_28 : decode cX2_kindOfDay 28 = .ok (.goto 4, 3) := by decide +kernel
theorem dX2_kindOfDay_31 : decode cX2_kindOfDay 31 = .ok (.iconst 2, 1) := by decide +kernel
theorem dX2_kindOfDay_32 : decode cX2_kindOfDay 32 = .ok (.ireturn, 1) := by decide +kernel
set_option maxRecDepth 20000 in
theorem ggX2_tell_X2_day : GoodIn wsX2_tell wsX2_day := goodIn_r _ [12, 1, 33, 34, 35, 36, 37, 38, 39, 40, 41, 42, 43] (by decide +kernel) (by decide +kernel)
set_option maxRecDepth 20000 in
theorem gX2_tell_X2_day : GoodIn wsX2_tell (wsV RX2 73 RX2 yX2_day wsX2_day) := goodIn_app (goodIn_of _ (by decide +kernel)) ggX2_tell_X2_day
set_option maxRecDepth 20000 in
theorem ggX2_tell_X2_gustToday : GoodIn wsX2_tell wsX2_gustToday := goodIn_r _ [16, 17, 8, 9, 10, 11, 12, 1, 33, 34, 35, 36, 37, 38, 39, 40, 41, 42, 43] (by decide +kernel) (by decide +kernel)
set_option maxRecDepth 20000 in
theorem gX2_tell_X2_gustToday : GoodIn wsX2_tell (wsV RX2 77 RX2 yX2_gustToday wsX2_gustToday) := goodIn_app (goodIn_of _ (by decide +kernel)) ggX2_tell_X2_gustToday
set_option maxRecDepth 20000 in
theorem ggX2_tell_X2_kindOfDay : GoodIn wsX2_tell wsX2_kindOfDay := goodIn_r _ [21, 2, 13, 14, 15, 11, 16, 17, 8, 9, 10, 12, 1, 33, 34, 35, 36, 37, 38, 39, 40, 41, 42, 43] (by decide +kernel) (by decide +kernel)
set_option maxRecDepth 20000 in
theorem gX2_tell_X2_kindOfDay : GoodIn wsX2_tell (wsV RX2 80 RX2 yX2_kindOfDay wsX2_kindOfDay) := goodIn_app (goodIn_of _ (by decide +kernel)) ggX2_tell_X2_kindOfDay
set_option maxRecDepth 20000 in
theorem ggX2_tell_X0_dish : GoodIn wsX2_tell wsX0_dish := goodIn_r _ [26, 27, 28, 44, 45, 46, 47, 48, 49, 50, 51, 52, 53] (by decide +kernel) (by decide +kernel)
set_option maxRecDepth 20000 in
theorem gX2_tell_X0_dish : GoodIn wsX2_tell (wsV RX2 83 RX0 yX0_dish wsX0_dish) := goodIn_app (goodIn_of _ (by decide +kernel)) ggX2_tell_X0_dish
set_option maxRecDepth 20000 in
theorem ggX2_tell_J9_floorMod_7cf53 : GoodIn wsX2_tell wsJ9_floorMod_7cf53 := goodIn_r _ [32] (by decide +kernel) (by decide +kernel)
set_option maxRecDepth 20000 in
theorem gX2_tell_J9_floorMod_7cf53 : GoodIn wsX2_tell (va_wsS RX2 87 yJ9_floorMod_7cf53 wsJ9_floorMod_7cf53) := goodIn_app (goodIn_of _ (by decide +kernel)) ggX2_tell_J9_floorMod_7cf53
theorem dX2_tell_0 : decode cX2_tell 0 = .ok (.iload_n 1, 1) := by decide +kernel
theorem dX2_tell_1 : decode cX2_tell 1 = .ok (.tableswitch 162 0 18 #[91, 96, 101, 106, 162, 162, 162, 162, 162, 162, 162, 162, 111, 118, 125, 132, 139, 144, 149], 91) := by decide +kernel
theorem dX2_tell_92 : decode cX2_tell 92 = .ok (.aload_n 0, 1) := by decide +kernel
theorem dX2_tell_93 : decode cX2_tell 93 = .ok (.getfield 50, 3) := by decide +kernel
theorem dX2_tell_96 : decode cX2_tell 96 = .ok (.ireturn, 1) := by decide +kernel
theorem dX2_tell_97 : decode cX2_tell 97 = .ok (.aload_n 0, 1) := by decide +kernel
theorem dX2_tell_98 : decode cX2_tell 98 = .ok (.invokevirtual 73, 3) := by decide +kernel
theorem dX2_tell_101 : decode cX2_tell 101 = .ok (.ireturn, 1) := by decide +kernel
theorem dX2_tell_102 : decode cX2_tell 102 = .ok (.aload_n 0, 1) := by decide +kernel
theorem dX2_tell_103 : decode cX2_tell 103 = .ok (.invokevirtual 77, 3) := by decide +kernel
theorem dX2_tell_106 : decode cX2_tell 106 = .ok (.ireturn, 1) := by decide +kernel
theorem dX2_tell_107 : decode cX2_tell 107 = .ok (.aload_n 0, 1) := by decide +kernel
theorem dX2_tell_108 : decode cX2_tell 108 = .ok (.invokevirtual 80, 3) := by decide +kernel
theorem dX2_tell_111 : decode cX2_tell 111 = .ok (.ireturn, 1) := by decide +kernel
theorem dX2_tell_112 : decode cX2_tell 112 = .ok (.aload_n 0, 1) := by decide +kernel
theorem dX2_tell_113 : decode cX2_tell 113 = .ok (.getfield 9, 3) := by decide +kernel
theorem dX2_tell_116 : decode cX2_tell 116 = .ok (.iconst 0, 1) := by decide +kernel
theorem dX2_tell_117 : decode cX2_tell 117 = .ok (.iaload, 1) := by decide +kernel
theorem dX2_tell_118 : decode cX2_tell 118 = .ok (.ireturn, 1) := by decide +kernel
theorem dX2_tell_119 : decode cX2_tell 119 = .ok (.aload_n 0, 1) := by decide +kernel
theorem dX2_tell_120 : decode cX2_tell 120 = .ok (.getfield 9, 3) := by decide +kernel
theorem dX2_tell_123 : decode cX2_tell 123 = .ok (.iconst 1, 1) := by decide +kernel
theorem dX2_tell_124 : decode cX2_tell 124 = .ok (.iaload, 1) := by decide +kernel
theorem dX2_tell_125 : decode cX2_tell 125 = .ok (.ireturn, 1) := by decide +kernel
theorem dX2_tell_126 : decode cX2_tell 126 = .ok (.aload_n 0, 1) := by decide +kernel
theorem dX2_tell_127 : decode cX2_tell 127 = .ok (.getfield 9, 3) := by decide +kernel
theorem dX2_tell_130 : decode cX2_tell 130 = .ok (.iconst 2, 1) := by decide +kernel
theorem dX2_tell_131 : decode cX2_tell 131 = .ok (.iaload, 1) := by decide +kernel
theorem dX2_tell_132 : decode cX2_tell 132 = .ok (.ireturn, 1) := by decide +kernel
theorem dX2_tell_133 : decode cX2_tell 133 = .ok (.aload_n 0, 1) := by decide +kernel
theorem dX2_tell_134 : decode cX2_tell 134 = .ok (.getfield 9, 3) := by decide +kernel
theorem dX2_tell_137 : decode cX2_tell 137 = .ok (.iconst 3, 1) := by decide +kernel
theorem dX2_tell_138 : decode cX2_tell 138 = .ok (.iaload, 1) := by decide +kernel
theorem dX2_tell_139 : decode cX2_tell 139 = .ok (.ireturn, 1) := by decide +kernel
theorem dX2_tell_140 : decode cX2_tell 140 = .ok (.aload_n 0, 1) := by decide +kernel
theorem dX2_tell_141 : decode cX2_tell 141 = .ok (.getfield 54, 3) := by decide +kernel
theorem dX2_tell_144 : decode cX2_tell 144 = .ok (.ireturn, 1) := by decide +kernel
theorem dX2_tell_145 : decode cX2_tell 145 = .ok (.aload_n 0, 1) := by decide +kernel
theorem dX2_tell_146 : decode cX2_tell 146 = .ok (.getfield 57, 3) := by decide +kernel
theorem dX2_tell_149 : decode cX2_tell 149 = .ok (.ireturn, 1) := by decide +kernel
theorem dX2_tell_150 : decode cX2_tell 150 = .ok (.aload_n 0, 1) := by decide +kernel
theorem dX2_tell_151 : decode cX2_tell 151 = .ok (.getfield 23, 3) := by decide +kernel
theorem dX2_tell_154 : decode cX2_tell 154 = .ok (.invokevirtual 83, 3) := by decide +kernel
theorem dX2_tell_157 : decode cX2_tell 157 = .ok (.ldc 86, 2) := by decide +kernel
theorem dX2_tell_159 : decode cX2_tell 159 = .ok (.invokestatic 87, 3) := by decide +kernel
theorem dX2_tell_162 : decode cX2_tell 162 = .ok (.ireturn, 1) := by decide +kernel
theorem dX2_tell_163 : decode cX2_tell 163 = .ok (.ldc 93, 2) := by decide +kernel
theorem dX2_tell_165 : decode cX2_tell 165 = .ok (.ireturn, 1) := by decide +kernel
set_option maxRecDepth 20000 in
theorem ggX2_plannedWay_X2_axisNumber : GoodIn wsX2_plannedWay wsX2_axisNumber := goodIn_r _ [8, 9, 10, 45, 46, 47, 48, 49, 50, 51, 52, 53, 54, 55] (by decide +kernel) (by decide +kernel)
set_option maxRecDepth 20000 in
theorem gX2_plannedWay_X2_axisNumber : GoodIn wsX2_plannedWay (wsV RX2 94 RX2 yX2_axisNumber wsX2_axisNumber) := goodIn_app (goodIn_of _ (by decide +kernel)) ggX2_plannedWay_X2_axisNumber
set_option maxRecDepth 20000 in
theorem ggX2_plannedWay_X5_plan : GoodIn wsX2_plannedWay wsX5_plan := goodIn_r _ [15, 16, 17, 18, 19, 20, 21, 22, 23, 24, 25, 26, 27, 28, 29, 30, 31, 32, 33, 34, 35, 36, 37, 38, 39, 40, 41, 42, 43, 44, 56, 57, 58, 59, 60, 61, 62, 63, 64, 65, 66, 67, 68, 69, 70, 71, 72] (by decide +kernel) (by decide +kernel)
set_option maxRecDepth 20000 in
theorem gX2_plannedWay_X5_plan : GoodIn wsX2_plannedWay (wsV RX2 98 RX5 yX5_plan wsX5_plan) := goodIn_app (goodIn_of _ (by decide +kernel)) ggX2_plannedWay_X5_plan
theorem dX2_plannedWay_0 : decode cX2_plannedWay 0 = .ok (.iload_n 1, 1) := by decide +kernel
theorem dX2_plannedWay_1 : decode cX2_plannedWay 1 = .ok (.ifCond .ne 10, 3) := by decide +kernel
theorem dX2_plannedWay_4 : decode cX2_plannedWay 4 = .ok (.aload_n 0, 1) := by decide +kernel
theorem dX2_plannedWay_5 : decode cX2_plannedWay 5 = .ok (.getfield 43, 3) := by decide +kernel
theorem dX2_plannedWay_8 : decode cX2_plannedWay 8 = .ok (.goto 7, 3) := by decide +kernel
theorem dX2_plannedWay_11 : decode cX2_plannedWay 11 = .ok (.aload_n 0, 1) := by decide +kernel
theorem dX2_plannedWay_12 : decode cX2_plannedWay 12 = .ok (.getfield 46, 3) := by decide +kernel
theorem dX2_plannedWay_15 : decode cX2_plannedWay 15 = .ok (.astore_n 3, 1) := by decide +kernel
theorem dX2_plannedWay_16 : decode cX2_plannedWay 16 = .ok (.aload_n 3, 1) := by decide +kernel
theorem dX2_plannedWay_17 : decode cX2_plannedWay 17 = .ok (.aload_n 0, 1) := by decide +kernel
theorem dX2_plannedWay_18 : decode cX2_plannedWay 18 = .ok (.iload_n 1, 1) := by decide +kernel
theorem dX2_plannedWay_19 : decode cX2_plannedWay 19 = .ok (.invokevirtual 94, 3) := by decide +kernel
theorem dX2_plannedWay_22 : decode cX2_plannedWay 22 = .ok (.iload_n 2, 1) := by decide +kernel
theorem dX2_plannedWay_23 : decode cX2_plannedWay 23 = .ok (.aload_n 0, 1) := by decide +kernel
theorem dX2_plannedWay_24 : decode cX2_plannedWay 24 = .ok (.getfield 9, 3) := by decide +kernel
theorem dX2_plannedWay_27 : decode cX2_plannedWay 27 = .ok (.iconst 0, 1) := by decide +kernel
theorem dX2_plannedWay_28 : decode cX2_plannedWay 28 = .ok (.iaload, 1) := by decide +kernel
theorem dX2_plannedWay_29 : decode cX2_plannedWay 29 = .ok (.invokevirtual 98, 3) := by decide +kernel
theorem dX2_plannedWay_32 : decode cX2_plannedWay 32 = .ok (.aload_n 3, 1) := by decide +kernel
theorem dX2_plannedWay_33 : decode cX2_plannedWay 33 = .ok (.areturn, 1) := by decide +kernel
set_option maxRecDepth 20000 in
theorem ggX2_wayRise_X5_plan : GoodIn wsX2_wayRise wsX5_plan := goodIn_r _ [8, 9, 10, 11, 12, 13, 14, 15, 16, 17, 18, 19, 20, 21, 22, 23, 24, 25, 26, 27, 28, 29, 30, 31, 32, 33, 34, 35, 36, 37, 49, 50, 51, 52, 53, 54, 55, 56, 57, 58, 59, 60, 61, 62, 63, 64, 65] (by decide +kernel) (by decide +kernel)
set_option maxRecDepth 20000 in
theorem gX2_wayRise_X5_plan : GoodIn wsX2_wayRise (wsV RX2 98 RX5 yX5_plan wsX5_plan) := goodIn_app (goodIn_of _ (by decide +kernel)) ggX2_wayRise_X5_plan
theorem dX2_wayRise_0 : decode cX2_wayRise 0 = .ok (.aload_n 0, 1) := by decide +kernel
theorem dX2_wayRise_1 : decode cX2_wayRise 1 = .ok (.getfield 46, 3) := by decide +kernel
theorem dX2_wayRise_4 : decode cX2_wayRise 4 = .ok (.aload_n 0, 1) := by decide +kernel
theorem dX2_wayRise_5 : decode cX2_wayRise 5 = .ok (.getfield 27, 3) := by decide +kernel
theorem dX2_wayRise_8 : decode cX2_wayRise 8 = .ok (.iload_n 1, 1) := by decide +kernel
theorem dX2_wayRise_9 : decode cX2_wayRise 9 = .ok (.aload_n 0, 1) := by decide +kernel
theorem dX2_wayRise_10 : decode cX2_wayRise 10 = .ok (.getfield 9, 3) := by decide +kernel
theorem dX2_wayRise_13 : decode cX2_wayRise 13 = .ok (.iconst 0, 1) := by decide +kernel
theorem dX2_wayRise_14 : decode cX2_wayRise 14 = .ok (.iaload, 1) := by decide +kernel
theorem dX2_wayRise_15 : decode cX2_wayRise 15 = .ok (.invokevirtual 98, 3) := by decide +kernel
theorem dX2_wayRise_18 : decode cX2_wayRise 18 = .ok (.aload_n 0, 1) := by decide +kernel
theorem dX2_wayRise_19 : decode cX2_wayRise 19 = .ok (.getfield 46, 3) := by decide +kernel
theorem dX2_wayRise_22 : decode cX2_wayRise 22 = .ok (.areturn, 1) := by decide +kernel
set_option maxRecDepth 20000 in
theorem ggX2_wayAround_X5_plan : GoodIn wsX2_wayAround wsX5_plan := goodIn_r _ [11, 12, 13, 14, 15, 16, 17, 18, 19, 20, 21, 22, 23, 24, 25, 26, 27, 28, 29, 30, 31, 32, 33, 34, 35, 36, 37, 38, 39, 40, 60, 61, 62, 63, 64, 65, 66, 67, 68, 69, 70, 71, 72, 73, 74, 75, 76] (by decide +kernel) (by decide +kernel)
set_option maxRecDepth 20000 in
theorem gX2_wayAround_X5_plan : GoodIn wsX2_wayAround (wsV RX2 98 RX5 yX5_plan wsX5_plan) := goodIn_app (goodIn_of _ (by decide +kernel)) ggX2_wayAround_X5_plan
set_option maxRecDepth 20000 in
theorem ggX2_wayAround_X2_isLowWayTaken : GoodIn wsX2_wayAround wsX2_isLowWayTaken := goodIn_r _ [45, 1, 46, 47, 22, 23, 24, 5, 4, 48, 49, 50, 51, 52, 53, 54, 55, 56, 57, 58, 59, 60, 61, 62, 63, 64, 65, 66] (by decide +kernel) (by decide +kernel)
set_option maxRecDepth 20000 in
theorem gX2_wayAround_X2_isLowWayTaken : GoodIn wsX2_wayAround (wsV RX2 106 RX2 yX2_isLowWayTaken wsX2_isLowWayTaken) := goodIn_app (goodIn_of _ (by decide +kernel)) ggX2_wayAround_X2_isLowWayTaken
theorem dX2_wayAround_0 : decode cX2_wayAround 0 = .ok (.aload_n 0, 1) := by decide +kernel
theorem dX2_wayAround_1 : decode cX2_wayAround 1 = .ok (.getfield 39, 3) := by decide +kernel
theorem dX2_wayAround_4 : decode cX2_wayAround 4 = .ok (.aload_n 0, 1) := by decide +kernel
theorem dX2_wayAround_5 : decode cX2_wayAround 5 = .ok (.getfield 23, 3) := by decide +kernel
theorem dX2_wayAround_8 : decode cX2_wayAround 8 = .ok (.iload_n 1, 1) := by decide +kernel
theorem dX2_wayAround_9 : decode cX2_wayAround 9 = .ok (.ldc 86, 2) := by decide +kernel
theorem dX2_wayAround_11 : decode cX2_wayAround 11 = .ok (.isub, 1) := by decide +kernel
theorem dX2_wayAround_12 : decode cX2_wayAround 12 = .ok (.aload_n 0, 1) := by decide +kernel
theorem dX2_wayAround_13 : decode cX2_wayAround 13 = .ok (.getfield 9, 3) := by decide +kernel
theorem dX2_wayAround_16 : decode cX2_wayAround 16 = .ok (.iconst 0, 1) := by decide +kernel
theorem dX2_wayAround_17 : decode cX2_wayAround 17 = .ok (.iaload, 1) := by decide +kernel
theorem dX2_wayAround_18 : decode cX2_wayAround 18 = .ok (.invokevirtual 98, 3) := by decide +kernel
theorem dX2_wayAround_21 : decode cX2_wayAround 21 = .ok (.aload_n 0, 1) := by decide +kernel
theorem dX2_wayAround_22 : decode cX2_wayAround 22 = .ok (.getfield 43, 3) := by decide +kernel
theorem dX2_wayAround_25 : decode cX2_wayAround 25 = .ok (.aload_n 0, 1) := by decide +kernel
theorem dX2_wayAround_26 : decode cX2_wayAround 26 = .ok (.getfield 23, 3) := by decide +kernel
theorem dX2_wayAround_29 : decode cX2_wayAround 29 = .ok (.iload_n 1, 1) := by decide +kernel
theorem dX2_wayAround_30 : decode cX2_wayAround 30 = .ok (.aload_n 0, 1) := by decide +kernel
theorem dX2_wayAround_31 : decode cX2_wayAround 31 = .ok (.getfield 9, 3) := by decide +kernel
theorem dX2_wayAround_34 : decode cX2_wayAround 34 = .ok (.iconst 0, 1) := by decide +kernel
theorem dX2_wayAround_35 : decode cX2_wayAround 35 = .ok (.iaload, 1) := by decide +kernel
theorem dX2_wayAround_36 : decode cX2_wayAround 36 = .ok (.invokevirtual 98, 3) := by decide +kernel
theorem dX2_wayAround_39 : decode cX2_wayAround 39 = .ok (.aload_n 0, 1) := by decide +kernel
theorem dX2_wayAround_40 : decode cX2_wayAround 40 = .ok (.getfield 39, 3) := by decide +kernel
theorem dX2_wayAround_43 : decode cX2_wayAround 43 = .ok (.getfield 102, 3) := by decide +kernel
theorem dX2_wayAround_46 : decode cX2_wayAround 46 = .ok (.ifCond .eq 13, 3) := by decide +kernel
theorem dX2_wayAround_49 : decode cX2_wayAround 49 = .ok (.aload_n 0, 1) := by decide +kernel
theorem dX2_wayAround_50 : decode cX2_wayAround 50 = .ok (.getfield 43, 3) := by decide +kernel
theorem dX2_wayAround_53 : decode cX2_wayAround 53 = .ok (.getfield 102, 3) := by decide +kernel
theorem dX2_wayAround_56 : decode cX2_wayAround 56 = .ok (.ifCond .ne 25, 3) := by decide +kernel
theorem dX2_wayAround_59 : decode cX2_wayAround 59 = .ok (.aload_n 0, 1) := by decide +kernel
theorem dX2_wayAround_60 : decode cX2_wayAround 60 = .ok (.getfield 39, 3) := by decide +kernel
theorem dX2_wayAround_63 : decode cX2_wayAround 63 = .ok (.getfield 102, 3) := by decide +kernel
theorem dX2_wayAround_66 : decode cX2_wayAround 66 = .ok (.ifCond .eq 10, 3) := by decide +kernel
theorem dX2_wayAround_69 : decode cX2_wayAround 69 = .ok (.aload_n 0, 1) := by decide +kernel
theorem dX2_wayAround_70 : decode cX2_wayAround 70 = .ok (.getfield 39, 3) := by decide +kernel
theorem dX2_wayAround_73 : decode cX2_wayAround 73 = .ok (.goto 7, 3) := by decide +kernel
theorem dX2_wayAround_76 : decode cX2_wayAround 76 = .ok (.aload_n 0, 1) := by decide +kernel
theorem dX2_wayAround_77 : decode cX2_wayAround 77 = .ok (.getfield 43, 3) := by decide +kernel
theorem dX2_wayAround_80 : decode cX2_wayAround 80 = .ok (.areturn, 1) := by decide +kernel
theorem dX2_wayAround_81 : decode cX2_wayAround 81 = .ok (.aload_n 0, 1) := by decide +kernel
theorem dX2_wayAround_82 : decode cX2_wayAround 82 = .ok (.invokevirtual 106, 3) := by decide +kernel
theorem dX2_wayAround_85 : decode cX2_wayAround 85 = .ok (.ifCond .eq 10, 3) := by decide +kernel
theorem dX2_wayAround_88 : decode cX2_wayAround 88 = .ok (.aload_n 0, 1) := by decide +kernel
theorem dX2_wayAround_89 : decode cX2_wayAround 89 = .ok (.getfield 39, 3) := by decide +kernel
theorem dX2_wayAround_92 : decode cX2_wayAround 92 = .ok (.goto 7, 3) := by decide +kernel
theorem dX2_wayAround_95 : decode cX2_wayAround 95 = .ok (.aload_n 0, 1) := by decide +kernel
theorem dX2_wayAround_96 : decode cX2_wayAround 96 = .ok (.getfield 43, 3) := by decide +kernel
theorem dX2_wayAround_99 : decode cX2_wayAround 99 = .ok (.areturn, 1) := by decide +kernel
theorem dX2_isLowWayTaken_0 : decode cX2_isLowWayTaken 0 = .ok (.aload_n 0, 1) := by decide +kernel
theorem dX2_isLowWayTaken_1 : decode cX2_isLowWayTaken 1 = .ok (.getfield 39, 3) := by decide +kernel
theorem dX2_isLowWayTaken_4 : decode cX2_isLowWayTaken 4 = .ok (.getfield 110, 3) := by decide +kernel
theorem dX2_isLowWayTaken_7 : decode cX2_isLowWayTaken 7 = .ok (.invokestatic 113, 3) := by decide +kernel
theorem dX2_isLowWayTaken_10 : decode cX2_isLowWayTaken 10 = .ok (.istore_n 1, 1) := by decide +kernel
theorem dX2_isLowWayTaken_11 : decode cX2_isLowWayTaken 11 = .ok (.aload_n 0, 1) := by decide +kernel
theorem dX2_isLowWayTaken_12 : decode cX2_isLowWayTaken 12 = .ok (.getfield 43, 3) := by decide +kernel
theorem dX2_isLowWayTaken_15 : decode cX2_isLowWayTaken 15 = .ok (.getfield 110, 3) := by decide +kernel
theorem dX2_isLowWayTaken_18 : decode cX2_isLowWayTaken 18 = .ok (.invokestatic 113, 3) := by decide +kernel
theorem dX2_isLowWayTaken_21 : decode cX2_isLowWayTaken 21 = .ok (.istore_n 2, 1) := by decide +kernel
theorem dX2_isLowWayTaken_22 : decode cX2_isLowWayTaken 22 = .ok (.iload_n 1, 1) := by decide +kernel
theorem dX2_isLowWayTaken_23 : decode cX2_isLowWayTaken 23 = .ok (.aload_n 0, 1) := by decide +kernel
theorem dX2_isLowWayTaken_24 : decode cX2_isLowWayTaken 24 = .ok (.getfield 9, 3) := by decide +kernel
theorem dX2_isLowWayTaken_27 : decode cX2_isLowWayTaken 27 = .ok (.iconst 1, 1) := by decide +kernel
theorem dX2_isLowWayTaken_28 : decode cX2_isLowWayTaken 28 = .ok (.iaload, 1) := by decide +kernel
theorem dX2_isLowWayTaken_29 : decode cX2_isLowWayTaken 29 = .ok (.if_icmp .gt 7, 3) := by decide +kernel
theorem dX2_isLowWayTaken_32 : decode cX2_isLowWayTaken 32 = .ok (.iconst 1, 1) := by decide +kernel
theorem dX2_isLowWayTaken_33 : decode cX2_isLowWayTaken 33 = .ok (.goto 4, 3) := by decide +kernel
theorem dX2_isLowWayTaken_36 : decode cX2_isLowWayTaken 36 = .ok (.iconst 0, 1) := by decide +kernel
theorem dX2_isLowWayTaken_37 : decode cX2_isLowWayTaken 37 = .ok (.istore_n 3, 1) := by decide +kernel
theorem dX2_isLowWayTaken_38 : decode cX2_isLowWayTaken 38 = .ok (.iload_n 2, 1) := by decide +kernel
theorem dX2_isLowWayTaken_39 : decode cX2_isLowWayTaken 39 = .ok (.aload_n 0, 1) := by decide +kernel
theorem dX2_isLowWayTaken_40 : decode cX2_isLowWayTaken 40 = .ok (.getfield 9, 3) := by decide +kernel
theorem dX2_isLowWayTaken_43 : decode cX2_isLowWayTaken 43 = .ok (.iconst 1, 1) := by decide +kernel
theorem dX2_isLowWayTaken_44 : decode cX2_isLowWayTaken 44 = .ok (.iaload, 1) := by decide +kernel
theorem dX2_isLowWayTaken_45 : decode cX2_isLowWayTaken 45 = .ok (.if_icmp .gt 7, 3) := by decide +kernel
theorem dX2_isLowWayTaken_48 : decode cX2_isLowWayTaken 48 = .ok (.iconst 1, 1) := by decide +kernel
theorem dX2_isLowWayTaken_49 : decode cX2_isLowWayTaken 49 = .ok (.goto 4, 3) := by decide +kernel
theorem dX2_isLowWayTaken_52 : decode cX2_isLowWayTaken 52 = .ok (.iconst 0, 1) := by decide +kernel
theorem dX2_isLowWayTaken_53 : decode cX2_isLowWayTaken 53 = .ok (.istore 4, 2) := by decide +kernel
theorem dX2_isLowWayTaken_55 : decode cX2_isLowWayTaken 55 = .ok (.iload_n 3, 1) := by decide +kernel
theorem dX2_isLowWayTaken_56 : decode cX2_isLowWayTaken 56 = .ok (.iload 4, 2) := by decide +kernel
theorem dX2_isLowWayTaken_58 : decode cX2_isLowWayTaken 58 = .ok (.if_icmp .eq 5, 3) := by decide +kernel
theorem dX2_isLowWayTaken_61 : decode cX2_isLowWayTaken 61 = .ok (.iload_n 3, 1) := by decide +kernel
theorem dX2_isLowWayTaken_62 : decode cX2_isLowWayTaken 62 = .ok (.ireturn, 1) := by decide +kernel
theorem dX2_isLowWayTaken_63 : decode cX2_isLowWayTaken 63 = .ok (.aload_n 0, 1) := by decide +kernel
theorem dX2_isLowWayTaken_64 : decode cX2_isLowWayTaken 64 = .ok (.getfield 39, 3) := by decide +kernel
theorem dX2_isLowWayTaken_67 : decode cX2_isLowWayTaken 67 = .ok (.getfield 117, 3) := by decide +kernel
theorem dX2_isLowWayTaken_70 : decode cX2_isLowWayTaken 70 = .ok (.aload_n 0, 1) := by decide +kernel
theorem dX2_isLowWayTaken_71 : decode cX2_isLowWayTaken 71 = .ok (.getfield 43, 3) := by decide +kernel
theorem dX2_isLowWayTaken_74 : decode cX2_isLowWayTaken 74 = .ok (.getfield 117, 3) := by decide +kernel
theorem dX2_isLowWayTaken_77 : decode cX2_isLowWayTaken 77 = .ok (.if_icmp .eq 26, 3) := by decide +kernel
theorem dX2_isLowWayTaken_80 : decode cX2_isLowWayTaken 80 = .ok (.aload_n 0, 1) := by decide +kernel
theorem dX2_isLowWayTaken_81 : decode cX2_isLowWayTaken 81 = .ok (.getfield 39, 3) := by decide +kernel
theorem dX2_isLowWayTaken_84 : decode cX2_isLowWayTaken 84 = .ok (.getfield 117, 3) := by decide +kernel
theorem dX2_isLowWayTaken_87 : decode cX2_isLowWayTaken 87 = .ok (.aload_n 0, 1) := by decide +kernel
theorem dX2_isLowWayTaken_88 : decode cX2_isLowWayTaken 88 = .ok (.getfield 43, 3) := by decide +kernel
theorem dX2_isLowWayTaken_91 : decode cX2_isLowWayTaken 91 = .ok (.getfield 117, 3) := by decide +kernel
theorem dX2_isLowWayTaken_94 : decode cX2_isLowWayTaken 94 = .ok (.if_icmp .ge 7, 3) := by decide +kernel
theorem dX2_isLowWayTaken_97 : decode cX2_isLowWayTaken 97 = .ok (.iconst 1, 1) := by decide +kernel
theorem dX2_isLowWayTaken_98 : decode cX2_isLowWayTaken 98 = .ok (.goto 4, 3) := by decide +kernel
theorem dX2_isLowWayTaken_101 : decode cX2_isLowWayTaken 101 = .ok (.iconst 0, 1) := by decide +kernel
theorem dX2_isLowWayTaken_102 : decode cX2_isLowWayTaken 102 = .ok (.ireturn, 1) := by decide +kernel
theorem dX2_isLowWayTaken_103 : decode cX2_isLowWayTaken 103 = .ok (.iload_n 1, 1) := by decide +kernel
theorem dX2_isLowWayTaken_104 : decode cX2_isLowWayTaken 104 = .ok (.iload_n 2, 1) := by decide +kernel
theorem dX2_isLowWayTaken_105 : decode cX2_isLowWayTaken 105 = .ok (.if_icmp .gt 7, 3) := by decide +kernel
theorem dX2_isLowWayTaken_108 : decode cX2_isLowWayTaken 108 = .ok (.iconst 1, 1) := by decide +kernel
theorem dX2_isLowWayTaken_109 : decode cX2_isLowWayTaken 109 = .ok (.goto 4, 3) := by decide +kernel
theorem dX2_isLowWayTaken_112 : decode cX2_isLowWayTaken 112 = .ok (.iconst 0, 1) := by decide +kernel
theorem dX2_isLowWayTaken_113 : decode cX2_isLowWayTaken 113 = .ok (.ireturn, 1) := by decide +kernel
set_option maxRecDepth 20000 in
theorem ggX2_followWays_X0_follow : GoodIn wsX2_followWays wsX0_follow := goodIn_r _ [13, 14, 15, 16, 17, 18, 12, 19, 20, 21, 22, 23, 24, 25, 7, 26, 27, 28, 6, 8, 40, 41, 42, 43, 44, 45, 46, 47, 48, 49, 50, 51, 52, 53, 54, 55, 56] (by decide +kernel) (by decide +kernel)
set_option maxRecDepth 20000 in
theorem gX2_followWays_X0_follow : GoodIn wsX2_followWays (wsV RX2 120 RX0 yX0_follow wsX0_follow) := goodIn_app (goodIn_of _ (by decide +kernel)) ggX2_followWays_X0_follow
theorem dX2_followWays_0 : decode cX2_followWays 0 = .ok (.aload_n 0, 1) := by decide +kernel
theorem dX2_followWays_1 : decode cX2_followWays 1 = .ok (.getfield 23, 3) := by decide +kernel
theorem dX2_followWays_4 : decode cX2_followWays 4 = .ok (.aload_n 1, 1) := by decide +kernel
theorem dX2_followWays_5 : decode cX2_followWays 5 = .ok (.invokevirtual 120, 3) := by decide +kernel
theorem dX2_followWays_8 : decode cX2_followWays 8 = .ok (.aload_n 0, 1) := by decide +kernel
theorem dX2_followWays_9 : decode cX2_followWays 9 = .ok (.getfield 27, 3) := by decide +kernel
theorem dX2_followWays_12 : decode cX2_followWays 12 = .ok (.aload_n 2, 1) := by decide +kernel
theorem dX2_followWays_13 : decode cX2_followWays 13 = .ok (.invokevirtual 120, 3) := by decide +kernel
theorem dX2_followWays_16 : decode cX2_followWays 16 = .ok (.aload_n 0, 1) := by decide +kernel
theorem dX2_followWays_17 : decode cX2_followWays 17 = .ok (.dup, 1) := by decide +kernel
theorem dX2_followWays_18 : decode cX2_followWays 18 = .ok (.getfield 54, 3) := by decide +kernel
theorem dX2_followWays_21 : decode cX2_followWays 21 = .ok (.iconst 1, 1) := by decide +kernel
theorem dX2_followWays_22 : decode cX2_followWays 22 = .ok (.iadd, 1) := by decide +kernel
theorem dX2_followWays_23 : decode cX2_followWays 23 = .ok (.putfield 54, 3) := by decide +kernel
theorem dX2_followWays_26 : decode cX2_followWays 26 = .ok (.aload_n 1, 1) := by decide +kernel
theorem dX2_followWays_27 : decode cX2_followWays 27 = .ok (.getfield 124, 3) := by decide +kernel
theorem dX2_followWays_30 : decode cX2_followWays 30 = .ok (.aload_n 2, 1) := by decide +kernel
theorem dX2_followWays_31 : decode cX2_followWays 31 = .ok (.getfield 124, 3) := by decide +kernel
theorem dX2_followWays_34 : decode cX2_followWays 34 = .ok (.invokestatic 125, 3) := by decide +kernel
theorem dX2_followWays_37 : decode cX2_followWays 37 = .ok (.ireturn, 1) := by decide +kernel
theorem dX2_hasTarget_0 : decode cX2_hasTarget 0 = .ok (.iload_n 1, 1) := by decide +kernel
theorem dX2_hasTarget_1 : decode cX2_hasTarget 1 = .ok (.ifCond .lt 29, 3) := by decide +kernel
theorem dX2_hasTarget_4 : decode cX2_hasTarget 4 = .ok (.iload_n 1, 1) := by decide +kernel
theorem dX2_hasTarget_5 : decode cX2_hasTarget 5 = .ok (.aload_n 0, 1) := by decide +kernel
theorem dX2_hasTarget_6 : decode cX2_hasTarget 6 = .ok (.getfield 32, 3) := by decide +kernel
theorem dX2_hasTarget_9 : decode cX2_hasTarget 9 = .ok (.arraylength, 1) := by decide +kernel
theorem dX2_hasTarget_10 : decode cX2_hasTarget 10 = .ok (.if_icmp .ge 20, 3) := by decide +kernel
theorem dX2_hasTarget_13 : decode cX2_hasTarget 13 = .ok (.aload_n 0, 1) := by decide +kernel
theorem dX2_hasTarget_14 : decode cX2_hasTarget 14 = .ok (.getfield 32, 3) := by decide +kernel
theorem dX2_hasTarget_17 : decode cX2_hasTarget 17 = .ok (.iload_n 1, 1) := by decide +kernel
theorem dX2_hasTarget_18 : decode cX2_hasTarget 18 = .ok (.aaload, 1) := by decide +kernel
theorem dX2_hasTarget_19 : decode cX2_hasTarget 19 = .ok (.getfield 128, 3) := by decide +kernel
theorem dX2_hasTarget_22 : decode cX2_hasTarget 22 = .ok (.iconst 4, 1) := by decide +kernel
theorem dX2_hasTarget_23 : decode cX2_hasTarget 23 = .ok (.if_icmp .eq 7, 3) := by decide +kernel
theorem dX2_hasTarget_26 : decode cX2_hasTarget 26 = .ok (.iconst 1, 1) := by decide +kernel
theorem dX2_hasTarget_27 : decode cX2_hasTarget 27 = .ok (.goto 4, 3) := by decide +kernel
theorem dX2_hasTarget_30 : decode cX2_hasTarget 30 = .ok (.iconst 0, 1) := by decide +kernel
theorem dX2_hasTarget_31 : decode cX2_hasTarget 31 = .ok (.ireturn, 1) := by decide +kernel
theorem dX2_targetsIn_0 : decode cX2_targetsIn 0 = .ok (.iconst 0, 1) := by decide +kernel
theorem dX2_targetsIn_1 : decode cX2_targetsIn 1 = .ok (.istore_n 2, 1) := by decide +kernel
theorem dX2_targetsIn_2 : decode cX2_targetsIn 2 = .ok (.aload_n 0, 1) := by decide +kernel
theorem dX2_targetsIn_3 : decode cX2_targetsIn 3 = .ok (.getfield 32, 3) := by decide +kernel
theorem dX2_targetsIn_6 : decode cX2_targetsIn 6 = .ok (.astore_n 3, 1) := by decide +kernel
theorem dX2_targetsIn_7 : decode cX2_targetsIn 7 = .ok (.aload_n 3, 1) := by decide +kernel
theorem dX2_targetsIn_8 : decode cX2_targetsIn 8 = .ok (.arraylength, 1) := by decide +kernel
theorem dX2_targetsIn_9 : decode cX2_targetsIn 9 = .ok (.istore 4, 2) := by decide +kernel
theorem dX2_targetsIn_11 : decode cX2_targetsIn 11 = .ok (.iconst 0, 1) := by decide +kernel
theorem dX2_targetsIn_12 : decode cX2_targetsIn 12 = .ok (.istore 5, 2) := by decide +kernel
theorem dX2_targetsIn_14 : decode cX2_targetsIn 14 = .ok (.iload 5, 2) := by decide +kernel
theorem dX2_targetsIn_16 : decode cX2_targetsIn 16 = .ok (.iload 4, 2) := by decide +kernel
theorem dX2_targetsIn_18 : decode cX2_targetsIn 18 = .ok (.if_icmp .ge 27, 3) := by decide +kernel
theorem dX2_targetsIn_21 : decode cX2_targetsIn 21 = .ok (.aload_n 3, 1) := by decide +kernel
theorem dX2_targetsIn_22 : decode cX2_targetsIn 22 = .ok (.iload 5, 2) := by decide +kernel
theorem dX2_targetsIn_24 : decode cX2_targetsIn 24 = .ok (.aaload, 1) := by decide +kernel
theorem dX2_targetsIn_25 : decode cX2_targetsIn 25 = .ok (.astore 6, 2) := by decide +kernel
theorem dX2_targetsIn_27 : decode cX2_targetsIn 27 = .ok (.aload 6, 2) := by decide +kernel
theorem dX2_targetsIn_29 : decode cX2_targetsIn 29 = .ok (.getfield 128, 3) := by decide +kernel
theorem dX2_targetsIn_32 : decode cX2_targetsIn 32 = .ok (.iload_n 1, 1) := by decide +kernel
theorem dX2_targetsIn_33 : decode cX2_targetsIn 33 = .ok (.if_icmp .ne 6, 3) := by decide +kernel
theorem dX2_targetsIn_36 : decode cX2_targetsIn 36 = .ok (.iinc 2 1, 3) := by decide +kernel
theorem dX2_targetsIn_39 : decode cX2_targetsIn 39 = .ok (.iinc 5 1, 3) := by decide +kernel
theorem dX2_targetsIn_42 : decode cX2_targetsIn 42 = .ok (.goto (-28), 3) := by decide +kernel
theorem dX2_targetsIn_45 : decode cX2_targetsIn 45 = .ok (.iload_n 2, 1) := by decide +kernel
theorem dX2_targetsIn_46 : decode cX2_targetsIn 46 = .ok (.ireturn, 1) := by decide +kernel
theorem dX2_numberUnderWay_0 : decode cX2_numberUnderWay 0 = .ok (.iconst 0, 1) := by decide +kernel
theorem dX2_numberUnderWay_1 : decode cX2_numberUnderWay 1 = .ok (.istore_n 1, 1) := by decide +kernel
theorem dX2_numberUnderWay_2 : decode cX2_numberUnderWay 2 = .ok (.iload_n 1, 1) := by decide +kernel
theorem dX2_numberUnderWay_3 : decode cX2_numberUnderWay 3 = .ok (.aload_n 0, 1) := by decide +kernel
theorem dX2_numberUnderWay_4 : decode cX2_numberUnderWay 4 = .ok (.getfield 32, 3) := by decide +kernel
theorem dX2_numberUnderWay_7 : decode cX2_numberUnderWay 7 = .ok (.arraylength, 1) := by decide +kernel
theorem dX2_numberUnderWay_8 : decode cX2_numberUnderWay 8 = .ok (.if_icmp .ge 24, 3) := by decide +kernel
theorem dX2_numberUnderWay_11 : decode cX2_numberUnderWay 11 = .ok (.aload_n 0, 1) := by decide +kernel
theorem dX2_numberUnderWay_12 : decode cX2_numberUnderWay 12 = .ok (.getfield 32, 3) := by decide +kernel
theorem dX2_numberUnderWay_15 : decode cX2_numberUnderWay 15 = .ok (.iload_n 1, 1) := by decide +kernel
theorem dX2_numberUnderWay_16 : decode cX2_numberUnderWay 16 = .ok (.aaload, 1) := by decide +kernel
theorem dX2_numberUnderWay_17 : decode cX2_numberUnderWay 17 = .ok (.getfield 128, 3) := by decide +kernel
theorem dX2_numberUnderWay_20 : decode cX2_numberUnderWay 20 = .ok (.iconst 1, 1) := by decide +kernel
theorem dX2_numberUnderWay_21 : decode cX2_numberUnderWay 21 = .ok (.if_icmp .ne 5, 3) := by decide +kernel
theorem dX2_numberUnderWay_24 : decode cX2_numberUnderWay 24 = .ok (.iload_n 1, 1) := by decide +kernel
theorem dX2_numberUnderWay_25 : decode cX2_numberUnderWay 25 = .ok (.ireturn, 1) := by decide +kernel
theorem dX2_numberUnderWay_26 : decode cX2_numberUnderWay 26 = .ok (.iinc 1 1, 3) := by decide +kernel
theorem dX2_numberUnderWay_29 : decode cX2_numberUnderWay 29 = .ok (.goto (-27), 3) := by decide +kernel
theorem dX2_numberUnderWay_32 : decode cX2_numberUnderWay 32 = .ok (.iconst (-1), 1) := by decide +kernel
theorem dX2_numberUnderWay_33 : decode cX2_numberUnderWay 33 = .ok (.ireturn, 1) := by decide +kernel
theorem dX2_minutesUntilDone_0 : decode cX2_minutesUntilDone 0 = .ok (.aload_n 0, 1) := by decide +kernel
theorem dX2_minutesUntilDone_1 : decode cX2_minutesUntilDone 1 = .ok (.getfield 32, 3) := by decide +kernel
theorem dX2_minutesUntilDone_4 : decode cX2_minutesUntilDone 4 = .ok (.astore_n 1, 1) := by decide +kernel
theorem dX2_minutesUntilDone_5 : decode cX2_minutesUntilDone 5 = .ok (.aload_n 1, 1) := by decide +kernel
theorem dX2_minutesUntilDone_6 : decode cX2_minutesUntilDone 6 = .ok (.arraylength, 1) := by decide +kernel
theorem dX2_minutesUntilDone_7 : decode cX2_minutesUntilDone 7 = .ok (.istore_n 2, 1) := by decide +kernel
theorem dX2_minutesUntilDone_8 : decode cX2_minutesUntilDone 8 = .ok (.iconst 0, 1) := by decide +kernel
theorem dX2_minutesUntilDone_9 : decode cX2_minutesUntilDone 9 = .ok (.istore_n 3, 1) := by decide +kernel
theorem dX2_minutesUntilDone_10 : decode cX2_minutesUntilDone 10 = .ok (.iload_n 3, 1) := by decide +kernel
theorem dX2_minutesUntilDone_11 : decode cX2_minutesUntilDone 11 = .ok (.iload_n 2, 1) := by decide +kernel
theorem dX2_minutesUntilDone_12 : decode cX2_minutesUntilDone 12 = .ok (.if_icmp .ge 34, 3) := by decide +kernel
theorem dX2_minutesUntilDone_15 : decode cX2_minutesUntilDone 15 = .ok (.aload_n 1, 1) := by decide +kernel
theorem dX2_minutesUntilDone_16 : decode cX2_minutesUntilDone 16 = .ok (.iload_n 3, 1) := by decide +kernel
theorem dX2_minutesUntilDone_17 : decode cX2_minutesUntilDone 17 = .ok (.aaload, 1) := by decide +kernel
theorem dX2_minutesUntilDone_18 : decode cX2_minutesUntilDone 18 = .ok (.astore 4, 2) := by decide +kernel
theorem dX2_minutesUntilDone_20 : decode cX2_minutesUntilDone 20 = .ok (.aload 4, 2) := by decide +kernel
theorem dX2_minutesUntilDone_22 : decode cX2_minutesUntilDone 22 = .ok (.getfield 128, 3) := by decide +kernel
theorem dX2_minutesUntilDone_25 : decode cX2_minutesUntilDone 25 = .ok (.iconst 1, 1) := by decide +kernel
theorem dX2_minutesUntilDone_26 : decode cX2_minutesUntilDone 26 = .ok (.if_icmp .ne 14, 3) := by decide +kernel
theorem dX2_minutesUntilDone_29 : decode cX2_minutesUntilDone 29 = .ok (.aload 4, 2) := by decide +kernel
theorem dX2_minutesUntilDone_31 : decode cX2_minutesUntilDone 31 = .ok (.getfield 131, 3) := by decide +kernel
theorem dX2_minutesUntilDone_34 : decode cX2_minutesUntilDone 34 = .ok (.aload_n 0, 1) := by decide +kernel
theorem dX2_minutesUntilDone_35 : decode cX2_minutesUntilDone 35 = .ok (.getfield 50, 3) := by decide +kernel
theorem dX2_minutesUntilDone_38 : decode cX2_minutesUntilDone 38 = .ok (.isub, 1) := by decide +kernel
theorem dX2_minutesUntilDone_39 : decode cX2_minutesUntilDone 39 = .ok (.ireturn, 1) := by decide +kernel
theorem dX2_minutesUntilDone_40 : decode cX2_minutesUntilDone 40 = .ok (.iinc 3 1, 3) := by decide +kernel
theorem dX2_minutesUntilDone_43 : decode cX2_minutesUntilDone 43 = .ok (.goto (-33), 3) := by decide +kernel
theorem dX2_minutesUntilDone_46 : decode cX2_minutesUntilDone 46 = .ok (.ldc 134, 2) := by decide +kernel
theorem dX2_minutesUntilDone_48 : decode cX2_minutesUntilDone 48 = .ok (.ireturn, 1) := by decide +kernel
set_option maxRecDepth 20000 in
theorem ggX2_append_X2_targetsIn : GoodIn wsX2_append wsX2_targetsIn := goodIn_r _ [14, 1, 8, 15, 16, 17, 18, 19, 20, 21, 22, 23, 24, 25, 26, 27, 28, 29, 30, 31, 32, 33, 34, 35, 36, 37, 38, 39] (by decide +kernel) (by decide +kernel)
set_option maxRecDepth 20000 in
theorem gX2_append_X2_targetsIn : GoodIn wsX2_append (wsV RX2 135 RX2 yX2_targetsIn wsX2_targetsIn) := goodIn_app (goodIn_of _ (by decide +kernel)) ggX2_append_X2_targetsIn
theorem dX2_append_0 : decode cX2_append 0 = .ok (.aload_n 0, 1) := by decide +kernel
theorem dX2_append_1 : decode cX2_append 1 = .ok (.getfield 32, 3) := by decide +kernel
theorem dX2_append_4 : decode cX2_append 4 = .ok (.arraylength, 1) := by decide +kernel
theorem dX2_append_5 : decode cX2_append 5 = .ok (.aload_n 0, 1) := by decide +kernel
theorem dX2_append_6 : decode cX2_append 6 = .ok (.iconst 4, 1) := by decide +kernel
theorem dX2_append_7 : decode cX2_append 7 = .ok (.invokevirtual 135, 3) := by decide +kernel
theorem dX2_append_10 : decode cX2_append 10 = .ok (.isub, 1) := by decide +kernel
theorem dX2_append_11 : decode cX2_append 11 = .ok (.istore 7, 2) := by decide +kernel
theorem dX2_append_13 : decode cX2_append 13 = .ok (.iload 7, 2) := by decide +kernel
theorem dX2_append_15 : decode cX2_append 15 = .ok (.aload_n 0, 1) := by decide +kernel
theorem dX2_append_16 : decode cX2_append 16 = .ok (.getfield 32, 3) := by decide +kernel
theorem dX2_append_19 : decode cX2_append 19 = .ok (.arraylength, 1) := by decide +kernel
theorem dX2_append_20 : decode cX2_append 20 = .ok (.if_icmp .lt 5, 3) := by decide +kernel
theorem dX2_append_23 : decode cX2_append 23 = .ok (.iconst (-1), 1) := by decide +kernel
theorem dX2_append_24 : decode cX2_append 24 = .ok (.ireturn, 1) := by decide +kernel
theorem dX2_append_25 : decode cX2_append 25 = .ok (.aload_n 0, 1) := by decide +kernel
theorem dX2_append_26 : decode cX2_append 26 = .ok (.getfield 32, 3) := by decide +kernel
theorem dX2_append_29 : decode cX2_append 29 = .ok (.iload 7, 2) := by decide +kernel
theorem dX2_append_31 : decode cX2_append 31 = .ok (.aaload, 1) := by decide +kernel
theorem dX2_append_32 : decode cX2_append 32 = .ok (.astore 8, 2) := by decide +kernel
theorem dX2_append_34 : decode cX2_append 34 = .ok (.aload 8, 2) := by decide +kernel
theorem dX2_append_36 : decode cX2_append 36 = .ok (.iload_n 1, 1) := by decide +kernel
theorem dX2_append_37 : decode cX2_append 37 = .ok (.putfield 138, 3) := by decide +kernel
theorem dX2_append_40 : decode cX2_append 40 = .ok (.aload 8, 2) := by decide +kernel
theorem dX2_append_42 : decode cX2_append 42 = .ok (.iload_n 2, 1) := by decide +kernel
theorem dX2_append_43 : decode cX2_append 43 = .ok (.putfield 140, 3) := by decide +kernel
theorem dX2_append_46 : decode cX2_append 46 = .ok (.aload 8, 2) := by decide +kernel
theorem dX2_append_48 : decode cX2_append 48 = .ok (.iload_n 3, 1) := by decide +kernel
theorem dX2_append_49 : decode cX2_append 49 = .ok (.putfield 142, 3) := by decide +kernel
theorem dX2_append_52 : decode cX2_append 52 = .ok (.aload 8, 2) := by decide +kernel
theorem dX2_append_54 : decode cX2_append 54 = .ok (.iload 4, 2) := by decide +kernel
theorem dX2_append_56 : decode cX2_append 56 = .ok (.putfield 145, 3) := by decide +kernel
theorem dX2_append_59 : decode cX2_append 59 = .ok (.aload 8, 2) := by decide +kernel
theorem dX2_append_61 : decode cX2_append 61 = .ok (.iload 5, 2) := by decide +kernel
theorem dX2_append_63 : decode cX2_append 63 = .ok (.putfield 148, 3) := by decide +kernel
theorem dX2_append_66 : decode cX2_append 66 = .ok (.aload 8, 2) := by decide +kernel
theorem dX2_append_68 : decode cX2_append 68 = .ok (.iload 6, 2) := by decide +kernel
theorem dX2_append_70 : decode cX2_append 70 = .ok (.putfield 151, 3) := by decide +kernel
theorem dX2_append_73 : decode cX2_append 73 = .ok (.aload 8, 2) := by decide +kernel
theorem dX2_append_75 : decode cX2_append 75 = .ok (.iconst 0, 1) := by decide +kernel
theorem dX2_append_76 : decode cX2_append 76 = .ok (.putfield 128, 3) := by decide +kernel
theorem dX2_append_79 : decode cX2_append 79 = .ok (.aload 8, 2) := by decide +kernel
theorem dX2_append_81 : decode cX2_append 81 = .ok (.iconst 0, 1) := by decide +kernel
theorem dX2_append_82 : decode cX2_append 82 = .ok (.putfield 154, 3) := by decide +kernel
theorem dX2_append_85 : decode cX2_append 85 = .ok (.iload 7, 2) := by decide +kernel
theorem dX2_append_87 : decode cX2_append 87 = .ok (.ireturn, 1) := by decide +kernel
set_option maxRecDepth 20000 in
theorem ggX2_remove_X3_copyFrom : GoodIn wsX2_remove wsX3_copyFrom := goodIn_r _ [11, 12, 13, 14, 15, 16, 17, 18, 19, 20, 21, 22, 23, 24, 25, 37, 38, 39, 40, 41, 42, 43, 44, 45, 46, 47, 48, 49, 50] (by decide +kernel) (by decide +kernel)
set_option maxRecDepth 20000 in
theorem gX2_remove_X3_copyFrom : GoodIn wsX2_remove (wsV RX2 70 RX3 yX3_copyFrom wsX3_copyFrom) := goodIn_app (goodIn_of _ (by decide +kernel)) ggX2_remove_X3_copyFrom
theorem dX2_remove_0 : decode cX2_remove 0 = .ok (.iload_n 1, 1) := by decide +kernel
theorem dX2_remove_1 : decode cX2_remove 1 = .ok (.iconst 0, 1) := by decide +kernel
theorem dX2_remove_2 : decode cX2_remove 2 = .ok (.invokestatic 125, 3) := by decide +kernel
theorem dX2_remove_5 : decode cX2_remove 5 = .ok (.istore_n 2, 1) := by decide +kernel
theorem dX2_remove_6 : decode cX2_remove 6 = .ok (.iload_n 2, 1) := by decide +kernel
theorem dX2_remove_7 : decode cX2_remove 7 = .ok (.aload_n 0, 1) := by decide +kernel
theorem dX2_remove_8 : decode cX2_remove 8 = .ok (.getfield 32, 3) := by decide +kernel
theorem dX2_remove_11 : decode cX2_remove 11 = .ok (.arraylength, 1) := by decide +kernel
theorem dX2_remove_12 : decode cX2_remove 12 = .ok (.iconst 1, 1) := by decide +kernel
theorem dX2_remove_13 : decode cX2_remove 13 = .ok (.isub, 1) := by decide +kernel
theorem dX2_remove_14 : decode cX2_remove 14 = .ok (.if_icmp .ge 26, 3) := by decide +kernel
theorem dX2_remove_17 : decode cX2_remove 17 = .ok (.aload_n 0, 1) := by decide +kernel
theorem dX2_remove_18 : decode cX2_remove 18 = .ok (.getfield 32, 3) := by decide +kernel
theorem dX2_remove_21 : decode cX2_remove 21 = .ok (.iload_n 2, 1) := by decide +kernel
theorem dX2_remove_22 : decode cX2_remove 22 = .ok (.aaload, 1) := by decide +kernel
theorem dX2_remove_23 : decode cX2_remove 23 = .ok (.aload_n 0, 1) := by decide +kernel
theorem dX2_remove_24 : decode cX2_remove 24 = .ok (.getfield 32, 3) := by decide +kernel
theorem dX2_remove_27 : decode cX2_remove 27 = .ok (.iload_n 2, 1) := by decide +kernel
theorem dX2_remove_28 : decode cX2_remove 28 = .ok (.iconst 1, 1) := by decide +kernel
theorem dX2_remove_29 : decode cX2_remove 29 = .ok (.iadd, 1) := by decide +kernel
theorem dX2_remove_30 : decode cX2_remove 30 = .ok (.aaload, 1) := by decide +kernel
theorem dX2_remove_31 : decode cX2_remove 31 = .ok (.invokevirtual 70, 3) := by decide +kernel
theorem dX2_remove_34 : decode cX2_remove 34 = .ok (.iinc 2 1, 3) := by decide +kernel
theorem dX2_remove_37 : decode cX2_remove 37 = .ok (.goto (-31), 3) := by decide +kernel
theorem dX2_remove_40 : decode cX2_remove 40 = .ok (.aload_n 0, 1) := by decide +kernel
theorem dX2_remove_41 : decode cX2_remove 41 = .ok (.getfield 32, 3) := by decide +kernel
theorem dX2_remove_44 : decode cX2_remove 44 = .ok (.aload_n 0, 1) := by decide +kernel
theorem dX2_remove_45 : decode cX2_remove 45 = .ok (.getfield 32, 3) := by decide +kernel
theorem dX2_remove_48 : decode cX2_remove 48 = .ok (.arraylength, 1) := by decide +kernel
theorem dX2_remove_49 : decode cX2_remove 49 = .ok (.iconst 1, 1) := by decide +kernel
theorem dX2_remove_50 : decode cX2_remove 50 = .ok (.isub, 1) := by decide +kernel
theorem dX2_remove_51 : decode cX2_remove 51 = .ok (.aaload, 1) := by decide +kernel
theorem dX2_remove_52 : decode cX2_remove 52 = .ok (.iconst 4, 1) := by decide +kernel
theorem dX2_remove_53 : decode cX2_remove 53 = .ok (.putfield 128, 3) := by decide +kernel
theorem dX2_remove_56 : decode cX2_remove 56 = .ok (.return_, 1) := by decide +kernel
set_option maxRecDepth 20000 in
theorem ggX2_reasonAgainst_X2_numberUnderWay : GoodIn wsX2_reasonAgainst wsX2_numberUnderWay := goodIn_r _ [18, 19, 1, 102, 103, 104, 105, 106, 107, 108, 109, 110, 111, 112, 88, 89, 90, 91, 92, 93, 94, 95, 96, 97, 98, 99, 100, 101] (by decide +kernel) (by decide +kernel)
set_option maxRecDepth 20000 in
theorem gX2_reasonAgainst_X2_numberUnderWay : GoodIn wsX2_reasonAgainst (wsV RX2 157 RX2 yX2_numberUnderWay wsX2_numberUnderWay) := goodIn_app (goodIn_of _ (by decide +kernel)) ggX2_reasonAgainst_X2_numberUnderWay
set_option maxRecDepth 20000 in
theorem ggX2_reasonAgainst_X2_kindOfDay : GoodIn wsX2_reasonAgainst wsX2_kindOfDay := goodIn_r _ [23, 24, 25, 26, 27, 17, 28, 29, 30, 31, 32, 33, 2, 102, 103, 104, 105, 106, 107, 108, 109, 110, 111, 112] (by decide +kernel) (by decide +kernel)
set_option maxRecDepth 20000 in
theorem gX2_reasonAgainst_X2_kindOfDay : GoodIn wsX2_reasonAgainst (wsV RX2 80 RX2 yX2_kindOfDay wsX2_kindOfDay) := goodIn_app (goodIn_of _ (by decide +kernel)) ggX2_reasonAgainst_X2_kindOfDay
set_option maxRecDepth 20000 in
theorem ggX2_reasonAgainst_X2_wayRise : GoodIn wsX2_reasonAgainst wsX2_wayRise := goodIn_r _ [37, 38, 39, 24, 40, 41, 42, 43, 44, 45, 46, 47, 48, 49, 50, 51, 52, 53, 54, 55, 10, 56, 57, 58, 59, 60, 61, 62, 63, 64, 65, 66, 67, 68, 69, 70, 71, 72, 102, 103, 104, 105, 106, 107, 108, 109, 110, 111, 112, 113, 114, 115, 116, 117, 118, 119, 120, 121, 122, 123, 124, 125, 126, 127, 128, 129] (by decide +kernel) (by decide +kernel)
set_option maxRecDepth 20000 in
theorem gX2_reasonAgainst_X2_wayRise : GoodIn wsX2_reasonAgainst (wsV RX2 160 RX2 yX2_wayRise wsX2_wayRise) := goodIn_app (goodIn_of _ (by decide +kernel)) ggX2_reasonAgainst_X2_wayRise
set_option maxRecDepth 20000 in
theorem ggX2_reasonAgainst_X2_wayAround : GoodIn wsX2_reasonAgainst wsX2_wayAround := goodIn_r _ [76, 77, 78, 79, 24, 80, 5, 40, 41, 42, 43, 44, 45, 46, 47, 48, 49, 50, 51, 52, 53, 54, 55, 10, 56, 57, 58, 59, 60, 61, 62, 63, 64, 65, 66, 67, 68, 69, 70, 71, 72, 81, 82, 83, 17, 84, 85, 86, 87, 102, 103, 104, 105, 106, 107, 108, 109, 110, 111, 112, 113, 114, 115, 116, 117, 118, 119, 120, 121, 122, 123, 124, 125, 126, 127, 128, 129] (by decide +kernel) (by decide +kernel)
set_option maxRecDepth 20000 in
theorem gX2_reasonAgainst_X2_wayAround : GoodIn wsX2_reasonAgainst (wsV RX2 164 RX2 yX2_wayAround wsX2_wayAround) := goodIn_app (goodIn_of _ (by decide +kernel)) ggX2_reasonAgainst_X2_wayAround
theorem dX2_reasonAgainst_0 : decode cX2_reasonAgainst 0 = .ok (.aload_n 1, 1) := by decide +kernel
theorem dX2_reasonAgainst_1 : decode cX2_reasonAgainst 1 = .ok (.getfield 128, 3) := by decide +kernel
theorem dX2_reasonAgainst_4 : decode cX2_reasonAgainst 4 = .ok (.ifCond .eq 5, 3) := by decide +kernel
theorem dX2_reasonAgainst_7 : decode cX2_reasonAgainst 7 = .ok (.iconst 1, 1) := by decide +kernel
theorem dX2_reasonAgainst_8 : decode cX2_reasonAgainst 8 = .ok (.ireturn, 1) := by decide +kernel
theorem dX2_reasonAgainst_9 : decode cX2_reasonAgainst 9 = .ok (.aload_n 0, 1) := by decide +kernel
theorem dX2_reasonAgainst_10 : decode cX2_reasonAgainst 10 = .ok (.invokevirtual 157, 3) := by decide +kernel
theorem dX2_reasonAgainst_13 : decode cX2_reasonAgainst 13 = .ok (.iconst (-1), 1) := by decide +kernel
theorem dX2_reasonAgainst_14 : decode cX2_reasonAgainst 14 = .ok (.if_icmp .eq 5, 3) := by decide +kernel
theorem dX2_reasonAgainst_17 : decode cX2_reasonAgainst 17 = .ok (.iconst 2, 1) := by decide +kernel
theorem dX2_reasonAgainst_18 : decode cX2_reasonAgainst 18 = .ok (.ireturn, 1) := by decide +kernel
theorem dX2_reasonAgainst_19 : decode cX2_reasonAgainst 19 = .ok (.aload_n 0, 1) := by decide +kernel
theorem dX2_reasonAgainst_20 : decode cX2_reasonAgainst 20 = .ok (.invokevirtual 80, 3) := by decide +kernel
theorem dX2_reasonAgainst_23 : decode cX2_reasonAgainst 23 = .ok (.ifCond .ne 5, 3) := by decide +kernel
theorem dX2_reasonAgainst_26 : decode cX2_reasonAgainst 26 = .ok (.iconst 3, 1) := by decide +kernel
theorem dX2_reasonAgainst_27 : decode cX2_reasonAgainst 27 = .ok (.ireturn, 1) := by decide +kernel
theorem dX2_reasonAgainst_28 : decode cX2_reasonAgainst 28 = .ok (.aload_n 0, 1) := by decide +kernel
theorem dX2_reasonAgainst_29 : decode cX2_reasonAgainst 29 = .ok (.getfield 50, 3) := by decide +kernel
theorem dX2_reasonAgainst_32 : decode cX2_reasonAgainst 32 = .ok (.aload_n 1, 1) := by decide +kernel
theorem dX2_reasonAgainst_33 : decode cX2_reasonAgainst 33 = .ok (.getfield 142, 3) := by decide +kernel
theorem dX2_reasonAgainst_36 : decode cX2_reasonAgainst 36 = .ok (.if_icmp .ge 5, 3) := by decide +kernel
theorem dX2_reasonAgainst_39 : decode cX2_reasonAgainst 39 = .ok (.iconst 4, 1) := by decide +kernel
theorem dX2_reasonAgainst_40 : decode cX2_reasonAgainst 40 = .ok (.ireturn, 1) := by decide +kernel
theorem dX2_reasonAgainst_41 : decode cX2_reasonAgainst 41 = .ok (.aload_n 0, 1) := by decide +kernel
theorem dX2_reasonAgainst_42 : decode cX2_reasonAgainst 42 = .ok (.aload_n 1, 1) := by decide +kernel
theorem dX2_reasonAgainst_43 : decode cX2_reasonAgainst 43 = .ok (.getfield 140, 3) := by decide +kernel
theorem dX2_reasonAgainst_46 : decode cX2_reasonAgainst 46 = .ok (.invokevirtual 160, 3) := by decide +kernel
theorem dX2_reasonAgainst_49 : decode cX2_reasonAgainst 49 = .ok (.astore_n 2, 1) := by decide +kernel
theorem dX2_reasonAgainst_50 : decode cX2_reasonAgainst 50 = .ok (.aload_n 2, 1) := by decide +kernel
theorem dX2_reasonAgainst_51 : decode cX2_reasonAgainst 51 = .ok (.getfield 102, 3) := by decide +kernel
theorem dX2_reasonAgainst_54 : decode cX2_reasonAgainst 54 = .ok (.ifCond .ne 5, 3) := by decide +kernel
theorem dX2_reasonAgainst_57 : decode cX2_reasonAgainst 57 = .ok (.iconst 5, 1) := by decide +kernel
theorem dX2_reasonAgainst_58 : decode cX2_reasonAgainst 58 = .ok (.ireturn, 1) := by decide +kernel
theorem dX2_reasonAgainst_59 : decode cX2_reasonAgainst 59 = .ok (.aload_n 0, 1) := by decide +kernel
theorem dX2_reasonAgainst_60 : decode cX2_reasonAgainst 60 = .ok (.aload_n 1, 1) := by decide +kernel
theorem dX2_reasonAgainst_61 : decode cX2_reasonAgainst 61 = .ok (.getfield 138, 3) := by decide +kernel
theorem dX2_reasonAgainst_64 : decode cX2_reasonAgainst 64 = .ok (.invokevirtual 164, 3) := by decide +kernel
theorem dX2_reasonAgainst_67 : decode cX2_reasonAgainst 67 = .ok (.astore_n 3, 1) := by decide +kernel
theorem dX2_reasonAgainst_68 : decode cX2_reasonAgainst 68 = .ok (.aload_n 3, 1) := by decide +kernel
theorem dX2_reasonAgainst_69 : decode cX2_reasonAgainst 69 = .ok (.getfield 102, 3) := by decide +kernel
theorem dX2_reasonAgainst_72 : decode cX2_reasonAgainst 72 = .ok (.ifCond .ne 6, 3) := by decide +kernel
theorem dX2_reasonAgainst_75 : decode cX2_reasonAgainst 75 = .ok (.bipush 6, 2) := by decide +kernel
theorem dX2_reasonAgainst_77 : decode cX2_reasonAgainst 77 = .ok (.ireturn, 1) := by decide +kernel
theorem dX2_reasonAgainst_78 : decode cX2_reasonAgainst 78 = .ok (.aload_n 0, 1) := by decide +kernel
theorem dX2_reasonAgainst_79 : decode cX2_reasonAgainst 79 = .ok (.getfield 50, 3) := by decide +kernel
theorem dX2_reasonAgainst_82 : decode cX2_reasonAgainst 82 = .ok (.aload_n 3, 1) := by decide +kernel
theorem dX2_reasonAgainst_83 : decode cX2_reasonAgainst 83 = .ok (.getfield 124, 3) := by decide +kernel
theorem dX2_reasonAgainst_86 : decode cX2_reasonAgainst 86 = .ok (.aload_n 2, 1) := by decide +kernel
theorem dX2_reasonAgainst_87 : decode cX2_reasonAgainst 87 = .ok (.getfield 124, 3) := by decide +kernel
theorem dX2_reasonAgainst_90 : decode cX2_reasonAgainst 90 = .ok (.invokestatic 125, 3) := by decide +kernel
theorem dX2_reasonAgainst_93 : decode cX2_reasonAgainst 93 = .ok (.iadd, 1) := by decide +kernel
theorem dX2_reasonAgainst_94 : decode cX2_reasonAgainst 94 = .ok (.aload_n 1, 1) := by decide +kernel
theorem dX2_reasonAgainst_95 : decode cX2_reasonAgainst 95 = .ok (.getfield 148, 3) := by decide +kernel
theorem dX2_reasonAgainst_98 : decode cX2_reasonAgainst 98 = .ok (.iadd, 1) := by decide +kernel
theorem dX2_reasonAgainst_99 : decode cX2_reasonAgainst 99 = .ok (.aload_n 1, 1) := by decide +kernel
theorem dX2_reasonAgainst_100 : decode cX2_reasonAgainst 100 = .ok (.getfield 145, 3) := by decide +kernel
theorem dX2_reasonAgainst_103 : decode cX2_reasonAgainst 103 = .ok (.if_icmp .le 8, 3) := by decide +kernel
theorem dX2_reasonAgainst_106 : decode cX2_reasonAgainst 106 = .ok (.bipush 7, 2) := by decide +kernel
theorem dX2_reasonAgainst_108 : decode cX2_reasonAgainst 108 = .ok (.goto 4, 3) := by decide +kernel
theorem dX2_reasonAgainst_111 : decode cX2_reasonAgainst 111 = .ok (.iconst 0, 1) := by decide +kernel
theorem dX2_reasonAgainst_112 : decode cX2_reasonAgainst 112 = .ok (.ireturn, 1) := by decide +kernel
set_option maxRecDepth 20000 in
theorem ggX2_bestToBegin_X2_reasonAgainst : GoodIn wsX2_bestToBegin wsX2_reasonAgainst := goodIn_r _ [6, 7, 8, 9, 10, 11, 12, 13, 14, 15, 16, 17, 18, 19, 20, 21, 22, 5, 23, 1, 24, 25, 26, 27, 28, 29, 30, 31, 32, 33, 34, 35, 36, 37, 38, 39, 40, 41, 42, 43, 44, 45, 46, 47, 48, 49, 50, 51, 52, 53, 54, 55, 56, 57, 58, 59, 60, 61, 62, 63, 64, 65, 66, 67, 68, 69, 70, 71, 72, 73, 74, 75, 76, 77, 78, 79, 80, 81, 82, 83, 84, 85, 86, 87, 88, 89, 90, 91, 110, 111, 112, 113, 114, 115, 116, 117, 118, 119, 120, 121, 122, 123, 99, 100, 101, 102, 103, 104, 105, 106, 107, 108, 109, 124, 125, 126, 127, 128, 129, 130, 131, 132, 133, 134, 135, 136, 137, 138, 139, 140] (by decide +kernel) (by decide +kernel)
set_option maxRecDepth 20000 in
theorem gX2_bestToBegin_X2_reasonAgainst : GoodIn wsX2_bestToBegin (wsV RX2 167 RX2 yX2_reasonAgainst wsX2_reasonAgainst) := goodIn_app (goodIn_of _ (by decide +kernel)) ggX2_bestToBegin_X2_reasonAgainst
set_option maxRecDepth 20000 in
theorem ggX2_bestToBegin_X3_isBetterThan : GoodIn wsX2_bestToBegin wsX3_isBetterThan := goodIn_r _ [96, 97, 98, 110, 111, 112, 113, 114, 115, 116, 117, 118, 119, 120, 121, 122, 123] (by decide +kernel) (by decide +kernel)
set_option maxRecDepth 20000 in
theorem gX2_bestToBegin_X3_isBetterThan : GoodIn wsX2_bestToBegin (wsV RX2 171 RX3 yX3_isBetterThan wsX3_isBetterThan) := goodIn_app (goodIn_of _ (by decide +kernel)) ggX2_bestToBegin_X3_isBetterThan
theorem dX2_bestToBegin_0 : decode cX2_bestToBegin 0 = .ok (.iconst (-1), 1) := by decide +kernel
theorem dX2_bestToBegin_1 : decode cX2_bestToBegin 1 = .ok (.istore_n 1, 1) := by decide +kernel
theorem dX2_bestToBegin_2 : decode cX2_bestToBegin 2 = .ok (.iconst 0, 1) := by decide +kernel
theorem dX2_bestToBegin_3 : decode cX2_bestToBegin 3 = .ok (.istore_n 2, 1) := by decide +kernel
theorem dX2_bestToBegin_4 : decode cX2_bestToBegin 4 = .ok (.iload_n 2, 1) := by decide +kernel
theorem dX2_bestToBegin_5 : decode cX2_bestToBegin 5 = .ok (.aload_n 0, 1) := by decide +kernel
theorem dX2_bestToBegin_6 : decode cX2_bestToBegin 6 = .ok (.getfield 32, 3) := by decide +kernel
theorem dX2_bestToBegin_9 : decode cX2_bestToBegin 9 = .ok (.arraylength, 1) := by decide +kernel
theorem dX2_bestToBegin_10 : decode cX2_bestToBegin 10 = .ok (.if_icmp .ge 47, 3) := by decide +kernel
theorem dX2_bestToBegin_13 : decode cX2_bestToBegin 13 = .ok (.aload_n 0, 1) := by decide +kernel
theorem dX2_bestToBegin_14 : decode cX2_bestToBegin 14 = .ok (.aload_n 0, 1) := by decide +kernel
theorem dX2_bestToBegin_15 : decode cX2_bestToBegin 15 = .ok (.getfield 32, 3) := by decide +kernel
theorem dX2_bestToBegin_18 : decode cX2_bestToBegin 18 = .ok (.iload_n 2, 1) := by decide +kernel
theorem dX2_bestToBegin_19 : decode cX2_bestToBegin 19 = .ok (.aaload, 1) := by decide +kernel
theorem dX2_bestToBegin_20 : decode cX2_bestToBegin 20 = .ok (.invokevirtual 167, 3) := by decide +kernel
theorem dX2_bestToBegin_23 : decode cX2_bestToBegin 23 = .ok (.ifCond .ne 28, 3) := by decide +kernel
theorem dX2_bestToBegin_26 : decode cX2_bestToBegin 26 = .ok (.iload_n 1, 1) := by decide +kernel
theorem dX2_bestToBegin_27 : decode cX2_bestToBegin 27 = .ok (.iconst (-1), 1) := by decide +kernel
theorem dX2_bestToBegin_28 : decode cX2_bestToBegin 28 = .ok (.if_icmp .eq 21, 3) := by decide +kernel
theorem dX2_bestToBegin_31 : decode cX2_bestToBegin 31 = .ok (.aload_n 0, 1) := by decide +kernel
theorem dX2_bestToBegin_32 : decode cX2_bestToBegin 32 = .ok (.getfield 32, 3) := by decide +kernel
theorem dX2_bestToBegin_35 : decode cX2_bestToBegin 35 = .ok (.iload_n 2, 1) := by decide +kernel
theorem dX2_bestToBegin_36 : decode cX2_bestToBegin 36 = .ok (.aaload, 1) := by decide +kernel
theorem dX2_bestToBegin_37 : decode cX2_bestToBegin 37 = .ok (.aload_n 0, 1) := by decide +kernel
theorem dX2_bestToBegin_38 : decode cX2_bestToBegin 38 = .ok (.getfield 32, 3) := by decide +kernel
theorem dX2_bestToBegin_41 : decode cX2_bestToBegin 41 = .ok (.iload_n 1, 1) := by decide +kernel
theorem dX2_bestToBegin_42 : decode cX2_bestToBegin 42 = .ok (.aaload, 1) := by decide +kernel
theorem dX2_bestToBegin_43 : decode cX2_bestToBegin 43 = .ok (.invokevirtual 171, 3) := by decide +kernel
theorem dX2_bestToBegin_46 : decode cX2_bestToBegin 46 = .ok (.ifCond .eq 5, 3) := by decide +kernel
theorem dX2_bestToBegin_49 : decode cX2_bestToBegin 49 = .ok (.iload_n 2, 1) := by decide +kernel
theorem dX2_bestToBegin_50 : decode cX2_bestToBegin 50 = .ok (.istore_n 1, 1) := by decide +kernel
theorem dX2_bestToBegin_51 : decode cX2_bestToBegin 51 = .ok (.iinc 2 1, 3) := by decide +kernel
theorem dX2_bestToBegin_54 : decode cX2_bestToBegin 54 = .ok (.goto (-50), 3) := by decide +kernel
theorem dX2_bestToBegin_57 : decode cX2_bestToBegin 57 = .ok (.iload_n 1, 1) := by decide +kernel
theorem dX2_bestToBegin_58 : decode cX2_bestToBegin 58 = .ok (.ireturn, 1) := by decide +kernel
set_option maxRecDepth 20000 in
theorem ggX2_letPass_X2_kindOfDay : GoodIn wsX2_letPass wsX2_kindOfDay := goodIn_r _ [7, 8, 9, 10, 11, 6, 12, 13, 14, 15, 16, 17, 1, 165, 166, 167, 168, 169, 170, 171, 172, 173, 174, 175] (by decide +kernel) (by decide +kernel)
set_option maxRecDepth 20000 in
theorem gX2_letPass_X2_kindOfDay : GoodIn wsX2_letPass (wsV RX2 80 RX2 yX2_kindOfDay wsX2_kindOfDay) := goodIn_app (goodIn_of _ (by decide +kernel)) ggX2_letPass_X2_kindOfDay
set_option maxRecDepth 20000 in
theorem ggX2_letPass_X2_beginHold : GoodIn wsX2_letPass wsX2_beginHold := goodIn_r _ [21, 22, 2, 23, 24, 25, 26, 27, 28, 29, 30, 31, 32, 33, 34, 35, 36, 37, 38, 39, 40, 41, 42, 165, 166, 167, 168, 169, 170, 171, 172, 173, 174, 175, 176, 177, 178, 179, 180, 181, 182, 183, 184, 185, 186, 187, 188, 189, 190, 191, 192, 193, 194, 195, 196, 197, 198, 199] (by decide +kernel) (by decide +kernel)
set_option maxRecDepth 20000 in
theorem gX2_letPass_X2_beginHold : GoodIn wsX2_letPass (wsV RX2 175 RX2 yX2_beginHold wsX2_beginHold) := goodIn_app (goodIn_of _ (by decide +kernel)) ggX2_letPass_X2_beginHold
set_option maxRecDepth 20000 in
theorem ggX2_letPass_X2_endWhatIsOver : GoodIn wsX2_letPass wsX2_endWhatIsOver := goodIn_r _ [46, 2, 23, 47, 1, 48, 49, 50, 6, 51, 52, 53, 54, 55, 56, 57, 58, 59, 60, 61, 62, 63, 3, 4, 5, 7, 8, 9, 10, 11, 12, 13, 14, 15, 16, 17, 64, 65, 66, 29, 67, 31, 33, 165, 166, 167, 168, 169, 170, 171, 172, 173, 174, 175, 176, 177, 178, 179, 180, 181, 182, 183, 184, 185, 186, 187, 188, 189, 190, 191, 192, 193, 194, 195, 196, 197, 198, 199] (by decide +kernel) (by decide +kernel)
set_option maxRecDepth 20000 in
theorem gX2_letPass_X2_endWhatIsOver : GoodIn wsX2_letPass (wsV RX2 178 RX2 yX2_endWhatIsOver wsX2_endWhatIsOver) := goodIn_app (goodIn_of _ (by decide +kernel)) ggX2_letPass_X2_endWhatIsOver
set_option maxRecDepth 20000 in
theorem ggX2_letPass_X2_bestToBegin : GoodIn wsX2_letPass wsX2_bestToBegin := goodIn_r _ [71, 2, 72, 73, 74, 6, 75, 23, 1, 76, 77, 78, 79, 80, 81, 41, 37, 42, 82, 47, 83, 84, 85, 86, 3, 4, 5, 7, 8, 9, 10, 11, 12, 13, 14, 15, 16, 17, 87, 88, 89, 90, 91, 25, 92, 93, 94, 95, 96, 97, 98, 99, 100, 101, 102, 103, 104, 105, 106, 107, 108, 109, 110, 111, 112, 65, 66, 29, 67, 31, 33, 113, 114, 115, 116, 117, 118, 119, 120, 121, 122, 123, 53, 124, 125, 126, 127, 128, 129, 130, 131, 132, 133, 134, 135, 136, 137, 138, 139, 165, 166, 167, 168, 169, 170, 171, 172, 173, 174, 175, 176, 177, 178, 179, 180, 181, 182, 183, 184, 185, 186, 187, 188, 189, 200, 201, 202, 203, 204, 205, 206, 190, 191, 192, 193, 194, 195, 196, 197, 198, 199] (by decide +kernel) (by decide +kernel)
set_option maxRecDepth 20000 in
theorem gX2_letPass_X2_bestToBegin : GoodIn wsX2_letPass (wsV RX2 181 RX2 yX2_bestToBegin wsX2_bestToBegin) := goodIn_app (goodIn_of _ (by decide +kernel)) ggX2_letPass_X2_bestToBegin
set_option maxRecDepth 20000 in
theorem ggX2_letPass_X2_begin : GoodIn wsX2_letPass wsX2_begin := goodIn_r _ [143, 79, 77, 23, 130, 54, 1, 144, 61, 82, 52, 60, 119, 120, 121, 6, 122, 123, 53, 124, 8, 125, 78, 92, 93, 94, 95, 96, 97, 98, 99, 100, 101, 102, 103, 104, 105, 106, 107, 37, 108, 109, 110, 111, 112, 65, 66, 29, 67, 31, 33, 113, 114, 115, 116, 117, 118, 126, 127, 128, 129, 131, 132, 87, 88, 89, 90, 91, 25, 145, 146, 147, 148, 149, 80, 81, 41, 42, 150, 151, 152, 153, 154, 155, 156, 27, 28, 30, 32, 34, 35, 36, 38, 39, 40, 56, 57, 58, 59, 62, 63, 3, 4, 5, 7, 9, 10, 11, 12, 13, 14, 15, 16, 17, 176, 177, 178, 179, 180, 181, 182, 183, 184, 185, 186, 187, 188, 189, 200, 201, 202, 203, 204, 205, 206, 165, 166, 167, 168, 169, 170, 171, 172, 173, 174, 175, 190, 191, 192, 193, 194, 195, 196, 197, 198, 199] (by decide +kernel) (by decide +kernel)
set_option maxRecDepth 20000 in
theorem gX2_letPass_X2_begin : GoodIn wsX2_letPass (wsV RX2 184 RX2 yX2_begin wsX2_begin) := goodIn_app (goodIn_of _ (by decide +kernel)) ggX2_letPass_X2_begin
set_option maxRecDepth 20000 in
theorem ggX2_letPass_X2_nextEvent : GoodIn wsX2_letPass wsX2_nextEvent := goodIn_r _ [160, 2, 23, 61, 52, 76, 47, 14, 15, 16, 6, 17, 1, 161, 162, 163, 164, 165, 166, 167, 168, 169, 170, 171, 172, 173, 174, 175, 176, 177, 178, 179, 180, 181, 182, 183, 184, 185, 186, 187, 188, 189] (by decide +kernel) (by decide +kernel)
set_option maxRecDepth 20000 in
theorem gX2_letPass_X2_nextEvent : GoodIn wsX2_letPass (wsV RX2 187 RX2 yX2_nextEvent wsX2_nextEvent) := goodIn_app (goodIn_of _ (by decide +kernel)) ggX2_letPass_X2_nextEvent
theorem dX2_letPass_0 : decode cX2_letPass 0 = .ok (.aload_n 0, 1) := by decide +kernel
theorem dX2_letPass_1 : decode cX2_letPass 1 = .ok (.getfield 50, 3) := by decide +kernel
theorem dX2_letPass_4 : decode cX2_letPass 4 = .ok (.istore_n 2, 1) := by decide +kernel
theorem dX2_letPass_5 : decode cX2_letPass 5 = .ok (.iload_n 2, 1) := by decide +kernel
theorem dX2_letPass_6 : decode cX2_letPass 6 = .ok (.iload_n 1, 1) := by decide +kernel
theorem dX2_letPass_7 : decode cX2_letPass 7 = .ok (.iadd, 1) := by decide +kernel
theorem dX2_letPass_8 : decode cX2_letPass 8 = .ok (.istore_n 3, 1) := by decide +kernel
theorem dX2_letPass_9 : decode cX2_letPass 9 = .ok (.iload_n 2, 1) := by decide +kernel
theorem dX2_letPass_10 : decode cX2_letPass 10 = .ok (.istore 4, 2) := by decide +kernel
theorem dX2_letPass_12 : decode cX2_letPass 12 = .ok (.iload_n 2, 1) := by decide +kernel
theorem dX2_letPass_13 : decode cX2_letPass 13 = .ok (.istore 5, 2) := by decide +kernel
theorem dX2_letPass_15 : decode cX2_letPass 15 = .ok (.iload 5, 2) := by decide +kernel
theorem dX2_letPass_17 : decode cX2_letPass 17 = .ok (.iload_n 3, 1) := by decide +kernel
theorem dX2_letPass_18 : decode cX2_letPass 18 = .ok (.if_icmp .gt 81, 3) := by decide +kernel
theorem dX2_letPass_21 : decode cX2_letPass 21 = .ok (.iload 5, 2) := by decide +kernel
theorem dX2_letPass_23 : decode cX2_letPass 23 = .ok (.iload 4, 2) := by decide +kernel
theorem dX2_letPass_25 : decode cX2_letPass 25 = .ok (.if_icmp .lt 68, 3) := by decide +kernel
theorem dX2_letPass_28 : decode cX2_letPass 28 = .ok (.aload_n 0, 1) := by decide +kernel
theorem dX2_letPass_29 : decode cX2_letPass 29 = .ok (.iload 5, 2) := by decide +kernel
theorem dX2_letPass_31 : decode cX2_letPass 31 = .ok (.putfield 50, 3) := by decide +kernel
theorem dX2_letPass_34 : decode cX2_letPass 34 = .ok (.iload 5, 2) := by decide +kernel
theorem dX2_letPass_36 : decode cX2_letPass 36 = .ok (.iload_n 2, 1) := by decide +kernel
theorem dX2_letPass_37 : decode cX2_letPass 37 = .ok (.if_icmp .le 23, 3) := by decide +kernel
theorem dX2_letPass_40 : decode cX2_letPass 40 = .ok (.iload 5, 2) := by decide +kernel
theorem dX2_letPass_42 : decode cX2_letPass 42 = .ok (.sipush 1440, 3) := by decide +kernel
theorem dX2_letPass_45 : decode cX2_letPass 45 = .ok (.irem, 1) := by decide +kernel
theorem dX2_letPass_46 : decode cX2_letPass 46 = .ok (.ifCond .ne 14, 3) := by decide +kernel
theorem dX2_letPass_49 : decode cX2_letPass 49 = .ok (.aload_n 0, 1) := by decide +kernel
theorem dX2_letPass_50 : decode cX2_letPass 50 = .ok (.invokevirtual 80, 3) := by decide +kernel
theorem dX2_letPass_53 : decode cX2_letPass 53 = .ok (.ifCond .ne 7, 3) := by decide +kernel
theorem dX2_letPass_56 : decode cX2_letPass 56 = .ok (.aload_n 0, 1) := by decide +kernel
theorem dX2_letPass_57 : decode cX2_letPass 57 = .ok (.invokevirtual 175, 3) := by decide +kernel
theorem dX2_letPass_60 : decode cX2_letPass 60 = .ok (.aload_n 0, 1) := by decide +kernel
theorem dX2_letPass_61 : decode cX2_letPass 61 = .ok (.invokevirtual 178, 3) := by decide +kernel
theorem dX2_letPass_64 : decode cX2_letPass 64 = .ok (.aload_n 0, 1) := by decide +kernel
theorem dX2_letPass_65 : decode cX2_letPass 65 = .ok (.invokevirtual 181, 3) := by decide +kernel
theorem dX2_letPass_68 : decode cX2_letPass 68 = .ok (.istore 6, 2) := by decide +kernel
theorem dX2_letPass_70 : decode cX2_letPass 70 = .ok (.iload 6, 2) := by decide +kernel
theorem dX2_letPass_72 : decode cX2_letPass 72 = .ok (.iconst (-1), 1) := by decide +kernel
theorem dX2_letPass_73 : decode cX2_letPass 73 = .ok (.if_icmp .eq 14, 3) := by decide +kernel
theorem dX2_letPass_76 : decode cX2_letPass 76 = .ok (.aload_n 0, 1) := by decide +kernel
theorem dX2_letPass_77 : decode cX2_letPass 77 = .ok (.aload_n 0, 1) := by decide +kernel
theorem dX2_letPass_78 : decode cX2_letPass 78 = .ok (.getfield 32, 3) := by decide +kernel
theorem dX2_letPass_81 : decode cX2_letPass 81 = .ok (.iload 6, 2) := by decide +kernel
theorem dX2_letPass_83 : decode cX2_letPass 83 = .ok (.aaload, 1) := by decide +kernel
theorem dX2_letPass_84 : decode cX2_letPass 84 = .ok (.invokevirtual 184, 3) := by decide +kernel
theorem dX2_letPass_87 : decode cX2_letPass 87 = .ok (.aload_n 0, 1) := by decide +kernel
theorem dX2_letPass_88 : decode cX2_letPass 88 = .ok (.invokevirtual 187, 3) := by decide +kernel
theorem dX2_letPass_91 : decode cX2_letPass 91 = .ok (.istore 4, 2) := by decide +kernel
theorem dX2_letPass_93 : decode cX2_letPass 93 = .ok (.iinc 5 1, 3) := by decide +kernel
theorem dX2_letPass_96 : decode cX2_letPass 96 = .ok (.goto (-81), 3) := by decide +kernel
theorem dX2_letPass_99 : decode cX2_letPass 99 = .ok (.aload_n 0, 1) := by decide +kernel
theorem dX2_letPass_100 : decode cX2_letPass 100 = .ok (.iload_n 3, 1) := by decide +kernel
theorem dX2_letPass_101 : decode cX2_letPass 101 = .ok (.putfield 50, 3) := by decide +kernel
theorem dX2_letPass_104 : decode cX2_letPass 104 = .ok (.return_, 1) := by decide +kernel
set_option maxRecDepth 20000 in
theorem ggX2_nextEvent_X2_day : GoodIn wsX2_nextEvent wsX2_day := goodIn_r _ [11, 12, 17, 18, 19, 20, 21, 22, 23, 24, 25, 26, 27] (by decide +kernel) (by decide +kernel)
set_option maxRecDepth 20000 in
theorem gX2_nextEvent_X2_day : GoodIn wsX2_nextEvent (wsV RX2 73 RX2 yX2_day wsX2_day) := goodIn_app (goodIn_of _ (by decide +kernel)) ggX2_nextEvent_X2_day
set_option maxRecDepth 20000 in
theorem ggX2_nextEvent_X2_sooner : GoodIn wsX2_nextEvent wsX2_sooner := goodIn_r _ [16, 12, 17, 18, 19, 20, 21, 22, 23, 24, 25, 26, 27] (by decide +kernel) (by decide +kernel)
set_option maxRecDepth 20000 in
theorem gX2_nextEvent_X2_sooner : GoodIn wsX2_nextEvent (wsV RX2 193 RX2 yX2_sooner wsX2_sooner) := goodIn_app (goodIn_of _ (by decide +kernel)) ggX2_nextEvent_X2_sooner
theorem dX2_nextEvent_0 : decode cX2_nextEvent 0 = .ok (.aload_n 0, 1) := by decide +kernel
theorem dX2_nextEvent_1 : decode cX2_nextEvent 1 = .ok (.invokevirtual 73, 3) := by decide +kernel
theorem dX2_nextEvent_4 : decode cX2_nextEvent 4 = .ok (.iconst 1, 1) := by decide +kernel
theorem dX2_nextEvent_5 : decode cX2_nextEvent 5 = .ok (.iadd, 1) := by decide +kernel
theorem dX2_nextEvent_6 : decode cX2_nextEvent 6 = .ok (.sipush 1440, 3) := by decide +kernel
theorem dX2_nextEvent_9 : decode cX2_nextEvent 9 = .ok (.imul, 1) := by decide +kernel
theorem dX2_nextEvent_10 : decode cX2_nextEvent 10 = .ok (.istore_n 1, 1) := by decide +kernel
theorem dX2_nextEvent_11 : decode cX2_nextEvent 11 = .ok (.aload_n 0, 1) := by decide +kernel
theorem dX2_nextEvent_12 : decode cX2_nextEvent 12 = .ok (.getfield 32, 3) := by decide +kernel
theorem dX2_nextEvent_15 : decode cX2_nextEvent 15 = .ok (.astore_n 2, 1) := by decide +kernel
theorem dX2_nextEvent_16 : decode cX2_nextEvent 16 = .ok (.aload_n 2, 1) := by decide +kernel
theorem dX2_nextEvent_17 : decode cX2_nextEvent 17 = .ok (.arraylength, 1) := by decide +kernel
theorem dX2_nextEvent_18 : decode cX2_nextEvent 18 = .ok (.istore_n 3, 1) := by decide +kernel
theorem dX2_nextEvent_19 : decode cX2_nextEvent 19 = .ok (.iconst 0, 1) := by decide +kernel
theorem dX2_nextEvent_20 : decode cX2_nextEvent 20 = .ok (.istore 4, 2) := by decide +kernel
theorem dX2_nextEvent_22 : decode cX2_nextEvent 22 = .ok (.iload 4, 2) := by decide +kernel
theorem dX2_nextEvent_24 : decode cX2_nextEvent 24 = .ok (.iload_n 3, 1) := by decide +kernel
theorem dX2_nextEvent_25 : decode cX2_nextEvent 25 = .ok (.if_icmp .ge 79, 3) := by decide +kernel
theorem dX2_nextEvent_28 : decode cX2_nextEvent 28 = .ok (.aload_n 2, 1) := by decide +kernel
theorem dX2_nextEvent_29 : decode cX2_nextEvent 29 = .ok (.iload 4, 2) := by decide +kernel
theorem dX2_nextEvent_31 : decode cX2_nextEvent 31 = .ok (.aaload, 1) := by decide +kernel
theorem dX2_nextEvent_32 : decode cX2_nextEvent 32 = .ok (.astore 5, 2) := by decide +kernel
theorem dX2_nextEvent_34 : decode cX2_nextEvent 34 = .ok (.aload 5, 2) := by decide +kernel
theorem dX2_nextEvent_36 : decode cX2_nextEvent 36 = .ok (.getfield 128, 3) := by decide +kernel
theorem dX2_nextEvent_39 : decode cX2_nextEvent 39 = .ok (.iconst 1, 1) := by decide +kernel
theorem dX2_nextEvent_40 : decode cX2_nextEvent 40 = .ok (.if_icmp .ne 28, 3) := by decide +kernel
theorem dX2_nextEvent_43 : decode cX2_nextEvent 43 = .ok (.aload_n 0, 1) := by decide +kernel
theorem dX2_nextEvent_44 : decode cX2_nextEvent 44 = .ok (.iload_n 1, 1) := by decide +kernel
theorem dX2_nextEvent_45 : decode cX2_nextEvent 45 = .ok (.aload 5, 2) := by decide +kernel
theorem dX2_nextEvent_47 : decode cX2_nextEvent 47 = .ok (.getfield 190, 3) := by decide +kernel
theorem dX2_nextEvent_50 : decode cX2_nextEvent 50 = .ok (.invokevirtual 193, 3) := by decide +kernel
theorem dX2_nextEvent_53 : decode cX2_nextEvent 53 = .ok (.istore_n 1, 1) := by decide +kernel
theorem dX2_nextEvent_54 : decode cX2_nextEvent 54 = .ok (.aload_n 0, 1) := by decide +kernel
theorem dX2_nextEvent_55 : decode cX2_nextEvent 55 = .ok (.iload_n 1, 1) := by decide +kernel
theorem dX2_nextEvent_56 : decode cX2_nextEvent 56 = .ok (.aload 5, 2) := by decide +kernel
theorem dX2_nextEvent_58 : decode cX2_nextEvent 58 = .ok (.getfield 131, 3) := by decide +kernel
theorem dX2_nextEvent_61 : decode cX2_nextEvent 61 = .ok (.invokevirtual 193, 3) := by decide +kernel
theorem dX2_nextEvent_64 : decode cX2_nextEvent 64 = .ok (.istore_n 1, 1) := by decide +kernel
theorem dX2_nextEvent_65 : decode cX2_nextEvent 65 = .ok (.goto 33, 3) := by decide +kernel
theorem dX2_nextEvent_68 : decode cX2_nextEvent 68 = .ok (.aload 5, 2) := by decide +kernel
theorem dX2_nextEvent_70 : decode cX2_nextEvent 70 = .ok (.getfield 128, 3) := by decide +kernel
theorem dX2_nextEvent_73 : decode cX2_nextEvent 73 = .ok (.ifCond .ne 25, 3) := by decide +kernel
theorem dX2_nextEvent_76 : decode cX2_nextEvent 76 = .ok (.aload_n 0, 1) := by decide +kernel
theorem dX2_nextEvent_77 : decode cX2_nextEvent 77 = .ok (.iload_n 1, 1) := by decide +kernel
theorem dX2_nextEvent_78 : decode cX2_nextEvent 78 = .ok (.aload 5, 2) := by decide +kernel
theorem dX2_nextEvent_80 : decode cX2_nextEvent 80 = .ok (.getfield 142, 3) := by decide +kernel
theorem dX2_nextEvent_83 : decode cX2_nextEvent 83 = .ok (.invokevirtual 193, 3) := by decide +kernel
theorem dX2_nextEvent_86 : decode cX2_nextEvent 86 = .ok (.istore_n 1, 1) := by decide +kernel
theorem dX2_nextEvent_87 : decode cX2_nextEvent 87 = .ok (.aload_n 0, 1) := by decide +kernel
theorem dX2_nextEvent_88 : decode cX2_nextEvent 88 = .ok (.iload_n 1, 1) := by decide +kernel
theorem dX2_nextEvent_89 : decode cX2_nextEvent 89 = .ok (.aload 5, 2) := by decide +kernel
theorem dX2_nextEvent_91 : decode cX2_nextEvent 91 = .ok (.getfield 145, 3) := by decide +kernel
theorem dX2_nextEvent_94 : decode cX2_nextEvent 94 = .ok (.invokevirtual 193, 3) := by decide +kernel
theorem dX2_nextEvent_97 : decode cX2_nextEvent 97 = .ok (.istore_n 1, 1) := by decide +kernel
theorem dX2_nextEvent_98 : decode cX2_nextEvent 98 = .ok (.iinc 4 1, 3) := by decide +kernel
theorem dX2_nextEvent_101 : decode cX2_nextEvent 101 = .ok (.goto (-79), 3) := by decide +kernel
theorem dX2_nextEvent_104 : decode cX2_nextEvent 104 = .ok (.iload_n 1, 1) := by decide +kernel
theorem dX2_nextEvent_105 : decode cX2_nextEvent 105 = .ok (.ireturn, 1) := by decide +kernel
theorem dX2_sooner_0 : decode cX2_sooner 0 = .ok (.iload_n 2, 1) := by decide +kernel
theorem dX2_sooner_1 : decode cX2_sooner 1 = .ok (.aload_n 0, 1) := by decide +kernel
theorem dX2_sooner_2 : decode cX2_sooner 2 = .ok (.getfield 50, 3) := by decide +kernel
theorem dX2_sooner_5 : decode cX2_sooner 5 = .ok (.if_icmp .le 12, 3) := by decide +kernel
theorem dX2_sooner_8 : decode cX2_sooner 8 = .ok (.iload_n 2, 1) := by decide +kernel
theorem dX2_sooner_9 : decode cX2_sooner 9 = .ok (.iload_n 1, 1) := by decide +kernel
theorem dX2_sooner_10 : decode cX2_sooner 10 = .ok (.if_icmp .ge 7, 3) := by decide +kernel
theorem dX2_sooner_13 : decode cX2_sooner 13 = .ok (.iload_n 2, 1) := by decide +kernel
theorem dX2_sooner_14 : decode cX2_sooner 14 = .ok (.goto 4, 3) := by decide +kernel
theorem dX2_sooner_17 : decode cX2_sooner 17 = .ok (.iload_n 1, 1) := by decide +kernel
theorem dX2_sooner_18 : decode cX2_sooner 18 = .ok (.ireturn, 1) := by decide +kernel
set_option maxRecDepth 20000 in
theorem ggX2_beginHold_X0_moveTo : GoodIn wsX2_beginHold wsX0_moveTo := goodIn_r _ [10, 11, 12, 13, 14, 15, 16, 17, 18, 19, 20, 21, 22, 48, 49, 50, 51, 52, 53, 54, 55, 56, 57] (by decide +kernel) (by decide +kernel)
set_option maxRecDepth 20000 in
theorem gX2_beginHold_X0_moveTo : GoodIn wsX2_beginHold (wsV RX2 196 RX0 yX0_moveTo wsX0_moveTo) := goodIn_app (goodIn_of _ (by decide +kernel)) ggX2_beginHold_X0_moveTo
theorem dX2_beginHold_0 : decode cX2_beginHold 0 = .ok (.aload_n 0, 1) := by decide +kernel
theorem dX2_beginHold_1 : decode cX2_beginHold 1 = .ok (.dup, 1) := by decide +kernel
theorem dX2_beginHold_2 : decode cX2_beginHold 2 = .ok (.getfield 57, 3) := by decide +kernel
theorem dX2_beginHold_5 : decode cX2_beginHold 5 = .ok (.iconst 1, 1) := by decide +kernel
theorem dX2_beginHold_6 : decode cX2_beginHold 6 = .ok (.iadd, 1) := by decide +kernel
theorem dX2_beginHold_7 : decode cX2_beginHold 7 = .ok (.putfield 57, 3) := by decide +kernel
theorem dX2_beginHold_10 : decode cX2_beginHold 10 = .ok (.aload_n 0, 1) := by decide +kernel
theorem dX2_beginHold_11 : decode cX2_beginHold 11 = .ok (.getfield 32, 3) := by decide +kernel
theorem dX2_beginHold_14 : decode cX2_beginHold 14 = .ok (.astore_n 1, 1) := by decide +kernel
theorem dX2_beginHold_15 : decode cX2_beginHold 15 = .ok (.aload_n 1, 1) := by decide +kernel
theorem dX2_beginHold_16 : decode cX2_beginHold 16 = .ok (.arraylength, 1) := by decide +kernel
theorem dX2_beginHold_17 : decode cX2_beginHold 17 = .ok (.istore_n 2, 1) := by decide +kernel
theorem dX2_beginHold_18 : decode cX2_beginHold 18 = .ok (.iconst 0, 1) := by decide +kernel
theorem dX2_beginHold_19 : decode cX2_beginHold 19 = .ok (.istore_n 3, 1) := by decide +kernel
theorem dX2_beginHold_20 : decode cX2_beginHold 20 = .ok (.iload_n 3, 1) := by decide +kernel
theorem dX2_beginHold_21 : decode cX2_beginHold 21 = .ok (.iload_n 2, 1) := by decide +kernel
theorem dX2_beginHold_22 : decode cX2_beginHold 22 = .ok (.if_icmp .ge 40, 3) := by decide +kernel
theorem dX2_beginHold_25 : decode cX2_beginHold 25 = .ok (.aload_n 1, 1) := by decide +kernel
theorem dX2_beginHold_26 : decode cX2_beginHold 26 = .ok (.iload_n 3, 1) := by decide +kernel
theorem dX2_beginHold_27 : decode cX2_beginHold 27 = .ok (.aaload, 1) := by decide +kernel
theorem dX2_beginHold_28 : decode cX2_beginHold 28 = .ok (.astore 4, 2) := by decide +kernel
theorem dX2_beginHold_30 : decode cX2_beginHold 30 = .ok (.aload 4, 2) := by decide +kernel
theorem dX2_beginHold_32 : decode cX2_beginHold 32 = .ok (.getfield 128, 3) := by decide +kernel
theorem dX2_beginHold_35 : decode cX2_beginHold 35 = .ok (.iconst 1, 1) := by decide +kernel
theorem dX2_beginHold_36 : decode cX2_beginHold 36 = .ok (.if_icmp .ne 20, 3) := by decide +kernel
theorem dX2_beginHold_39 : decode cX2_beginHold 39 = .ok (.aload 4, 2) := by decide +kernel
theorem dX2_beginHold_41 : decode cX2_beginHold 41 = .ok (.iconst 0, 1) := by decide +kernel
theorem dX2_beginHold_42 : decode cX2_beginHold 42 = .ok (.putfield 128, 3) := by decide +kernel
theorem dX2_beginHold_45 : decode cX2_beginHold 45 = .ok (.aload 4, 2) := by decide +kernel
theorem dX2_beginHold_47 : decode cX2_beginHold 47 = .ok (.dup, 1) := by decide +kernel
theorem dX2_beginHold_48 : decode cX2_beginHold 48 = .ok (.getfield 154, 3) := by decide +kernel
theorem dX2_beginHold_51 : decode cX2_beginHold 51 = .ok (.iconst 1, 1) := by decide +kernel
theorem dX2_beginHold_52 : decode cX2_beginHold 52 = .ok (.iadd, 1) := by decide +kernel
theorem dX2_beginHold_53 : decode cX2_beginHold 53 = .ok (.putfield 154, 3) := by decide +kernel
theorem dX2_beginHold_56 : decode cX2_beginHold 56 = .ok (.iinc 3 1, 3) := by decide +kernel
theorem dX2_beginHold_59 : decode cX2_beginHold 59 = .ok (.goto (-39), 3) := by decide +kernel
theorem dX2_beginHold_62 : decode cX2_beginHold 62 = .ok (.aload_n 0, 1) := by decide +kernel
theorem dX2_beginHold_63 : decode cX2_beginHold 63 = .ok (.getfield 27, 3) := by decide +kernel
theorem dX2_beginHold_66 : decode cX2_beginHold 66 = .ok (.sipush 9000, 3) := by decide +kernel
theorem dX2_beginHold_69 : decode cX2_beginHold 69 = .ok (.invokevirtual 196, 3) := by decide +kernel
theorem dX2_beginHold_72 : decode cX2_beginHold 72 = .ok (.return_, 1) := by decide +kernel
set_option maxRecDepth 20000 in
theorem ggX2_endWhatIsOver_X2_goOnWith : GoodIn wsX2_endWhatIsOver wsX2_goOnWith := goodIn_r _ [9, 4, 10, 2, 11, 12, 13, 14, 15, 16, 8, 17, 18, 19, 20, 21, 22, 23, 24, 25, 26, 27, 28, 29, 30, 31, 32, 33, 34, 35, 36, 37, 38, 39, 40, 41, 42, 43, 44, 45, 46, 47, 48, 49, 50, 51, 52, 53, 54, 55, 56, 57, 58, 59, 60, 61, 62, 63, 64, 65, 66, 67, 68, 69, 70, 71, 72, 73, 74, 75, 76, 77] (by decide +kernel) (by decide +kernel)
set_option maxRecDepth 20000 in
theorem gX2_endWhatIsOver_X2_goOnWith : GoodIn wsX2_endWhatIsOver (wsV RX2 200 RX2 yX2_goOnWith wsX2_goOnWith) := goodIn_app (goodIn_of _ (by decide +kernel)) ggX2_endWhatIsOver_X2_goOnWith
theorem dX2_endWhatIsOver_0 : decode cX2_endWhatIsOver 0 = .ok (.aload_n 0, 1) := by decide +kernel
theorem dX2_endWhatIsOver_1 : decode cX2_endWhatIsOver 1 = .ok (.getfield 32, 3) := by decide +kernel
theorem dX2_endWhatIsOver_4 : decode cX2_endWhatIsOver 4 = .ok (.astore_n 1, 1) := by decide +kernel
theorem dX2_endWhatIsOver_5 : decode cX2_endWhatIsOver 5 = .ok (.aload_n 1, 1) := by decide +kernel
theorem dX2_endWhatIsOver_6 : decode cX2_endWhatIsOver 6 = .ok (.arraylength, 1) := by decide +kernel
theorem dX2_endWhatIsOver_7 : decode cX2_endWhatIsOver 7 = .ok (.istore_n 2, 1) := by decide +kernel
theorem dX2_endWhatIsOver_8 : decode cX2_endWhatIsOver 8 = .ok (.iconst 0, 1) := by decide +kernel
theorem dX2_endWhatIsOver_9 : decode cX2_endWhatIsOver 9 = .ok (.istore_n 3, 1) := by decide +kernel
theorem dX2_endWhatIsOver_10 : decode cX2_endWhatIsOver 10 = .ok (.iload_n 3, 1) := by decide +kernel
theorem dX2_endWhatIsOver_11 : decode cX2_endWhatIsOver 11 = .ok (.iload_n 2, 1) := by decide +kernel
theorem dX2_endWhatIsOver_12 : decode cX2_endWhatIsOver 12 = .ok (.if_icmp .ge 29, 3) := by decide +kernel
theorem dX2_endWhatIsOver_15 : decode cX2_endWhatIsOver 15 = .ok (.aload_n 1, 1) := by decide +kernel
theorem dX2_endWhatIsOver_16 : decode cX2_endWhatIsOver 16 = .ok (.iload_n 3, 1) := by decide +kernel
theorem dX2_endWhatIsOver_17 : decode cX2_endWhatIsOver 17 = .ok (.aaload, 1) := by decide +kernel
theorem dX2_endWhatIsOver_18 : decode cX2_endWhatIsOver 18 = .ok (.astore 4, 2) := by decide +kernel
theorem dX2_endWhatIsOver_20 : decode cX2_endWhatIsOver 20 = .ok (.aload 4, 2) := by decide +kernel
theorem dX2_endWhatIsOver_22 : decode cX2_endWhatIsOver 22 = .ok (.getfield 128, 3) := by decide +kernel
theorem dX2_endWhatIsOver_25 : decode cX2_endWhatIsOver 25 = .ok (.iconst 1, 1) := by decide +kernel
theorem dX2_endWhatIsOver_26 : decode cX2_endWhatIsOver 26 = .ok (.if_icmp .ne 9, 3) := by decide +kernel
theorem dX2_endWhatIsOver_29 : decode cX2_endWhatIsOver 29 = .ok (.aload_n 0, 1) := by decide +kernel
theorem dX2_endWhatIsOver_30 : decode cX2_endWhatIsOver 30 = .ok (.aload 4, 2) := by decide +kernel
theorem dX2_endWhatIsOver_32 : decode cX2_endWhatIsOver 32 = .ok (.invokevirtual 200, 3) := by decide +kernel
theorem dX2_endWhatIsOver_35 : decode cX2_endWhatIsOver 35 = .ok (.iinc 3 1, 3) := by decide +kernel
theorem dX2_endWhatIsOver_38 : decode cX2_endWhatIsOver 38 = .ok (.goto (-28), 3) := by decide +kernel
theorem dX2_endWhatIsOver_41 : decode cX2_endWhatIsOver 41 = .ok (.aload_n 0, 1) := by decide +kernel
theorem dX2_endWhatIsOver_42 : decode cX2_endWhatIsOver 42 = .ok (.getfield 32, 3) := by decide +kernel
theorem dX2_endWhatIsOver_45 : decode cX2_endWhatIsOver 45 = .ok (.astore_n 1, 1) := by decide +kernel
theorem dX2_endWhatIsOver_46 : decode cX2_endWhatIsOver 46 = .ok (.aload_n 1, 1) := by decide +kernel
theorem dX2_endWhatIsOver_47 : decode cX2_endWhatIsOver 47 = .ok (.arraylength, 1) := by decide +kernel
theorem dX2_endWhatIsOver_48 : decode cX2_endWhatIsOver 48 = .ok (.istore_n 2, 1) := by decide +kernel
theorem dX2_endWhatIsOver_49 : decode cX2_endWhatIsOver 49 = .ok (.iconst 0, 1) := by decide +kernel
theorem dX2_endWhatIsOver_50 : decode cX2_endWhatIsOver 50 = .ok (.istore_n 3, 1) := by decide +kernel
theorem dX2_endWhatIsOver_51 : decode cX2_endWhatIsOver 51 = .ok (.iload_n 3, 1) := by decide +kernel
theorem dX2_endWhatIsOver_52 : decode cX2_endWhatIsOver 52 = .ok (.iload_n 2, 1) := by decide +kernel
theorem dX2_endWhatIsOver_53 : decode cX2_endWhatIsOver 53 = .ok (.if_icmp .ge 40, 3) := by decide +kernel
theorem dX2_endWhatIsOver_56 : decode cX2_endWhatIsOver 56 = .ok (.aload_n 1, 1) := by decide +kernel
theorem dX2_endWhatIsOver_57 : decode cX2_endWhatIsOver 57 = .ok (.iload_n 3, 1) := by decide +kernel
theorem dX2_endWhatIsOver_58 : decode cX2_endWhatIsOver 58 = .ok (.aaload, 1) := by decide +kernel
theorem dX2_endWhatIsOver_59 : decode cX2_endWhatIsOver 59 = .ok (.astore 4, 2) := by decide +kernel
theorem dX2_endWhatIsOver_61 : decode cX2_endWhatIsOver 61 = .ok (.aload 4, 2) := by decide +kernel
theorem dX2_endWhatIsOver_63 : decode cX2_endWhatIsOver 63 = .ok (.getfield 128, 3) := by decide +kernel
theorem dX2_endWhatIsOver_66 : decode cX2_endWhatIsOver 66 = .ok (.ifCond .ne 21, 3) := by decide +kernel
theorem dX2_endWhatIsOver_69 : decode cX2_endWhatIsOver 69 = .ok (.aload 4, 2) := by decide +kernel
theorem dX2_endWhatIsOver_71 : decode cX2_endWhatIsOver 71 = .ok (.getfield 145, 3) := by decide +kernel
theorem dX2_endWhatIsOver_74 : decode cX2_endWhatIsOver 74 = .ok (.aload_n 0, 1) := by decide +kernel
theorem dX2_endWhatIsOver_75 : decode cX2_endWhatIsOver 75 = .ok (.getfield 50, 3) := by decide +kernel
theorem dX2_endWhatIsOver_78 : decode cX2_endWhatIsOver 78 = .ok (.if_icmp .gt 9, 3) := by decide +kernel
theorem dX2_endWhatIsOver_81 : decode cX2_endWhatIsOver 81 = .ok (.aload 4, 2) := by decide +kernel
theorem dX2_endWhatIsOver_83 : decode cX2_endWhatIsOver 83 = .ok (.iconst 3, 1) := by decide +kernel
theorem dX2_endWhatIsOver_84 : decode cX2_endWhatIsOver 84 = .ok (.putfield 128, 3) := by decide +kernel
theorem dX2_endWhatIsOver_87 : decode cX2_endWhatIsOver 87 = .ok (.iinc 3 1, 3) := by decide +kernel
theorem dX2_endWhatIsOver_90 : decode cX2_endWhatIsOver 90 = .ok (.goto (-39), 3) := by decide +kernel
theorem dX2_endWhatIsOver_93 : decode cX2_endWhatIsOver 93 = .ok (.return_, 1) := by decide +kernel
set_option maxRecDepth 20000 in
theorem ggX2_goOnWith_X2_lookAtSlew : GoodIn wsX2_goOnWith wsX2_lookAtSlew := goodIn_r _ [11, 12, 1, 13, 4, 14, 15, 16, 17, 18, 10, 19, 20, 21, 22, 23, 24, 25, 26, 27, 28, 29, 48, 49, 50, 51, 52, 53, 54, 55, 56, 57, 58, 59, 60, 61, 37, 38, 39, 40, 41, 42, 43, 44, 45, 46, 47, 62, 63, 64, 65, 66, 67, 68, 69, 70, 71] (by decide +kernel) (by decide +kernel)
set_option maxRecDepth 20000 in
theorem gX2_goOnWith_X2_lookAtSlew : GoodIn wsX2_goOnWith (wsV RX2 203 RX2 yX2_lookAtSlew wsX2_lookAtSlew) := goodIn_app (goodIn_of _ (by decide +kernel)) ggX2_goOnWith_X2_lookAtSlew
set_option maxRecDepth 20000 in
theorem ggX2_goOnWith_X0_dish : GoodIn wsX2_goOnWith wsX0_dish := goodIn_r _ [34, 35, 36, 62, 63, 64, 65, 66, 67, 68, 69, 70, 71] (by decide +kernel) (by decide +kernel)
set_option maxRecDepth 20000 in
theorem gX2_goOnWith_X0_dish : GoodIn wsX2_goOnWith (wsV RX2 83 RX0 yX0_dish wsX0_dish) := goodIn_app (goodIn_of _ (by decide +kernel)) ggX2_goOnWith_X0_dish
theorem dX2_goOnWith_0 : decode cX2_goOnWith 0 = .ok (.aload_n 0, 1) := by decide +kernel
theorem dX2_goOnWith_1 : decode cX2_goOnWith 1 = .ok (.aload_n 1, 1) := by decide +kernel
theorem dX2_goOnWith_2 : decode cX2_goOnWith 2 = .ok (.invokevirtual 203, 3) := by decide +kernel
theorem dX2_goOnWith_5 : decode cX2_goOnWith 5 = .ok (.aload_n 0, 1) := by decide +kernel
theorem dX2_goOnWith_6 : decode cX2_goOnWith 6 = .ok (.getfield 50, 3) := by decide +kernel
theorem dX2_goOnWith_9 : decode cX2_goOnWith 9 = .ok (.aload_n 1, 1) := by decide +kernel
theorem dX2_goOnWith_10 : decode cX2_goOnWith 10 = .ok (.getfield 131, 3) := by decide +kernel
theorem dX2_goOnWith_13 : decode cX2_goOnWith 13 = .ok (.if_icmp .lt 24, 3) := by decide +kernel
theorem dX2_goOnWith_16 : decode cX2_goOnWith 16 = .ok (.aload_n 1, 1) := by decide +kernel
theorem dX2_goOnWith_17 : decode cX2_goOnWith 17 = .ok (.iconst 2, 1) := by decide +kernel
theorem dX2_goOnWith_18 : decode cX2_goOnWith 18 = .ok (.putfield 128, 3) := by decide +kernel
theorem dX2_goOnWith_21 : decode cX2_goOnWith 21 = .ok (.aload_n 1, 1) := by decide +kernel
theorem dX2_goOnWith_22 : decode cX2_goOnWith 22 = .ok (.aload_n 0, 1) := by decide +kernel
theorem dX2_goOnWith_23 : decode cX2_goOnWith 23 = .ok (.getfield 23, 3) := by decide +kernel
theorem dX2_goOnWith_26 : decode cX2_goOnWith 26 = .ok (.invokevirtual 83, 3) := by decide +kernel
theorem dX2_goOnWith_29 : decode cX2_goOnWith 29 = .ok (.aload_n 1, 1) := by decide +kernel
theorem dX2_goOnWith_30 : decode cX2_goOnWith 30 = .ok (.getfield 206, 3) := by decide +kernel
theorem dX2_goOnWith_33 : decode cX2_goOnWith 33 = .ok (.isub, 1) := by decide +kernel
theorem dX2_goOnWith_34 : decode cX2_goOnWith 34 = .ok (.putfield 207, 3) := by decide +kernel
theorem dX2_goOnWith_37 : decode cX2_goOnWith 37 = .ok (.return_, 1) := by decide +kernel
set_option maxRecDepth 20000 in
theorem ggX2_lookAtSlew_X2_kindOfDay : GoodIn wsX2_lookAtSlew wsX2_kindOfDay := goodIn_r _ [11, 12, 13, 14, 15, 10, 16, 17, 18, 19, 20, 21, 2, 36, 37, 38, 39, 40, 41, 42, 43, 44, 45, 46] (by decide +kernel) (by decide +kernel)
set_option maxRecDepth 20000 in
theorem gX2_lookAtSlew_X2_kindOfDay : GoodIn wsX2_lookAtSlew (wsV RX2 80 RX2 yX2_kindOfDay wsX2_kindOfDay) := goodIn_app (goodIn_of _ (by decide +kernel)) ggX2_lookAtSlew_X2_kindOfDay
set_option maxRecDepth 20000 in
theorem ggX2_lookAtSlew_X2_day : GoodIn wsX2_lookAtSlew wsX2_day := goodIn_r _ [21, 2, 36, 37, 38, 39, 40, 41, 42, 43, 44, 45, 46] (by decide +kernel) (by decide +kernel)
set_option maxRecDepth 20000 in
theorem gX2_lookAtSlew_X2_day : GoodIn wsX2_lookAtSlew (wsV RX2 73 RX2 yX2_day wsX2_day) := goodIn_app (goodIn_of _ (by decide +kernel)) ggX2_lookAtSlew_X2_day
theorem dX2_lookAtSlew_0 : decode cX2_lookAtSlew 0 = .ok (.aload_n 1, 1) := by decide +kernel
theorem dX2_lookAtSlew_1 : decode cX2_lookAtSlew 1 = .ok (.getfield 210, 3) := by decide +kernel
theorem dX2_lookAtSlew_4 : decode cX2_lookAtSlew 4 = .ok (.ifCond .ne 14, 3) := by decide +kernel
theorem dX2_lookAtSlew_7 : decode cX2_lookAtSlew 7 = .ok (.aload_n 0, 1) := by decide +kernel
theorem dX2_lookAtSlew_8 : decode cX2_lookAtSlew 8 = .ok (.getfield 50, 3) := by decide +kernel
theorem dX2_lookAtSlew_11 : decode cX2_lookAtSlew 11 = .ok (.aload_n 1, 1) := by decide +kernel
theorem dX2_lookAtSlew_12 : decode cX2_lookAtSlew 12 = .ok (.getfield 190, 3) := by decide +kernel
theorem dX2_lookAtSlew_15 : decode cX2_lookAtSlew 15 = .ok (.if_icmp .ge 4, 3) := by decide +kernel
theorem dX2_lookAtSlew_18 : decode cX2_lookAtSlew 18 = .ok (.return_, 1) := by decide +kernel
theorem dX2_lookAtSlew_19 : decode cX2_lookAtSlew 19 = .ok (.aload_n 1, 1) := by decide +kernel
theorem dX2_lookAtSlew_20 : decode cX2_lookAtSlew 20 = .ok (.iconst 1, 1) := by decide +kernel
theorem dX2_lookAtSlew_21 : decode cX2_lookAtSlew 21 = .ok (.putfield 210, 3) := by decide +kernel
theorem dX2_lookAtSlew_24 : decode cX2_lookAtSlew 24 = .ok (.aload_n 0, 1) := by decide +kernel
theorem dX2_lookAtSlew_25 : decode cX2_lookAtSlew 25 = .ok (.invokevirtual 80, 3) := by decide +kernel
theorem dX2_lookAtSlew_28 : decode cX2_lookAtSlew 28 = .ok (.iconst 1, 1) := by decide +kernel
theorem dX2_lookAtSlew_29 : decode cX2_lookAtSlew 29 = .ok (.if_icmp .ne 30, 3) := by decide +kernel
theorem dX2_lookAtSlew_32 : decode cX2_lookAtSlew 32 = .ok (.aload_n 0, 1) := by decide +kernel
theorem dX2_lookAtSlew_33 : decode cX2_lookAtSlew 33 = .ok (.getfield 23, 3) := by decide +kernel
theorem dX2_lookAtSlew_36 : decode cX2_lookAtSlew 36 = .ok (.aload_n 0, 1) := by decide +kernel
theorem dX2_lookAtSlew_37 : decode cX2_lookAtSlew 37 = .ok (.invokevirtual 73, 3) := by decide +kernel
theorem dX2_lookAtSlew_40 : decode cX2_lookAtSlew 40 = .ok (.iconst 2, 1) := by decide +kernel
theorem dX2_lookAtSlew_41 : decode cX2_lookAtSlew 41 = .ok (.irem, 1) := by decide +kernel
theorem dX2_lookAtSlew_42 : decode cX2_lookAtSlew 42 = .ok (.ifCond .ne 7, 3) := by decide +kernel
theorem dX2_lookAtSlew_45 : decode cX2_lookAtSlew 45 = .ok (.iconst 0, 1) := by decide +kernel
theorem dX2_lookAtSlew_46 : decode cX2_lookAtSlew 46 = .ok (.goto 10, 3) := by decide +kernel
theorem dX2_lookAtSlew_49 : decode cX2_lookAtSlew 49 = .ok (.aload_n 0, 1) := by decide +kernel
theorem dX2_lookAtSlew_50 : decode cX2_lookAtSlew 50 = .ok (.getfield 23, 3) := by decide +kernel
theorem dX2_lookAtSlew_53 : decode cX2_lookAtSlew 53 = .ok (.getfield 213, 3) := by decide +kernel
theorem dX2_lookAtSlew_56 : decode cX2_lookAtSlew 56 = .ok (.putfield 216, 3) := by decide +kernel
theorem dX2_lookAtSlew_59 : decode cX2_lookAtSlew 59 = .ok (.return_, 1) := by decide +kernel
set_option maxRecDepth 20000 in
theorem ggX2_begin_X2_wayAround : GoodIn wsX2_begin wsX2_wayAround := goodIn_r _ [16, 17, 18, 19, 20, 21, 22, 23, 24, 25, 26, 27, 28, 29, 30, 31, 32, 33, 34, 35, 36, 37, 38, 39, 40, 41, 42, 43, 44, 45, 46, 47, 48, 49, 50, 51, 52, 53, 54, 55, 56, 57, 58, 59, 15, 60, 4, 61, 62, 135, 136, 137, 138, 139, 140, 141, 142, 143, 144, 145, 128, 129, 130, 131, 132, 133, 134, 146, 147, 148, 149, 150, 151, 152, 153, 154, 155] (by decide +kernel) (by decide +kernel)
set_option maxRecDepth 20000 in
theorem gX2_begin_X2_wayAround : GoodIn wsX2_begin (wsV RX2 164 RX2 yX2_wayAround wsX2_wayAround) := goodIn_app (goodIn_of _ (by decide +kernel)) ggX2_begin_X2_wayAround
set_option maxRecDepth 20000 in
theorem ggX2_begin_X2_wayRise : GoodIn wsX2_begin wsX2_wayRise := goodIn_r _ [66, 67, 68, 20, 23, 24, 25, 26, 27, 28, 29, 30, 31, 32, 33, 34, 35, 36, 37, 38, 39, 40, 41, 42, 43, 44, 45, 46, 47, 48, 49, 50, 51, 52, 53, 54, 55, 56, 135, 136, 137, 138, 139, 140, 141, 142, 143, 144, 145, 128, 129, 130, 131, 132, 133, 134, 146, 147, 148, 149, 150, 151, 152, 153, 154, 155] (by decide +kernel) (by decide +kernel)
set_option maxRecDepth 20000 in
theorem gX2_begin_X2_wayRise : GoodIn wsX2_begin (wsV RX2 160 RX2 yX2_wayRise wsX2_wayRise) := goodIn_app (goodIn_of _ (by decide +kernel)) ggX2_begin_X2_wayRise
set_option maxRecDepth 20000 in
theorem ggX2_begin_X2_followWays : GoodIn wsX2_begin wsX2_followWays := goodIn_r _ [72, 18, 68, 73, 74, 75, 76, 39, 77, 78, 79, 80, 47, 81, 82, 83, 84, 85, 86, 87, 49, 88, 50, 89, 90, 91, 92, 93, 94, 135, 136, 137, 138, 139, 140, 141, 142, 143, 144, 145, 128, 129, 130, 131, 132, 133, 134, 146, 147, 148, 149, 150, 151, 152, 153, 154, 155] (by decide +kernel) (by decide +kernel)
set_option maxRecDepth 20000 in
theorem gX2_begin_X2_followWays : GoodIn wsX2_begin (wsV RX2 222 RX2 yX2_followWays wsX2_followWays) := goodIn_app (goodIn_of _ (by decide +kernel)) ggX2_begin_X2_followWays
set_option maxRecDepth 20000 in
theorem ggX2_begin_X2_lookAtSlew : GoodIn wsX2_begin wsX2_lookAtSlew := goodIn_r _ [98, 11, 6, 8, 18, 99, 100, 101, 102, 103, 15, 104, 20, 105, 106, 107, 108, 109, 110, 111, 112, 113, 114, 115, 116, 117, 118, 119, 120, 121, 122, 123, 124, 125, 126, 127, 135, 136, 137, 138, 139, 140, 141, 142, 143, 144, 145, 146, 147, 148, 149, 150, 151, 152, 153, 154, 155] (by decide +kernel) (by decide +kernel)
set_option maxRecDepth 20000 in
theorem gX2_begin_X2_lookAtSlew : GoodIn wsX2_begin (wsV RX2 203 RX2 yX2_lookAtSlew wsX2_lookAtSlew) := goodIn_app (goodIn_of _ (by decide +kernel)) ggX2_begin_X2_lookAtSlew
theorem dX2_begin_0 : decode cX2_begin 0 = .ok (.aload_n 0, 1) := by decide +kernel
theorem dX2_begin_1 : decode cX2_begin 1 = .ok (.aload_n 1, 1) := by decide +kernel
theorem dX2_begin_2 : decode cX2_begin 2 = .ok (.getfield 138, 3) := by decide +kernel
theorem dX2_begin_5 : decode cX2_begin 5 = .ok (.invokevirtual 164, 3) := by decide +kernel
theorem dX2_begin_8 : decode cX2_begin 8 = .ok (.astore_n 2, 1) := by decide +kernel
theorem dX2_begin_9 : decode cX2_begin 9 = .ok (.aload_n 0, 1) := by decide +kernel
theorem dX2_begin_10 : decode cX2_begin 10 = .ok (.aload_n 1, 1) := by decide +kernel
theorem dX2_begin_11 : decode cX2_begin 11 = .ok (.getfield 140, 3) := by decide +kernel
theorem dX2_begin_14 : decode cX2_begin 14 = .ok (.invokevirtual 160, 3) := by decide +kernel
theorem dX2_begin_17 : decode cX2_begin 17 = .ok (.astore_n 3, 1) := by decide +kernel
theorem dX2_begin_18 : decode cX2_begin 18 = .ok (.aload_n 1, 1) := by decide +kernel
theorem dX2_begin_19 : decode cX2_begin 19 = .ok (.iconst 1, 1) := by decide +kernel
theorem dX2_begin_20 : decode cX2_begin 20 = .ok (.putfield 128, 3) := by decide +kernel
theorem dX2_begin_23 : decode cX2_begin 23 = .ok (.aload_n 1, 1) := by decide +kernel
theorem dX2_begin_24 : decode cX2_begin 24 = .ok (.aload_n 2, 1) := by decide +kernel
theorem dX2_begin_25 : decode cX2_begin 25 = .ok (.getfield 110, 3) := by decide +kernel
theorem dX2_begin_28 : decode cX2_begin 28 = .ok (.putfield 206, 3) := by decide +kernel
theorem dX2_begin_31 : decode cX2_begin 31 = .ok (.aload_n 1, 1) := by decide +kernel
theorem dX2_begin_32 : decode cX2_begin 32 = .ok (.aload_n 0, 1) := by decide +kernel
theorem dX2_begin_33 : decode cX2_begin 33 = .ok (.getfield 50, 3) := by decide +kernel
theorem dX2_begin_36 : decode cX2_begin 36 = .ok (.putfield 219, 3) := by decide +kernel
theorem dX2_begin_39 : decode cX2_begin 39 = .ok (.aload_n 1, 1) := by decide +kernel
theorem dX2_begin_40 : decode cX2_begin 40 = .ok (.aload_n 0, 1) := by decide +kernel
theorem dX2_begin_41 : decode cX2_begin 41 = .ok (.getfield 50, 3) := by decide +kernel
theorem dX2_begin_44 : decode cX2_begin 44 = .ok (.aload_n 0, 1) := by decide +kernel
theorem dX2_begin_45 : decode cX2_begin 45 = .ok (.aload_n 2, 1) := by decide +kernel
theorem dX2_begin_46 : decode cX2_begin 46 = .ok (.aload_n 3, 1) := by decide +kernel
theorem dX2_begin_47 : decode cX2_begin 47 = .ok (.invokevirtual 222, 3) := by decide +kernel
theorem dX2_begin_50 : decode cX2_begin 50 = .ok (.iadd, 1) := by decide +kernel
theorem dX2_begin_51 : decode cX2_begin 51 = .ok (.putfield 190, 3) := by decide +kernel
theorem dX2_begin_54 : decode cX2_begin 54 = .ok (.aload_n 1, 1) := by decide +kernel
theorem dX2_begin_55 : decode cX2_begin 55 = .ok (.aload_n 1, 1) := by decide +kernel
theorem dX2_begin_56 : decode cX2_begin 56 = .ok (.getfield 190, 3) := by decide +kernel
theorem dX2_begin_59 : decode cX2_begin 59 = .ok (.aload_n 1, 1) := by decide +kernel
theorem dX2_begin_60 : decode cX2_begin 60 = .ok (.getfield 148, 3) := by decide +kernel
theorem dX2_begin_63 : decode cX2_begin 63 = .ok (.iadd, 1) := by decide +kernel
theorem dX2_begin_64 : decode cX2_begin 64 = .ok (.putfield 131, 3) := by decide +kernel
theorem dX2_begin_67 : decode cX2_begin 67 = .ok (.aload_n 1, 1) := by decide +kernel
theorem dX2_begin_68 : decode cX2_begin 68 = .ok (.iconst 0, 1) := by decide +kernel
theorem dX2_begin_69 : decode cX2_begin 69 = .ok (.putfield 210, 3) := by decide +kernel
theorem dX2_begin_72 : decode cX2_begin 72 = .ok (.aload_n 0, 1) := by decide +kernel
theorem dX2_begin_73 : decode cX2_begin 73 = .ok (.aload_n 1, 1) := by decide +kernel
theorem dX2_begin_74 : decode cX2_begin 74 = .ok (.invokevirtual 203, 3) := by decide +kernel
theorem dX2_begin_77 : decode cX2_begin 77 = .ok (.return_, 1) := by decide +kernel
theorem dX3_init_0 : decode cX3_init 0 = .ok (.aload_n 0, 1) := by decide +kernel
theorem dX3_init_1 : decode cX3_init 1 = .ok (.invokespecial 3, 3) := by decide +kernel
theorem dX3_init_4 : decode cX3_init 4 = .ok (.aload_n 0, 1) := by decide +kernel
theorem dX3_init_5 : decode cX3_init 5 = .ok (.iconst 4, 1) := by decide +kernel
theorem dX3_init_6 : decode cX3_init 6 = .ok (.putfield 9, 3) := by decide +kernel
theorem dX3_init_9 : decode cX3_init 9 = .ok (.return_, 1) := by decide +kernel
theorem dX3_copyFrom_0 : decode cX3_copyFrom 0 = .ok (.aload_n 0, 1) := by decide +kernel
theorem dX3_copyFrom_1 : decode cX3_copyFrom 1 = .ok (.aload_n 1, 1) := by decide +kernel
theorem dX3_copyFrom_2 : decode cX3_copyFrom 2 = .ok (.getfield 15, 3) := by decide +kernel
theorem dX3_copyFrom_5 : decode cX3_copyFrom 5 = .ok (.putfield 15, 3) := by decide +kernel
theorem dX3_copyFrom_8 : decode cX3_copyFrom 8 = .ok (.aload_n 0, 1) := by decide +kernel
theorem dX3_copyFrom_9 : decode cX3_copyFrom 9 = .ok (.aload_n 1, 1) := by decide +kernel
theorem dX3_copyFrom_10 : decode cX3_copyFrom 10 = .ok (.getfield 18, 3) := by decide +kernel
theorem dX3_copyFrom_13 : decode cX3_copyFrom 13 = .ok (.putfield 18, 3) := by decide +kernel
theorem dX3_copyFrom_16 : decode cX3_copyFrom 16 = .ok (.aload_n 0, 1) := by decide +kernel
theorem dX3_copyFrom_17 : decode cX3_copyFrom 17 = .ok (.aload_n 1, 1) := by decide +kernel
theorem dX3_copyFrom_18 : decode cX3_copyFrom 18 = .ok (.getfield 21, 3) := by decide +kernel
theorem dX3_copyFrom_21 : decode cX3_copyFrom 21 = .ok (.putfield 21, 3) := by decide +kernel
theorem dX3_copyFrom_24 : decode cX3_copyFrom 24 = .ok (.aload_n 0, 1) := by decide +kernel
theorem dX3_copyFrom_25 : decode cX3_copyFrom 25 = .ok (.aload_n 1, 1) := by decide +kernel
theorem dX3_copyFrom_26 : decode cX3_copyFrom 26 = .ok (.getfield 24, 3) := by decide +kernel
theorem dX3_copyFrom_29 : decode cX3_copyFrom 29 = .ok (.putfield 24, 3) := by decide +kernel
theorem dX3_copyFrom_32 : decode cX3_copyFrom 32 = .ok (.aload_n 0, 1) := by decide +kernel
theorem dX3_copyFrom_33 : decode cX3_copyFrom 33 = .ok (.aload_n 1, 1) := by decide +kernel
theorem dX3_copyFrom_34 : decode cX3_copyFrom 34 = .ok (.getfield 27, 3) := by decide +kernel
theorem dX3_copyFrom_37 : decode cX3_copyFrom 37 = .ok (.putfield 27, 3) := by decide +kernel
theorem dX3_copyFrom_40 : decode cX3_copyFrom 40 = .ok (.aload_n 0, 1) := by decide +kernel
theorem dX3_copyFrom_41 : decode cX3_copyFrom 41 = .ok (.aload_n 1, 1) := by decide +kernel
theorem dX3_copyFrom_42 : decode cX3_copyFrom 42 = .ok (.getfield 30, 3) := by decide +kernel
theorem dX3_copyFrom_45 : decode cX3_copyFrom 45 = .ok (.putfield 30, 3) := by decide +kernel
theorem dX3_copyFrom_48 : decode cX3_copyFrom 48 = .ok (.aload_n 0, 1) := by decide +kernel
theorem dX3_copyFrom_49 : decode cX3_copyFrom 49 = .ok (.aload_n 1, 1) := by decide +kernel
theorem dX3_copyFrom_50 : decode cX3_copyFrom 50 = .ok (.getfield 9, 3) := by decide +kernel
theorem dX3_copyFrom_53 : decode cX3_copyFrom 53 = .ok (.putfield 9, 3) := by decide +kernel
theorem dX3_copyFrom_56 : decode cX3_copyFrom 56 = .ok (.aload_n 0, 1) := by decide +kernel
theorem dX3_copyFrom_57 : decode cX3_copyFrom 57 = .ok (.aload_n 1, 1) := by decide +kernel
theorem dX3_copyFrom_58 : decode cX3_copyFrom 58 = .ok (.getfield 33, 3) := by decide +kernel
theorem dX3_copyFrom_61 : decode cX3_copyFrom 61 = .ok (.putfield 33, 3) := by decide +kernel
theorem dX3_copyFrom_64 : decode cX3_copyFrom 64 = .ok (.aload_n 0, 1) := by decide +kernel
theorem dX3_copyFrom_65 : decode cX3_copyFrom 65 = .ok (.aload_n 1, 1) := by decide +kernel
theorem dX3_copyFrom_66 : decode cX3_copyFrom 66 = .ok (.getfield 36, 3) := by decide +kernel
theorem dX3_copyFrom_69 : decode cX3_copyFrom 69 = .ok (.putfield 36, 3) := by decide +kernel
theorem dX3_copyFrom_72 : decode cX3_copyFrom 72 = .ok (.aload_n 0, 1) := by decide +kernel
theorem dX3_copyFrom_73 : decode cX3_copyFrom 73 = .ok (.aload_n 1, 1) := by decide +kernel
theorem dX3_copyFrom_74 : decode cX3_copyFrom 74 = .ok (.getfield 39, 3) := by decide +kernel
theorem dX3_copyFrom_77 : decode cX3_copyFrom 77 = .ok (.putfield 39, 3) := by decide +kernel
theorem dX3_copyFrom_80 : decode cX3_copyFrom 80 = .ok (.aload_n 0, 1) := by decide +kernel
theorem dX3_copyFrom_81 : decode cX3_copyFrom 81 = .ok (.aload_n 1, 1) := by decide +kernel
theorem dX3_copyFrom_82 : decode cX3_copyFrom 82 = .ok (.getfield 42, 3) := by decide +kernel
theorem dX3_copyFrom_85 : decode cX3_copyFrom 85 = .ok (.putfield 42, 3) := by decide +kernel
theorem dX3_copyFrom_88 : decode cX3_copyFrom 88 = .ok (.aload_n 0, 1) := by decide +kernel
theorem dX3_copyFrom_89 : decode cX3_copyFrom 89 = .ok (.aload_n 1, 1) := by decide +kernel
theorem dX3_copyFrom_90 : decode cX3_copyFrom 90 = .ok (.getfield 45, 3) := by decide +kernel
theorem dX3_copyFrom_93 : decode cX3_copyFrom 93 = .ok (.putfield 45, 3) := by decide +kernel
theorem dX3_copyFrom_96 : decode cX3_copyFrom 96 = .ok (.aload_n 0, 1) := by decide +kernel
theorem dX3_copyFrom_97 : decode cX3_copyFrom 97 = .ok (.aload_n 1, 1) := by decide +kernel
theorem dX3_copyFrom_98 : decode cX3_copyFrom 98 = .ok (.getfield 48, 3) := by decide +kernel
theorem dX3_copyFrom_101 : decode cX3_copyFrom 101 = .ok (.putfield 48, 3) := by decide +kernel
theorem dX3_copyFrom_104 : decode cX3_copyFrom 104 = .ok (.aload_n 0, 1) := by decide +kernel
theorem dX3_copyFrom_105 : decode cX3_copyFrom 105 = .ok (.aload_n 1, 1) := by decide +kernel
theorem dX3_copyFrom_106 : decode cX3_copyFrom 106 = .ok (.getfield 51, 3) := by decide +kernel
theorem dX3_copyFrom_109 : decode cX3_copyFrom 109 = .ok (.putfield 51, 3) := by decide +kernel
theorem dX3_copyFrom_112 : decode cX3_copyFrom 112 = .ok (.return_, 1) := by decide +kernel
set_option maxRecDepth 20000 in
theorem ggX3_tell_X3_ifBegun : GoodIn wsX3_tell wsX3_ifBegun := goodIn_r _ [20, 7, 12, 21, 22, 23, 24, 25, 26, 27, 28, 29, 30, 31, 32, 33, 34] (by decide +kernel) (by decide +kernel)
set_option maxRecDepth 20000 in
theorem gX3_tell_X3_ifBegun : GoodIn wsX3_tell (wsV RX3 55 RX3 yX3_ifBegun wsX3_ifBegun) := goodIn_app (goodIn_of _ (by decide +kernel)) ggX3_tell_X3_ifBegun
theorem dX3_tell_0 : decode cX3_tell 0 = .ok (.iload_n 1, 1) := by decide +kernel
theorem dX3_tell_1 : decode cX3_tell 1 = .ok (.tableswitch 161 0 12 #[67, 72, 77, 82, 87, 92, 97, 102, 111, 120, 129, 147, 152], 67) := by decide +kernel
theorem dX3_tell_68 : decode cX3_tell 68 = .ok (.aload_n 0, 1) := by decide +kernel
theorem dX3_tell_69 : decode cX3_tell 69 = .ok (.getfield 15, 3) := by decide +kernel
theorem dX3_tell_72 : decode cX3_tell 72 = .ok (.ireturn, 1) := by decide +kernel
theorem dX3_tell_73 : decode cX3_tell 73 = .ok (.aload_n 0, 1) := by decide +kernel
theorem dX3_tell_74 : decode cX3_tell 74 = .ok (.getfield 18, 3) := by decide +kernel
theorem dX3_tell_77 : decode cX3_tell 77 = .ok (.ireturn, 1) := by decide +kernel
theorem dX3_tell_78 : decode cX3_tell 78 = .ok (.aload_n 0, 1) := by decide +kernel
theorem dX3_tell_79 : decode cX3_tell 79 = .ok (.getfield 21, 3) := by decide +kernel
theorem dX3_tell_82 : decode cX3_tell 82 = .ok (.ireturn, 1) := by decide +kernel
theorem dX3_tell_83 : decode cX3_tell 83 = .ok (.aload_n 0, 1) := by decide +kernel
theorem dX3_tell_84 : decode cX3_tell 84 = .ok (.getfield 24, 3) := by decide +kernel
theorem dX3_tell_87 : decode cX3_tell 87 = .ok (.ireturn, 1) := by decide +kernel
theorem dX3_tell_88 : decode cX3_tell 88 = .ok (.aload_n 0, 1) := by decide +kernel
theorem dX3_tell_89 : decode cX3_tell 89 = .ok (.getfield 27, 3) := by decide +kernel
theorem dX3_tell_92 : decode cX3_tell 92 = .ok (.ireturn, 1) := by decide +kernel
theorem dX3_tell_93 : decode cX3_tell 93 = .ok (.aload_n 0, 1) := by decide +kernel
theorem dX3_tell_94 : decode cX3_tell 94 = .ok (.getfield 30, 3) := by decide +kernel
theorem dX3_tell_97 : decode cX3_tell 97 = .ok (.ireturn, 1) := by decide +kernel
theorem dX3_tell_98 : decode cX3_tell 98 = .ok (.aload_n 0, 1) := by decide +kernel
theorem dX3_tell_99 : decode cX3_tell 99 = .ok (.getfield 9, 3) := by decide +kernel
theorem dX3_tell_102 : decode cX3_tell 102 = .ok (.ireturn, 1) := by decide +kernel
theorem dX3_tell_103 : decode cX3_tell 103 = .ok (.aload_n 0, 1) := by decide +kernel
theorem dX3_tell_104 : decode cX3_tell 104 = .ok (.aload_n 0, 1) := by decide +kernel
theorem dX3_tell_105 : decode cX3_tell 105 = .ok (.getfield 33, 3) := by decide +kernel
theorem dX3_tell_108 : decode cX3_tell 108 = .ok (.invokevirtual 55, 3) := by decide +kernel
theorem dX3_tell_111 : decode cX3_tell 111 = .ok (.ireturn, 1) := by decide +kernel
theorem dX3_tell_112 : decode cX3_tell 112 = .ok (.aload_n 0, 1) := by decide +kernel
theorem dX3_tell_113 : decode cX3_tell 113 = .ok (.aload_n 0, 1) := by decide +kernel
theorem dX3_tell_114 : decode cX3_tell 114 = .ok (.getfield 36, 3) := by decide +kernel
theorem dX3_tell_117 : decode cX3_tell 117 = .ok (.invokevirtual 55, 3) := by decide +kernel
theorem dX3_tell_120 : decode cX3_tell 120 = .ok (.ireturn, 1) := by decide +kernel
theorem dX3_tell_121 : decode cX3_tell 121 = .ok (.aload_n 0, 1) := by decide +kernel
theorem dX3_tell_122 : decode cX3_tell 122 = .ok (.aload_n 0, 1) := by decide +kernel
theorem dX3_tell_123 : decode cX3_tell 123 = .ok (.getfield 39, 3) := by decide +kernel
theorem dX3_tell_126 : decode cX3_tell 126 = .ok (.invokevirtual 55, 3) := by decide +kernel
theorem dX3_tell_129 : decode cX3_tell 129 = .ok (.ireturn, 1) := by decide +kernel
theorem dX3_tell_130 : decode cX3_tell 130 = .ok (.aload_n 0, 1) := by decide +kernel
theorem dX3_tell_131 : decode cX3_tell 131 = .ok (.getfield 9, 3) := by decide +kernel
theorem dX3_tell_134 : decode cX3_tell 134 = .ok (.iconst 2, 1) := by decide +kernel
theorem dX3_tell_135 : decode cX3_tell 135 = .ok (.if_icmp .ne 10, 3) := by decide +kernel
theorem dX3_tell_138 : decode cX3_tell 138 = .ok (.aload_n 0, 1) := by decide +kernel
theorem dX3_tell_139 : decode cX3_tell 139 = .ok (.getfield 42, 3) := by decide +kernel
theorem dX3_tell_142 : decode cX3_tell 142 = .ok (.goto 5, 3) := by decide +kernel
theorem dX3_tell_145 : decode cX3_tell 145 = .ok (.ldc 59, 2) := by decide +kernel
theorem dX3_tell_147 : decode cX3_tell 147 = .ok (.ireturn, 1) := by decide +kernel
theorem dX3_tell_148 : decode cX3_tell 148 = .ok (.aload_n 0, 1) := by decide +kernel
theorem dX3_tell_149 : decode cX3_tell 149 = .ok (.getfield 45, 3) := by decide +kernel
theorem dX3_tell_152 : decode cX3_tell 152 = .ok (.ireturn, 1) := by decide +kernel
theorem dX3_tell_153 : decode cX3_tell 153 = .ok (.aload_n 0, 1) := by decide +kernel
theorem dX3_tell_154 : decode cX3_tell 154 = .ok (.aload_n 0, 1) := by decide +kernel
theorem dX3_tell_155 : decode cX3_tell 155 = .ok (.getfield 48, 3) := by decide +kernel
theorem dX3_tell_158 : decode cX3_tell 158 = .ok (.invokevirtual 55, 3) := by decide +kernel
theorem dX3_tell_161 : decode cX3_tell 161 = .ok (.ireturn, 1) := by decide +kernel
theorem dX3_tell_162 : decode cX3_tell 162 = .ok (.ldc 60, 2) := by decide +kernel
theorem dX3_tell_164 : decode cX3_tell 164 = .ok (.ireturn, 1) := by decide +kernel
theorem dX3_ifBegun_0 : decode cX3_ifBegun 0 = .ok (.aload_n 0, 1) := by decide +kernel
theorem dX3_ifBegun_1 : decode cX3_ifBegun 1 = .ok (.getfield 9, 3) := by decide +kernel
theorem dX3_ifBegun_4 : decode cX3_ifBegun 4 = .ok (.iconst 1, 1) := by decide +kernel
theorem dX3_ifBegun_5 : decode cX3_ifBegun 5 = .ok (.if_icmp .eq 11, 3) := by decide +kernel
theorem dX3_ifBegun_8 : decode cX3_ifBegun 8 = .ok (.aload_n 0, 1) := by decide +kernel
theorem dX3_ifBegun_9 : decode cX3_ifBegun 9 = .ok (.getfield 9, 3) := by decide +kernel
theorem dX3_ifBegun_12 : decode cX3_ifBegun 12 = .ok (.iconst 2, 1) := by decide +kernel
theorem dX3_ifBegun_13 : decode cX3_ifBegun 13 = .ok (.if_icmp .ne 7, 3) := by decide +kernel
theorem dX3_ifBegun_16 : decode cX3_ifBegun 16 = .ok (.iload_n 1, 1) := by decide +kernel
theorem dX3_ifBegun_17 : decode cX3_ifBegun 17 = .ok (.goto 5, 3) := by decide +kernel
theorem dX3_ifBegun_20 : decode cX3_ifBegun 20 = .ok (.ldc 59, 2) := by decide +kernel
theorem dX3_ifBegun_22 : decode cX3_ifBegun 22 = .ok (.ireturn, 1) := by decide +kernel
theorem dX3_isBetterThan_0 : decode cX3_isBetterThan 0 = .ok (.aload_n 0, 1) := by decide +kernel
theorem dX3_isBetterThan_1 : decode cX3_isBetterThan 1 = .ok (.getfield 30, 3) := by decide +kernel
theorem dX3_isBetterThan_4 : decode cX3_isBetterThan 4 = .ok (.aload_n 1, 1) := by decide +kernel
theorem dX3_isBetterThan_5 : decode cX3_isBetterThan 5 = .ok (.getfield 30, 3) := by decide +kernel
theorem dX3_isBetterThan_8 : decode cX3_isBetterThan 8 = .ok (.if_icmp .eq 20, 3) := by decide +kernel
theorem dX3_isBetterThan_11 : decode cX3_isBetterThan 11 = .ok (.aload_n 0, 1) := by decide +kernel
theorem dX3_isBetterThan_12 : decode cX3_isBetterThan 12 = .ok (.getfield 30, 3) := by decide +kernel
theorem dX3_isBetterThan_15 : decode cX3_isBetterThan 15 = .ok (.aload_n 1, 1) := by decide +kernel
theorem dX3_isBetterThan_16 : decode cX3_isBetterThan 16 = .ok (.getfield 30, 3) := by decide +kernel
theorem dX3_isBetterThan_19 : decode cX3_isBetterThan 19 = .ok (.if_icmp .le 7, 3) := by decide +kernel
theorem dX3_isBetterThan_22 : decode cX3_isBetterThan 22 = .ok (.iconst 1, 1) := by decide +kernel
theorem dX3_isBetterThan_23 : decode cX3_isBetterThan 23 = .ok (.goto 4, 3) := by decide +kernel
theorem dX3_isBetterThan_26 : decode cX3_isBetterThan 26 = .ok (.iconst 0, 1) := by decide +kernel
theorem dX3_isBetterThan_27 : decode cX3_isBetterThan 27 = .ok (.ireturn, 1) := by decide +kernel
theorem dX3_isBetterThan_28 : decode cX3_isBetterThan 28 = .ok (.aload_n 0, 1) := by decide +kernel
theorem dX3_isBetterThan_29 : decode cX3_isBetterThan 29 = .ok (.getfield 24, 3) := by decide +kernel
theorem dX3_isBetterThan_32 : decode cX3_isBetterThan 32 = .ok (.aload_n 1, 1) := by decide +kernel
theorem dX3_isBetterThan_33 : decode cX3_isBetterThan 33 = .ok (.getfield 24, 3) := by decide +kernel
theorem dX3_isBetterThan_36 : decode cX3_isBetterThan 36 = .ok (.if_icmp .ge 7, 3) := by decide +kernel
theorem dX3_isBetterThan_39 : decode cX3_isBetterThan 39 = .ok (.iconst 1, 1) := by decide +kernel
theorem dX3_isBetterThan_40 : decode cX3_isBetterThan 40 = .ok (.goto 4, 3) := by decide +kernel
theorem dX3_isBetterThan_43 : decode cX3_isBetterThan 43 = .ok (.iconst 0, 1) := by decide +kernel
theorem dX3_isBetterThan_44 : decode cX3_isBetterThan 44 = .ok (.ireturn, 1) := by decide +kernel
theorem dX4_init_0 : decode cX4_init 0 = .ok (.aload_n 0, 1) := by decide +kernel
theorem dX4_init_1 : decode cX4_init 1 = .ok (.invokespecial 3, 3) := by decide +kernel
theorem dX4_init_4 : decode cX4_init 4 = .ok (.aload_n 0, 1) := by decide +kernel
theorem dX4_init_5 : decode cX4_init 5 = .ok (.bipush 100, 2) := by decide +kernel
theorem dX4_init_7 : decode cX4_init 7 = .ok (.newarray .char, 2) := by decide +kernel
theorem dX4_init_9 : decode cX4_init 9 = .ok (.putfield 9, 3) := by decide +kernel
theorem dX4_init_12 : decode cX4_init 12 = .ok (.aload_n 0, 1) := by decide +kernel
theorem dX4_init_13 : decode cX4_init 13 = .ok (.bipush 6, 2) := by decide +kernel
theorem dX4_init_15 : decode cX4_init 15 = .ok (.newarray .int, 2) := by decide +kernel
theorem dX4_init_17 : decode cX4_init 17 = .ok (.putfield 15, 3) := by decide +kernel
theorem dX4_init_20 : decode cX4_init 20 = .ok (.return_, 1) := by decide +kernel
theorem dX4_append_0 : decode cX4_append 0 = .ok (.aload_n 0, 1) := by decide +kernel
theorem dX4_append_1 : decode cX4_append 1 = .ok (.getfield 19, 3) := by decide +kernel
theorem dX4_append_4 : decode cX4_append 4 = .ok (.aload_n 0, 1) := by decide +kernel
theorem dX4_append_5 : decode cX4_append 5 = .ok (.getfield 9, 3) := by decide +kernel
theorem dX4_append_8 : decode cX4_append 8 = .ok (.arraylength, 1) := by decide +kernel
theorem dX4_append_9 : decode cX4_append 9 = .ok (.if_icmp .ge 23, 3) := by decide +kernel
theorem dX4_append_12 : decode cX4_append 12 = .ok (.aload_n 0, 1) := by decide +kernel
theorem dX4_append_13 : decode cX4_append 13 = .ok (.getfield 9, 3) := by decide +kernel
theorem dX4_append_16 : decode cX4_append 16 = .ok (.aload_n 0, 1) := by decide +kernel
theorem dX4_append_17 : decode cX4_append 17 = .ok (.getfield 19, 3) := by decide +kernel
theorem dX4_append_20 : decode cX4_append 20 = .ok (.iload_n 1, 1) := by decide +kernel
theorem dX4_append_21 : decode cX4_append 21 = .ok (.castore, 1) := by decide +kernel
theorem dX4_append_22 : decode cX4_append 22 = .ok (.aload_n 0, 1) := by decide +kernel
theorem dX4_append_23 : decode cX4_append 23 = .ok (.dup, 1) := by decide +kernel
theorem dX4_append_24 : decode cX4_append 24 = .ok (.getfield 19, 3) := by decide +kernel
theorem dX4_append_27 : decode cX4_append 27 = .ok (.iconst 1, 1) := by decide +kernel
theorem dX4_append_28 : decode cX4_append 28 = .ok (.iadd, 1) := by decide +kernel
theorem dX4_append_29 : decode cX4_append 29 = .ok (.putfield 19, 3) := by decide +kernel
theorem dX4_append_32 : decode cX4_append 32 = .ok (.return_, 1) := by decide +kernel
theorem dX4_signAt_0 : decode cX4_signAt 0 = .ok (.iload_n 1, 1) := by decide +kernel
theorem dX4_signAt_1 : decode cX4_signAt 1 = .ok (.ifCond .lt 29, 3) := by decide +kernel
theorem dX4_signAt_4 : decode cX4_signAt 4 = .ok (.iload_n 1, 1) := by decide +kernel
theorem dX4_signAt_5 : decode cX4_signAt 5 = .ok (.aload_n 0, 1) := by decide +kernel
theorem dX4_signAt_6 : decode cX4_signAt 6 = .ok (.getfield 19, 3) := by decide +kernel
theorem dX4_signAt_9 : decode cX4_signAt 9 = .ok (.if_icmp .ge 21, 3) := by decide +kernel
theorem dX4_signAt_12 : decode cX4_signAt 12 = .ok (.iload_n 1, 1) := by decide +kernel
theorem dX4_signAt_13 : decode cX4_signAt 13 = .ok (.aload_n 0, 1) := by decide +kernel
theorem dX4_signAt_14 : decode cX4_signAt 14 = .ok (.getfield 9, 3) := by decide +kernel
theorem dX4_signAt_17 : decode cX4_signAt 17 = .ok (.arraylength, 1) := by decide +kernel
theorem dX4_signAt_18 : decode cX4_signAt 18 = .ok (.if_icmp .ge 12, 3) := by decide +kernel
theorem dX4_signAt_21 : decode cX4_signAt 21 = .ok (.aload_n 0, 1) := by decide +kernel
theorem dX4_signAt_22 : decode cX4_signAt 22 = .ok (.getfield 9, 3) := by decide +kernel
theorem dX4_signAt_25 : decode cX4_signAt 25 = .ok (.iload_n 1, 1) := by decide +kernel
theorem dX4_signAt_26 : decode cX4_signAt 26 = .ok (.caload, 1) := by decide +kernel
theorem dX4_signAt_27 : decode cX4_signAt 27 = .ok (.goto 4, 3) := by decide +kernel
theorem dX4_signAt_30 : decode cX4_signAt 30 = .ok (.iconst 0, 1) := by decide +kernel
theorem dX4_signAt_31 : decode cX4_signAt 31 = .ok (.ireturn, 1) := by decide +kernel
set_option maxRecDepth 20000 in
theorem ggX4_check_X4_readTarget : GoodIn wsX4_check wsX4_readTarget := goodIn_r _ [9, 10, 11, 12, 13, 8, 14, 15, 16, 17, 18, 3, 19, 20, 21, 22, 35, 36, 37, 38, 39, 40] (by decide +kernel) (by decide +kernel)
set_option maxRecDepth 20000 in
theorem gX4_check_X4_readTarget : GoodIn wsX4_check (wsV RX4 29 RX4 yX4_readTarget wsX4_readTarget) := goodIn_app (goodIn_of _ (by decide +kernel)) ggX4_check_X4_readTarget
set_option maxRecDepth 20000 in
theorem ggX4_check_X4_reasonAgainstEntry : GoodIn wsX4_check wsX4_reasonAgainstEntry := goodIn_r _ [26, 10, 1, 27, 28, 29, 30, 31, 32, 33, 34, 35, 36, 37, 38, 39, 40] (by decide +kernel) (by decide +kernel)
set_option maxRecDepth 20000 in
theorem gX4_check_X4_reasonAgainstEntry : GoodIn wsX4_check (wsV RX4 33 RX4 yX4_reasonAgainstEntry wsX4_reasonAgainstEntry) := goodIn_app (goodIn_of _ (by decide +kernel)) ggX4_check_X4_reasonAgainstEntry
theorem dX4_check_0 : decode cX4_check 0 = .ok (.aload_n 0, 1) := by decide +kernel
theorem dX4_check_1 : decode cX4_check 1 = .ok (.iconst 0, 1) := by decide +kernel
theorem dX4_check_2 : decode cX4_check 2 = .ok (.putfield 23, 3) := by decide +kernel
theorem dX4_check_5 : decode cX4_check 5 = .ok (.aload_n 0, 1) := by decide +kernel
theorem dX4_check_6 : decode cX4_check 6 = .ok (.iconst 0, 1) := by decide +kernel
theorem dX4_check_7 : decode cX4_check 7 = .ok (.putfield 26, 3) := by decide +kernel
theorem dX4_check_10 : decode cX4_check 10 = .ok (.iconst 0, 1) := by decide +kernel
theorem dX4_check_11 : decode cX4_check 11 = .ok (.istore_n 2, 1) := by decide +kernel
theorem dX4_check_12 : decode cX4_check 12 = .ok (.iconst 0, 1) := by decide +kernel
theorem dX4_check_13 : decode cX4_check 13 = .ok (.istore_n 3, 1) := by decide +kernel
theorem dX4_check_14 : decode cX4_check 14 = .ok (.iload_n 3, 1) := by decide +kernel
theorem dX4_check_15 : decode cX4_check 15 = .ok (.bipush 100, 2) := by decide +kernel
theorem dX4_check_17 : decode cX4_check 17 = .ok (.if_icmp .ge 61, 3) := by decide +kernel
theorem dX4_check_20 : decode cX4_check 20 = .ok (.iload_n 2, 1) := by decide +kernel
theorem dX4_check_21 : decode cX4_check 21 = .ok (.aload_n 0, 1) := by decide +kernel
theorem dX4_check_22 : decode cX4_check 22 = .ok (.getfield 19, 3) := by decide +kernel
theorem dX4_check_25 : decode cX4_check 25 = .ok (.if_icmp .ge 53, 3) := by decide +kernel
theorem dX4_check_28 : decode cX4_check 28 = .ok (.aload_n 0, 1) := by decide +kernel
theorem dX4_check_29 : decode cX4_check 29 = .ok (.iload_n 2, 1) := by decide +kernel
theorem dX4_check_30 : decode cX4_check 30 = .ok (.invokevirtual 29, 3) := by decide +kernel
theorem dX4_check_33 : decode cX4_check 33 = .ok (.istore 4, 2) := by decide +kernel
theorem dX4_check_35 : decode cX4_check 35 = .ok (.aload_n 0, 1) := by decide +kernel
theorem dX4_check_36 : decode cX4_check 36 = .ok (.aload_n 0, 1) := by decide +kernel
theorem dX4_check_37 : decode cX4_check 37 = .ok (.iload 4, 2) := by decide +kernel
theorem dX4_check_39 : decode cX4_check 39 = .ok (.iload_n 1, 1) := by decide +kernel
theorem dX4_check_40 : decode cX4_check 40 = .ok (.invokevirtual 33, 3) := by decide +kernel
theorem dX4_check_43 : decode cX4_check 43 = .ok (.putfield 26, 3) := by decide +kernel
theorem dX4_check_46 : decode cX4_check 46 = .ok (.aload_n 0, 1) := by decide +kernel
theorem dX4_check_47 : decode cX4_check 47 = .ok (.getfield 26, 3) := by decide +kernel
theorem dX4_check_50 : decode cX4_check 50 = .ok (.ifCond .eq 9, 3) := by decide +kernel
theorem dX4_check_53 : decode cX4_check 53 = .ok (.aload_n 0, 1) := by decide +kernel
theorem dX4_check_54 : decode cX4_check 54 = .ok (.iload_n 2, 1) := by decide +kernel
theorem dX4_check_55 : decode cX4_check 55 = .ok (.putfield 37, 3) := by decide +kernel
theorem dX4_check_58 : decode cX4_check 58 = .ok (.return_, 1) := by decide +kernel
theorem dX4_check_59 : decode cX4_check 59 = .ok (.aload_n 0, 1) := by decide +kernel
theorem dX4_check_60 : decode cX4_check 60 = .ok (.dup, 1) := by decide +kernel
theorem dX4_check_61 : decode cX4_check 61 = .ok (.getfield 23, 3) := by decide +kernel
theorem dX4_check_64 : decode cX4_check 64 = .ok (.iconst 1, 1) := by decide +kernel
theorem dX4_check_65 : decode cX4_check 65 = .ok (.iadd, 1) := by decide +kernel
theorem dX4_check_66 : decode cX4_check 66 = .ok (.putfield 23, 3) := by decide +kernel
theorem dX4_check_69 : decode cX4_check 69 = .ok (.iload 4, 2) := by decide +kernel
theorem dX4_check_71 : decode cX4_check 71 = .ok (.istore_n 2, 1) := by decide +kernel
theorem dX4_check_72 : decode cX4_check 72 = .ok (.iinc 3 1, 3) := by decide +kernel
theorem dX4_check_75 : decode cX4_check 75 = .ok (.goto (-61), 3) := by decide +kernel
theorem dX4_check_78 : decode cX4_check 78 = .ok (.return_, 1) := by decide +kernel
set_option maxRecDepth 20000 in
theorem ggX4_reasonAgainstEntry_X6_isTargetInRange : GoodIn wsX4_reasonAgainstEntry wsX6_isTargetInRange := goodIn_r _ [5, 6, 7, 8, 9, 4, 10] (by decide +kernel) (by decide +kernel)
set_option maxRecDepth 20000 in
theorem gX4_reasonAgainstEntry_X6_isTargetInRange_n40 : GoodIn wsX4_reasonAgainstEntry (wsX6_isTargetInRange) := ggX4_reasonAgainstEntry_X6_isTargetInRange
theorem dX4_reasonAgainstEntry_0 : decode cX4_reasonAgainstEntry 0 = .ok (.iload_n 1, 1) := by decide +kernel
theorem dX4_reasonAgainstEntry_1 : decode cX4_reasonAgainstEntry 1 = .ok (.iconst (-1), 1) := by decide +kernel
theorem dX4_reasonAgainstEntry_2 : decode cX4_reasonAgainstEntry 2 = .ok (.if_icmp .ne 5, 3) := by decide +kernel
theorem dX4_reasonAgainstEntry_5 : decode cX4_reasonAgainstEntry 5 = .ok (.iconst 1, 1) := by decide +kernel
theorem dX4_reasonAgainstEntry_6 : decode cX4_reasonAgainstEntry 6 = .ok (.ireturn, 1) := by decide +kernel
theorem dX4_reasonAgainstEntry_7 : decode cX4_reasonAgainstEntry 7 = .ok (.aload_n 0, 1) := by decide +kernel
theorem dX4_reasonAgainstEntry_8 : decode cX4_reasonAgainstEntry 8 = .ok (.getfield 15, 3) := by decide +kernel
theorem dX4_reasonAgainstEntry_11 : decode cX4_reasonAgainstEntry 11 = .ok (.iconst 0, 1) := by decide +kernel
theorem dX4_reasonAgainstEntry_12 : decode cX4_reasonAgainstEntry 12 = .ok (.iaload, 1) := by decide +kernel
theorem dX4_reasonAgainstEntry_13 : decode cX4_reasonAgainstEntry 13 = .ok (.aload_n 0, 1) := by decide +kernel
theorem dX4_reasonAgainstEntry_14 : decode cX4_reasonAgainstEntry 14 = .ok (.getfield 15, 3) := by decide +kernel
theorem dX4_reasonAgainstEntry_17 : decode cX4_reasonAgainstEntry 17 = .ok (.iconst 1, 1) := by decide +kernel
theorem dX4_reasonAgainstEntry_18 : decode cX4_reasonAgainstEntry 18 = .ok (.iaload, 1) := by decide +kernel
theorem dX4_reasonAgainstEntry_19 : decode cX4_reasonAgainstEntry 19 = .ok (.aload_n 0, 1) := by decide +kernel
theorem dX4_reasonAgainstEntry_20 : decode cX4_reasonAgainstEntry 20 = .ok (.getfield 15, 3) := by decide +kernel
theorem dX4_reasonAgainstEntry_23 : decode cX4_reasonAgainstEntry 23 = .ok (.iconst 2, 1) := by decide +kernel
theorem dX4_reasonAgainstEntry_24 : decode cX4_reasonAgainstEntry 24 = .ok (.iaload, 1) := by decide +kernel
theorem dX4_reasonAgainstEntry_25 : decode cX4_reasonAgainstEntry 25 = .ok (.aload_n 0, 1) := by decide +kernel
theorem dX4_reasonAgainstEntry_26 : decode cX4_reasonAgainstEntry 26 = .ok (.getfield 15, 3) := by decide +kernel
theorem dX4_reasonAgainstEntry_29 : decode cX4_reasonAgainstEntry 29 = .ok (.iconst 3, 1) := by decide +kernel
theorem dX4_reasonAgainstEntry_30 : decode cX4_reasonAgainstEntry 30 = .ok (.iaload, 1) := by decide +kernel
theorem dX4_reasonAgainstEntry_31 : decode cX4_reasonAgainstEntry 31 = .ok (.aload_n 0, 1) := by decide +kernel
theorem dX4_reasonAgainstEntry_32 : decode cX4_reasonAgainstEntry 32 = .ok (.getfield 15, 3) := by decide +kernel
theorem dX4_reasonAgainstEntry_35 : decode cX4_reasonAgainstEntry 35 = .ok (.iconst 4, 1) := by decide +kernel
theorem dX4_reasonAgainstEntry_36 : decode cX4_reasonAgainstEntry 36 = .ok (.iaload, 1) := by decide +kernel
theorem dX4_reasonAgainstEntry_37 : decode cX4_reasonAgainstEntry 37 = .ok (.aload_n 0, 1) := by decide +kernel
theorem dX4_reasonAgainstEntry_38 : decode cX4_reasonAgainstEntry 38 = .ok (.getfield 15, 3) := by decide +kernel
theorem dX4_reasonAgainstEntry_41 : decode cX4_reasonAgainstEntry 41 = .ok (.iconst 5, 1) := by decide +kernel
theorem dX4_reasonAgainstEntry_42 : decode cX4_reasonAgainstEntry 42 = .ok (.iaload, 1) := by decide +kernel
theorem dX4_reasonAgainstEntry_43 : decode cX4_reasonAgainstEntry 43 = .ok (.invokestatic 40, 3) := by decide +kernel
theorem dX4_reasonAgainstEntry_46 : decode cX4_reasonAgainstEntry 46 = .ok (.ifCond .ne 5, 3) := by decide +kernel
theorem dX4_reasonAgainstEntry_49 : decode cX4_reasonAgainstEntry 49 = .ok (.iconst 2, 1) := by decide +kernel
theorem dX4_reasonAgainstEntry_50 : decode cX4_reasonAgainstEntry 50 = .ok (.ireturn, 1) := by decide +kernel
theorem dX4_reasonAgainstEntry_51 : decode cX4_reasonAgainstEntry 51 = .ok (.aload_n 0, 1) := by decide +kernel
theorem dX4_reasonAgainstEntry_52 : decode cX4_reasonAgainstEntry 52 = .ok (.getfield 23, 3) := by decide +kernel
theorem dX4_reasonAgainstEntry_55 : decode cX4_reasonAgainstEntry 55 = .ok (.iload_n 2, 1) := by decide +kernel
theorem dX4_reasonAgainstEntry_56 : decode cX4_reasonAgainstEntry 56 = .ok (.if_icmp .lt 7, 3) := by decide +kernel
theorem dX4_reasonAgainstEntry_59 : decode cX4_reasonAgainstEntry 59 = .ok (.iconst 3, 1) := by decide +kernel
theorem dX4_reasonAgainstEntry_60 : decode cX4_reasonAgainstEntry 60 = .ok (.goto 4, 3) := by decide +kernel
theorem dX4_reasonAgainstEntry_63 : decode cX4_reasonAgainstEntry 63 = .ok (.iconst 0, 1) := by decide +kernel
theorem dX4_reasonAgainstEntry_64 : decode cX4_reasonAgainstEntry 64 = .ok (.ireturn, 1) := by decide +kernel
set_option maxRecDepth 20000 in
theorem ggX4_readTarget_X4_readPart : GoodIn wsX4_readTarget wsX4_readPart := goodIn_r _ [6, 1, 7, 8, 9, 5, 10, 11, 12, 13, 14, 15, 16, 17, 18, 19, 20, 21] (by decide +kernel) (by decide +kernel)
set_option maxRecDepth 20000 in
theorem gX4_readTarget_X4_readPart : GoodIn wsX4_readTarget (wsV RX4 44 RX4 yX4_readPart wsX4_readPart) := goodIn_app (goodIn_of _ (by decide +kernel)) ggX4_readTarget_X4_readPart
set_option maxRecDepth 20000 in
theorem ggX4_readTarget_X4_signAt : GoodIn wsX4_readTarget wsX4_signAt := goodIn_r _ [10, 11, 12, 16, 17, 18, 19, 20, 21] (by decide +kernel) (by decide +kernel)
set_option maxRecDepth 20000 in
theorem gX4_readTarget_X4_signAt : GoodIn wsX4_readTarget (wsV RX4 47 RX4 yX4_signAt wsX4_signAt) := goodIn_app (goodIn_of _ (by decide +kernel)) ggX4_readTarget_X4_signAt
theorem dX4_readTarget_0 : decode cX4_readTarget 0 = .ok (.iload_n 1, 1) := by decide +kernel
theorem dX4_readTarget_1 : decode cX4_readTarget 1 = .ok (.istore_n 2, 1) := by decide +kernel
theorem dX4_readTarget_2 : decode cX4_readTarget 2 = .ok (.iconst 0, 1) := by decide +kernel
theorem dX4_readTarget_3 : decode cX4_readTarget 3 = .ok (.istore_n 3, 1) := by decide +kernel
theorem dX4_readTarget_4 : decode cX4_readTarget 4 = .ok (.iload_n 3, 1) := by decide +kernel
theorem dX4_readTarget_5 : decode cX4_readTarget 5 = .ok (.iconst 5, 1) := by decide +kernel
theorem dX4_readTarget_6 : decode cX4_readTarget 6 = .ok (.if_icmp .ge 16, 3) := by decide +kernel
theorem dX4_readTarget_9 : decode cX4_readTarget 9 = .ok (.aload_n 0, 1) := by decide +kernel
theorem dX4_readTarget_10 : decode cX4_readTarget 10 = .ok (.iload_n 2, 1) := by decide +kernel
theorem dX4_readTarget_11 : decode cX4_readTarget 11 = .ok (.iload_n 3, 1) := by decide +kernel
theorem dX4_readTarget_12 : decode cX4_readTarget 12 = .ok (.invokevirtual 44, 3) := by decide +kernel
theorem dX4_readTarget_15 : decode cX4_readTarget 15 = .ok (.istore_n 2, 1) := by decide +kernel
theorem dX4_readTarget_16 : decode cX4_readTarget 16 = .ok (.iinc 3 1, 3) := by decide +kernel
theorem dX4_readTarget_19 : decode cX4_readTarget 19 = .ok (.goto (-15), 3) := by decide +kernel
theorem dX4_readTarget_22 : decode cX4_readTarget 22 = .ok (.aload_n 0, 1) := by decide +kernel
theorem dX4_readTarget_23 : decode cX4_readTarget 23 = .ok (.getfield 15, 3) := by decide +kernel
theorem dX4_readTarget_26 : decode cX4_readTarget 26 = .ok (.iconst 5, 1) := by decide +kernel
theorem dX4_readTarget_27 : decode cX4_readTarget 27 = .ok (.iconst 0, 1) := by decide +kernel
theorem dX4_readTarget_28 : decode cX4_readTarget 28 = .ok (.iastore, 1) := by decide +kernel
theorem dX4_readTarget_29 : decode cX4_readTarget 29 = .ok (.aload_n 0, 1) := by decide +kernel
theorem dX4_readTarget_30 : decode cX4_readTarget 30 = .ok (.iload_n 2, 1) := by decide +kernel
theorem dX4_readTarget_31 : decode cX4_readTarget 31 = .ok (.invokevirtual 47, 3) := by decide +kernel
theorem dX4_readTarget_34 : decode cX4_readTarget 34 = .ok (.getstatic 51, 3) := by decide +kernel
theorem dX4_readTarget_37 : decode cX4_readTarget 37 = .ok (.iconst 5, 1) := by decide +kernel
theorem dX4_readTarget_38 : decode cX4_readTarget 38 = .ok (.caload, 1) := by decide +kernel
theorem dX4_readTarget_39 : decode cX4_readTarget 39 = .ok (.if_icmp .ne 10, 3) := by decide +kernel
theorem dX4_readTarget_42 : decode cX4_readTarget 42 = .ok (.aload_n 0, 1) := by decide +kernel
theorem dX4_readTarget_43 : decode cX4_readTarget 43 = .ok (.iload_n 2, 1) := by decide +kernel
theorem dX4_readTarget_44 : decode cX4_readTarget 44 = .ok (.iconst 5, 1) := by decide +kernel
theorem dX4_readTarget_45 : decode cX4_readTarget 45 = .ok (.invokevirtual 44, 3) := by decide +kernel
theorem dX4_readTarget_48 : decode cX4_readTarget 48 = .ok (.istore_n 2, 1) := by decide +kernel
theorem dX4_readTarget_49 : decode cX4_readTarget 49 = .ok (.aload_n 0, 1) := by decide +kernel
theorem dX4_readTarget_50 : decode cX4_readTarget 50 = .ok (.iload_n 2, 1) := by decide +kernel
theorem dX4_readTarget_51 : decode cX4_readTarget 51 = .ok (.invokevirtual 47, 3) := by decide +kernel
theorem dX4_readTarget_54 : decode cX4_readTarget 54 = .ok (.bipush 59, 2) := by decide +kernel
theorem dX4_readTarget_56 : decode cX4_readTarget 56 = .ok (.if_icmp .ne 9, 3) := by decide +kernel
theorem dX4_readTarget_59 : decode cX4_readTarget 59 = .ok (.iload_n 2, 1) := by decide +kernel
theorem dX4_readTarget_60 : decode cX4_readTarget 60 = .ok (.iconst 1, 1) := by decide +kernel
theorem dX4_readTarget_61 : decode cX4_readTarget 61 = .ok (.iadd, 1) := by decide +kernel
theorem dX4_readTarget_62 : decode cX4_readTarget 62 = .ok (.goto 4, 3) := by decide +kernel
theorem dX4_readTarget_65 : decode cX4_readTarget 65 = .ok (.iconst (-1), 1) := by decide +kernel
theorem dX4_readTarget_66 : decode cX4_readTarget 66 = .ok (.ireturn, 1) := by decide +kernel
set_option maxRecDepth 20000 in
theorem ggX4_readPart_X4_signAt : GoodIn wsX4_readPart wsX4_signAt := goodIn_r _ [6, 7, 8, 12, 13, 14, 15, 16, 17] (by decide +kernel) (by decide +kernel)
set_option maxRecDepth 20000 in
theorem gX4_readPart_X4_signAt : GoodIn wsX4_readPart (wsV RX4 47 RX4 yX4_signAt wsX4_signAt) := goodIn_app (goodIn_of _ (by decide +kernel)) ggX4_readPart_X4_signAt
set_option maxRecDepth 20000 in
theorem ggX4_readPart_X4_isDigit : GoodIn wsX4_readPart wsX4_isDigit := goodIn_r _ [11] (by decide +kernel) (by decide +kernel)
set_option maxRecDepth 20000 in
theorem gX4_readPart_X4_isDigit : GoodIn wsX4_readPart (va_wsS RX4 54 yX4_isDigit wsX4_isDigit) := goodIn_app (goodIn_of _ (by decide +kernel)) ggX4_readPart_X4_isDigit
theorem dX4_readPart_0 : decode cX4_readPart 0 = .ok (.aload_n 0, 1) := by decide +kernel
theorem dX4_readPart_1 : decode cX4_readPart 1 = .ok (.iload_n 1, 1) := by decide +kernel
theorem dX4_readPart_2 : decode cX4_readPart 2 = .ok (.invokevirtual 47, 3) := by decide +kernel
theorem dX4_readPart_5 : decode cX4_readPart 5 = .ok (.getstatic 51, 3) := by decide +kernel
theorem dX4_readPart_8 : decode cX4_readPart 8 = .ok (.iload_n 2, 1) := by decide +kernel
theorem dX4_readPart_9 : decode cX4_readPart 9 = .ok (.caload, 1) := by decide +kernel
theorem dX4_readPart_10 : decode cX4_readPart 10 = .ok (.if_icmp .eq 5, 3) := by decide +kernel
theorem dX4_readPart_13 : decode cX4_readPart 13 = .ok (.iconst (-1), 1) := by decide +kernel
theorem dX4_readPart_14 : decode cX4_readPart 14 = .ok (.ireturn, 1) := by decide +kernel
theorem dX4_readPart_15 : decode cX4_readPart 15 = .ok (.iconst 0, 1) := by decide +kernel
theorem dX4_readPart_16 : decode cX4_readPart 16 = .ok (.istore_n 3, 1) := by decide +kernel
theorem dX4_readPart_17 : decode cX4_readPart 17 = .ok (.iconst 0, 1) := by decide +kernel
theorem dX4_readPart_18 : decode cX4_readPart 18 = .ok (.istore 4, 2) := by decide +kernel
theorem dX4_readPart_20 : decode cX4_readPart 20 = .ok (.iload 4, 2) := by decide +kernel
theorem dX4_readPart_22 : decode cX4_readPart 22 = .ok (.iconst 5, 1) := by decide +kernel
theorem dX4_readPart_23 : decode cX4_readPart 23 = .ok (.if_icmp .ge 44, 3) := by decide +kernel
theorem dX4_readPart_26 : decode cX4_readPart 26 = .ok (.aload_n 0, 1) := by decide +kernel
theorem dX4_readPart_27 : decode cX4_readPart 27 = .ok (.iload_n 1, 1) := by decide +kernel
theorem dX4_readPart_28 : decode cX4_readPart 28 = .ok (.iconst 1, 1) := by decide +kernel
theorem dX4_readPart_29 : decode cX4_readPart 29 = .ok (.iadd, 1) := by decide +kernel
theorem dX4_readPart_30 : decode cX4_readPart 30 = .ok (.iload 4, 2) := by decide +kernel
theorem dX4_readPart_32 : decode cX4_readPart 32 = .ok (.iadd, 1) := by decide +kernel
theorem dX4_readPart_33 : decode cX4_readPart 33 = .ok (.invokevirtual 47, 3) := by decide +kernel
theorem dX4_readPart_36 : decode cX4_readPart 36 = .ok (.invokestatic 54, 3) := by decide +kernel
theorem dX4_readPart_39 : decode cX4_readPart 39 = .ok (.ifCond .eq 28, 3) := by decide +kernel
theorem dX4_readPart_42 : decode cX4_readPart 42 = .ok (.iload_n 3, 1) := by decide +kernel
theorem dX4_readPart_43 : decode cX4_readPart 43 = .ok (.bipush 10, 2) := by decide +kernel
theorem dX4_readPart_45 : decode cX4_readPart 45 = .ok (.imul, 1) := by decide +kernel
theorem dX4_readPart_46 : decode cX4_readPart 46 = .ok (.aload_n 0, 1) := by decide +kernel
theorem dX4_readPart_47 : decode cX4_readPart 47 = .ok (.iload_n 1, 1) := by decide +kernel
theorem dX4_readPart_48 : decode cX4_readPart 48 = .ok (.iconst 1, 1) := by decide +kernel
theorem dX4_readPart_49 : decode cX4_readPart 49 = .ok (.iadd, 1) := by decide +kernel
theorem dX4_readPart_50 : decode cX4_readPart 50 = .ok (.iload 4, 2) := by decide +kernel
theorem dX4_readPart_52 : decode cX4_readPart 52 = .ok (.iadd, 1) := by decide +kernel
theorem dX4_readPart_53 : decode cX4_readPart 53 = .ok (.invokevirtual 47, 3) := by decide +kernel
theorem dX4_readPart_56 : decode cX4_readPart 56 = .ok (.bipush 48, 2) := by decide +kernel
theorem dX4_readPart_58 : decode cX4_readPart 58 = .ok (.isub, 1) := by decide +kernel
theorem dX4_readPart_59 : decode cX4_readPart 59 = .ok (.iadd, 1) := by decide +kernel
theorem dX4_readPart_60 : decode cX4_readPart 60 = .ok (.istore_n 3, 1) := by decide +kernel
theorem dX4_readPart_61 : decode cX4_readPart 61 = .ok (.iinc 4 1, 3) := by decide +kernel
theorem dX4_readPart_64 : decode cX4_readPart 64 = .ok (.goto (-44), 3) := by decide +kernel
theorem dX4_readPart_67 : decode cX4_readPart 67 = .ok (.aload_n 0, 1) := by decide +kernel
theorem dX4_readPart_68 : decode cX4_readPart 68 = .ok (.getfield 15, 3) := by decide +kernel
theorem dX4_readPart_71 : decode cX4_readPart 71 = .ok (.iload_n 2, 1) := by decide +kernel
theorem dX4_readPart_72 : decode cX4_readPart 72 = .ok (.iload_n 3, 1) := by decide +kernel
theorem dX4_readPart_73 : decode cX4_readPart 73 = .ok (.iastore, 1) := by decide +kernel
theorem dX4_readPart_74 : decode cX4_readPart 74 = .ok (.iload 4, 2) := by decide +kernel
theorem dX4_readPart_76 : decode cX4_readPart 76 = .ok (.ifCond .ne 7, 3) := by decide +kernel
theorem dX4_readPart_79 : decode cX4_readPart 79 = .ok (.iconst (-1), 1) := by decide +kernel
theorem dX4_readPart_80 : decode cX4_readPart 80 = .ok (.goto 9, 3) := by decide +kernel
theorem dX4_readPart_83 : decode cX4_readPart 83 = .ok (.iload_n 1, 1) := by decide +kernel
theorem dX4_readPart_84 : decode cX4_readPart 84 = .ok (.iconst 1, 1) := by decide +kernel
theorem dX4_readPart_85 : decode cX4_readPart 85 = .ok (.iadd, 1) := by decide +kernel
theorem dX4_readPart_86 : decode cX4_readPart 86 = .ok (.iload 4, 2) := by decide +kernel
theorem dX4_readPart_88 : decode cX4_readPart 88 = .ok (.iadd, 1) := by decide +kernel
theorem dX4_readPart_89 : decode cX4_readPart 89 = .ok (.ireturn, 1) := by decide +kernel
theorem dX4_isDigit_0 : decode cX4_isDigit 0 = .ok (.iload_n 0, 1) := by decide +kernel
theorem dX4_isDigit_1 : decode cX4_isDigit 1 = .ok (.bipush 48, 2) := by decide +kernel
theorem dX4_isDigit_3 : decode cX4_isDigit 3 = .ok (.if_icmp .lt 13, 3) := by decide +kernel
theorem dX4_isDigit_6 : decode cX4_isDigit 6 = .ok (.iload_n 0, 1) := by decide +kernel
theorem dX4_isDigit_7 : decode cX4_isDigit 7 = .ok (.bipush 57, 2) := by decide +kernel
theorem dX4_isDigit_9 : decode cX4_isDigit 9 = .ok (.if_icmp .gt 7, 3) := by decide +kernel
theorem dX4_isDigit_12 : decode cX4_isDigit 12 = .ok (.iconst 1, 1) := by decide +kernel
theorem dX4_isDigit_13 : decode cX4_isDigit 13 = .ok (.goto 4, 3) := by decide +kernel
theorem dX4_isDigit_16 : decode cX4_isDigit 16 = .ok (.iconst 0, 1) := by decide +kernel
theorem dX4_isDigit_17 : decode cX4_isDigit 17 = .ok (.ireturn, 1) := by decide +kernel
theorem dX5_init_0 : decode cX5_init 0 = .ok (.aload_n 0, 1) := by decide +kernel
theorem dX5_init_1 : decode cX5_init 1 = .ok (.invokespecial 3, 3) := by decide +kernel
theorem dX5_init_4 : decode cX5_init 4 = .ok (.return_, 1) := by decide +kernel
set_option maxRecDepth 20000 in
theorem ggX5_plan_X0_dish : GoodIn wsX5_plan wsX0_dish := goodIn_r _ [21, 22, 23, 37, 38, 39, 40, 41, 42, 43, 44, 45, 46] (by decide +kernel) (by decide +kernel)
set_option maxRecDepth 20000 in
theorem gX5_plan_X0_dish : GoodIn wsX5_plan (wsV RX5 9 RX0 yX0_dish wsX0_dish) := goodIn_app (goodIn_of _ (by decide +kernel)) ggX5_plan_X0_dish
set_option maxRecDepth 20000 in
theorem ggX5_plan_X0_reaches : GoodIn wsX5_plan wsX0_reaches := goodIn_r _ [27, 28, 29, 37, 38, 39, 40, 41, 42, 43, 44, 45, 46] (by decide +kernel) (by decide +kernel)
set_option maxRecDepth 20000 in
theorem gX5_plan_X0_reaches : GoodIn wsX5_plan (wsV RX5 43 RX0 yX0_reaches wsX0_reaches) := goodIn_app (goodIn_of _ (by decide +kernel)) ggX5_plan_X0_reaches
theorem dX5_plan_0 : decode cX5_plan 0 = .ok (.aload_n 1, 1) := by decide +kernel
theorem dX5_plan_1 : decode cX5_plan 1 = .ok (.invokevirtual 9, 3) := by decide +kernel
theorem dX5_plan_4 : decode cX5_plan 4 = .ok (.istore 4, 2) := by decide +kernel
theorem dX5_plan_6 : decode cX5_plan 6 = .ok (.aload_n 0, 1) := by decide +kernel
theorem dX5_plan_7 : decode cX5_plan 7 = .ok (.iload_n 2, 1) := by decide +kernel
theorem dX5_plan_8 : decode cX5_plan 8 = .ok (.putfield 15, 3) := by decide +kernel
theorem dX5_plan_11 : decode cX5_plan 11 = .ok (.aload_n 1, 1) := by decide +kernel
theorem dX5_plan_12 : decode cX5_plan 12 = .ok (.getfield 21, 3) := by decide +kernel
theorem dX5_plan_15 : decode cX5_plan 15 = .ok (.lookupswitch 149 #[(1, 25), (2, 89)], 25) := by decide +kernel
theorem dX5_plan_40 : decode cX5_plan 40 = .ok (.iload 4, 2) := by decide +kernel
theorem dX5_plan_42 : decode cX5_plan 42 = .ok (.iload_n 2, 1) := by decide +kernel
theorem dX5_plan_43 : decode cX5_plan 43 = .ok (.if_icmp .ne 18, 3) := by decide +kernel
theorem dX5_plan_46 : decode cX5_plan 46 = .ok (.aload_n 1, 1) := by decide +kernel
theorem dX5_plan_47 : decode cX5_plan 47 = .ok (.getfield 24, 3) := by decide +kernel
theorem dX5_plan_50 : decode cX5_plan 50 = .ok (.aload_n 1, 1) := by decide +kernel
theorem dX5_plan_51 : decode cX5_plan 51 = .ok (.getfield 27, 3) := by decide +kernel
theorem dX5_plan_54 : decode cX5_plan 54 = .ok (.if_icmp .ne 7, 3) := by decide +kernel
theorem dX5_plan_57 : decode cX5_plan 57 = .ok (.iconst 1, 1) := by decide +kernel
theorem dX5_plan_58 : decode cX5_plan 58 = .ok (.goto 4, 3) := by decide +kernel
theorem dX5_plan_61 : decode cX5_plan 61 = .ok (.iconst 0, 1) := by decide +kernel
theorem dX5_plan_62 : decode cX5_plan 62 = .ok (.istore 5, 2) := by decide +kernel
theorem dX5_plan_64 : decode cX5_plan 64 = .ok (.aload_n 0, 1) := by decide +kernel
theorem dX5_plan_65 : decode cX5_plan 65 = .ok (.iload 4, 2) := by decide +kernel
theorem dX5_plan_67 : decode cX5_plan 67 = .ok (.iload_n 2, 1) := by decide +kernel
theorem dX5_plan_68 : decode cX5_plan 68 = .ok (.if_icmp .lt 12, 3) := by decide +kernel
theorem dX5_plan_71 : decode cX5_plan 71 = .ok (.iload 5, 2) := by decide +kernel
theorem dX5_plan_73 : decode cX5_plan 73 = .ok (.ifCond .ne 7, 3) := by decide +kernel
theorem dX5_plan_76 : decode cX5_plan 76 = .ok (.iconst 1, 1) := by decide +kernel
theorem dX5_plan_77 : decode cX5_plan 77 = .ok (.goto 4, 3) := by decide +kernel
theorem dX5_plan_80 : decode cX5_plan 80 = .ok (.iconst 0, 1) := by decide +kernel
theorem dX5_plan_81 : decode cX5_plan 81 = .ok (.putfield 30, 3) := by decide +kernel
theorem dX5_plan_84 : decode cX5_plan 84 = .ok (.aload_n 0, 1) := by decide +kernel
theorem dX5_plan_85 : decode cX5_plan 85 = .ok (.iload_n 2, 1) := by decide +kernel
theorem dX5_plan_86 : decode cX5_plan 86 = .ok (.iload_n 3, 1) := by decide +kernel
theorem dX5_plan_87 : decode cX5_plan 87 = .ok (.isub, 1) := by decide +kernel
theorem dX5_plan_88 : decode cX5_plan 88 = .ok (.putfield 34, 3) := by decide +kernel
theorem dX5_plan_91 : decode cX5_plan 91 = .ok (.aload_n 0, 1) := by decide +kernel
theorem dX5_plan_92 : decode cX5_plan 92 = .ok (.iload_n 2, 1) := by decide +kernel
theorem dX5_plan_93 : decode cX5_plan 93 = .ok (.aload_n 1, 1) := by decide +kernel
theorem dX5_plan_94 : decode cX5_plan 94 = .ok (.getfield 27, 3) := by decide +kernel
theorem dX5_plan_97 : decode cX5_plan 97 = .ok (.iadd, 1) := by decide +kernel
theorem dX5_plan_98 : decode cX5_plan 98 = .ok (.putfield 37, 3) := by decide +kernel
theorem dX5_plan_101 : decode cX5_plan 101 = .ok (.goto 101, 3) := by decide +kernel
theorem dX5_plan_104 : decode cX5_plan 104 = .ok (.iload 4, 2) := by decide +kernel
theorem dX5_plan_106 : decode cX5_plan 106 = .ok (.iload_n 2, 1) := by decide +kernel
theorem dX5_plan_107 : decode cX5_plan 107 = .ok (.if_icmp .ne 14, 3) := by decide +kernel
theorem dX5_plan_110 : decode cX5_plan 110 = .ok (.aload_n 1, 1) := by decide +kernel
theorem dX5_plan_111 : decode cX5_plan 111 = .ok (.getfield 24, 3) := by decide +kernel
theorem dX5_plan_114 : decode cX5_plan 114 = .ok (.ifCond .ne 7, 3) := by decide +kernel
theorem dX5_plan_117 : decode cX5_plan 117 = .ok (.iconst 1, 1) := by decide +kernel
theorem dX5_plan_118 : decode cX5_plan 118 = .ok (.goto 4, 3) := by decide +kernel
theorem dX5_plan_121 : decode cX5_plan 121 = .ok (.iconst 0, 1) := by decide +kernel
theorem dX5_plan_122 : decode cX5_plan 122 = .ok (.istore 5, 2) := by decide +kernel
theorem dX5_plan_124 : decode cX5_plan 124 = .ok (.aload_n 0, 1) := by decide +kernel
theorem dX5_plan_125 : decode cX5_plan 125 = .ok (.iload 4, 2) := by decide +kernel
theorem dX5_plan_127 : decode cX5_plan 127 = .ok (.iload_n 2, 1) := by decide +kernel
theorem dX5_plan_128 : decode cX5_plan 128 = .ok (.if_icmp .gt 12, 3) := by decide +kernel
theorem dX5_plan_131 : decode cX5_plan 131 = .ok (.iload 5, 2) := by decide +kernel
theorem dX5_plan_133 : decode cX5_plan 133 = .ok (.ifCond .ne 7, 3) := by decide +kernel
theorem dX5_plan_136 : decode cX5_plan 136 = .ok (.iconst 1, 1) := by decide +kernel
theorem dX5_plan_137 : decode cX5_plan 137 = .ok (.goto 4, 3) := by decide +kernel
theorem dX5_plan_140 : decode cX5_plan 140 = .ok (.iconst 0, 1) := by decide +kernel
theorem dX5_plan_141 : decode cX5_plan 141 = .ok (.putfield 30, 3) := by decide +kernel
theorem dX5_plan_144 : decode cX5_plan 144 = .ok (.aload_n 0, 1) := by decide +kernel
theorem dX5_plan_145 : decode cX5_plan 145 = .ok (.iload_n 2, 1) := by decide +kernel
theorem dX5_plan_146 : decode cX5_plan 146 = .ok (.aload_n 1, 1) := by decide +kernel
theorem dX5_plan_147 : decode cX5_plan 147 = .ok (.getfield 27, 3) := by decide +kernel
theorem dX5_plan_150 : decode cX5_plan 150 = .ok (.iadd, 1) := by decide +kernel
theorem dX5_plan_151 : decode cX5_plan 151 = .ok (.iload_n 3, 1) := by decide +kernel
theorem dX5_plan_152 : decode cX5_plan 152 = .ok (.iadd, 1) := by decide +kernel
theorem dX5_plan_153 : decode cX5_plan 153 = .ok (.putfield 34, 3) := by decide +kernel
theorem dX5_plan_156 : decode cX5_plan 156 = .ok (.aload_n 0, 1) := by decide +kernel
theorem dX5_plan_157 : decode cX5_plan 157 = .ok (.iload_n 2, 1) := by decide +kernel
theorem dX5_plan_158 : decode cX5_plan 158 = .ok (.putfield 37, 3) := by decide +kernel
theorem dX5_plan_161 : decode cX5_plan 161 = .ok (.goto 41, 3) := by decide +kernel
theorem dX5_plan_164 : decode cX5_plan 164 = .ok (.iload 4, 2) := by decide +kernel
theorem dX5_plan_166 : decode cX5_plan 166 = .ok (.iload_n 2, 1) := by decide +kernel
theorem dX5_plan_167 : decode cX5_plan 167 = .ok (.if_icmp .ne 7, 3) := by decide +kernel
theorem dX5_plan_170 : decode cX5_plan 170 = .ok (.iconst 1, 1) := by decide +kernel
theorem dX5_plan_171 : decode cX5_plan 171 = .ok (.goto 4, 3) := by decide +kernel
theorem dX5_plan_174 : decode cX5_plan 174 = .ok (.iconst 0, 1) := by decide +kernel
theorem dX5_plan_175 : decode cX5_plan 175 = .ok (.istore 5, 2) := by decide +kernel
theorem dX5_plan_177 : decode cX5_plan 177 = .ok (.aload_n 0, 1) := by decide +kernel
theorem dX5_plan_178 : decode cX5_plan 178 = .ok (.iconst 0, 1) := by decide +kernel
theorem dX5_plan_179 : decode cX5_plan 179 = .ok (.putfield 30, 3) := by decide +kernel
theorem dX5_plan_182 : decode cX5_plan 182 = .ok (.aload_n 0, 1) := by decide +kernel
theorem dX5_plan_183 : decode cX5_plan 183 = .ok (.iload 4, 2) := by decide +kernel
theorem dX5_plan_185 : decode cX5_plan 185 = .ok (.iload_n 2, 1) := by decide +kernel
theorem dX5_plan_186 : decode cX5_plan 186 = .ok (.if_icmp .ge 12, 3) := by decide +kernel
theorem dX5_plan_189 : decode cX5_plan 189 = .ok (.iload_n 2, 1) := by decide +kernel
theorem dX5_plan_190 : decode cX5_plan 190 = .ok (.aload_n 1, 1) := by decide +kernel
theorem dX5_plan_191 : decode cX5_plan 191 = .ok (.getfield 27, 3) := by decide +kernel
theorem dX5_plan_194 : decode cX5_plan 194 = .ok (.iadd, 1) := by decide +kernel
theorem dX5_plan_195 : decode cX5_plan 195 = .ok (.goto 4, 3) := by decide +kernel
theorem dX5_plan_198 : decode cX5_plan 198 = .ok (.iload_n 2, 1) := by decide +kernel
theorem dX5_plan_199 : decode cX5_plan 199 = .ok (.putfield 37, 3) := by decide +kernel
theorem dX5_plan_202 : decode cX5_plan 202 = .ok (.iload 5, 2) := by decide +kernel
theorem dX5_plan_204 : decode cX5_plan 204 = .ok (.ifCond .eq 11, 3) := by decide +kernel
theorem dX5_plan_207 : decode cX5_plan 207 = .ok (.aload_n 0, 1) := by decide +kernel
theorem dX5_plan_208 : decode cX5_plan 208 = .ok (.aload_n 1, 1) := by decide +kernel
theorem dX5_plan_209 : decode cX5_plan 209 = .ok (.getfield 40, 3) := by decide +kernel
theorem dX5_plan_212 : decode cX5_plan 212 = .ok (.putfield 37, 3) := by decide +kernel
theorem dX5_plan_215 : decode cX5_plan 215 = .ok (.aload_n 0, 1) := by decide +kernel
theorem dX5_plan_216 : decode cX5_plan 216 = .ok (.getfield 30, 3) := by decide +kernel
theorem dX5_plan_219 : decode cX5_plan 219 = .ok (.ifCond .ne 11, 3) := by decide +kernel
theorem dX5_plan_222 : decode cX5_plan 222 = .ok (.aload_n 0, 1) := by decide +kernel
theorem dX5_plan_223 : decode cX5_plan 223 = .ok (.aload_n 1, 1) := by decide +kernel
theorem dX5_plan_224 : decode cX5_plan 224 = .ok (.getfield 40, 3) := by decide +kernel
theorem dX5_plan_227 : decode cX5_plan 227 = .ok (.putfield 34, 3) := by decide +kernel
theorem dX5_plan_230 : decode cX5_plan 230 = .ok (.aload_n 0, 1) := by decide +kernel
theorem dX5_plan_231 : decode cX5_plan 231 = .ok (.aload_n 1, 1) := by decide +kernel
theorem dX5_plan_232 : decode cX5_plan 232 = .ok (.aload_n 0, 1) := by decide +kernel
theorem dX5_plan_233 : decode cX5_plan 233 = .ok (.getfield 34, 3) := by decide +kernel
theorem dX5_plan_236 : decode cX5_plan 236 = .ok (.invokevirtual 43, 3) := by decide +kernel
theorem dX5_plan_239 : decode cX5_plan 239 = .ok (.ifCond .eq 18, 3) := by decide +kernel
theorem dX5_plan_242 : decode cX5_plan 242 = .ok (.aload_n 1, 1) := by decide +kernel
theorem dX5_plan_243 : decode cX5_plan 243 = .ok (.aload_n 0, 1) := by decide +kernel
theorem dX5_plan_244 : decode cX5_plan 244 = .ok (.getfield 37, 3) := by decide +kernel
theorem dX5_plan_247 : decode cX5_plan 247 = .ok (.invokevirtual 43, 3) := by decide +kernel
theorem dX5_plan_250 : decode cX5_plan 250 = .ok (.ifCond .eq 7, 3) := by decide +kernel
theorem dX5_plan_253 : decode cX5_plan 253 = .ok (.iconst 1, 1) := by decide +kernel
theorem dX5_plan_254 : decode cX5_plan 254 = .ok (.goto 4, 3) := by decide +kernel
theorem dX5_plan_257 : decode cX5_plan 257 = .ok (.iconst 0, 1) := by decide +kernel
theorem dX5_plan_258 : decode cX5_plan 258 = .ok (.putfield 47, 3) := by decide +kernel
theorem dX5_plan_261 : decode cX5_plan 261 = .ok (.aload_n 0, 1) := by decide +kernel
theorem dX5_plan_262 : decode cX5_plan 262 = .ok (.aload_n 0, 1) := by decide +kernel
theorem dX5_plan_263 : decode cX5_plan 263 = .ok (.getfield 34, 3) := by decide +kernel
theorem dX5_plan_266 : decode cX5_plan 266 = .ok (.aload_n 1, 1) := by decide +kernel
theorem dX5_plan_267 : decode cX5_plan 267 = .ok (.getfield 40, 3) := by decide +kernel
theorem dX5_plan_270 : decode cX5_plan 270 = .ok (.isub, 1) := by decide +kernel
theorem dX5_plan_271 : decode cX5_plan 271 = .ok (.invokestatic 50, 3) := by decide +kernel
theorem dX5_plan_274 : decode cX5_plan 274 = .ok (.aload_n 0, 1) := by decide +kernel
theorem dX5_plan_275 : decode cX5_plan 275 = .ok (.getfield 37, 3) := by decide +kernel
theorem dX5_plan_278 : decode cX5_plan 278 = .ok (.aload_n 0, 1) := by decide +kernel
theorem dX5_plan_279 : decode cX5_plan 279 = .ok (.getfield 34, 3) := by decide +kernel
theorem dX5_plan_282 : decode cX5_plan 282 = .ok (.isub, 1) := by decide +kernel
theorem dX5_plan_283 : decode cX5_plan 283 = .ok (.invokestatic 50, 3) := by decide +kernel
theorem dX5_plan_286 : decode cX5_plan 286 = .ok (.iadd, 1) := by decide +kernel
theorem dX5_plan_287 : decode cX5_plan 287 = .ok (.putfield 56, 3) := by decide +kernel
theorem dX5_plan_290 : decode cX5_plan 290 = .ok (.aload_n 0, 1) := by decide +kernel
theorem dX5_plan_291 : decode cX5_plan 291 = .ok (.aload_n 1, 1) := by decide +kernel
theorem dX5_plan_292 : decode cX5_plan 292 = .ok (.getfield 59, 3) := by decide +kernel
theorem dX5_plan_295 : decode cX5_plan 295 = .ok (.ifCond .le 22, 3) := by decide +kernel
theorem dX5_plan_298 : decode cX5_plan 298 = .ok (.aload_n 0, 1) := by decide +kernel
theorem dX5_plan_299 : decode cX5_plan 299 = .ok (.getfield 56, 3) := by decide +kernel
theorem dX5_plan_302 : decode cX5_plan 302 = .ok (.aload_n 1, 1) := by decide +kernel
theorem dX5_plan_303 : decode cX5_plan 303 = .ok (.getfield 59, 3) := by decide +kernel
theorem dX5_plan_306 : decode cX5_plan 306 = .ok (.iadd, 1) := by decide +kernel
theorem dX5_plan_307 : decode cX5_plan 307 = .ok (.iconst 1, 1) := by decide +kernel
theorem dX5_plan_308 : decode cX5_plan 308 = .ok (.isub, 1) := by decide +kernel
theorem dX5_plan_309 : decode cX5_plan 309 = .ok (.aload_n 1, 1) := by decide +kernel
theorem dX5_plan_310 : decode cX5_plan 310 = .ok (.getfield 59, 3) := by decide +kernel
theorem dX5_plan_313 : decode cX5_plan 313 = .ok (.idiv, 1) := by decide +kernel
theorem dX5_plan_314 : decode cX5_plan 314 = .ok (.goto 4, 3) := by decide +kernel
theorem dX5_plan_317 : decode cX5_plan 317 = .ok (.iconst 0, 1) := by decide +kernel
theorem dX5_plan_318 : decode cX5_plan 318 = .ok (.putfield 62, 3) := by decide +kernel
theorem dX5_plan_321 : decode cX5_plan 321 = .ok (.return_, 1) := by decide +kernel
theorem dX5_tell_0 : decode cX5_tell 0 = .ok (.aload_n 0, 1) := by decide +kernel
theorem dX5_tell_1 : decode cX5_tell 1 = .ok (.getfield 47, 3) := by decide +kernel
theorem dX5_tell_4 : decode cX5_tell 4 = .ok (.ifCond .ne 6, 3) := by decide +kernel
theorem dX5_tell_7 : decode cX5_tell 7 = .ok (.ldc 65, 2) := by decide +kernel
theorem dX5_tell_9 : decode cX5_tell 9 = .ok (.ireturn, 1) := by decide +kernel
theorem dX5_tell_10 : decode cX5_tell 10 = .ok (.iload_n 1, 1) := by decide +kernel
theorem dX5_tell_11 : decode cX5_tell 11 = .ok (.tableswitch 40 0 2 #[25, 30, 35], 25) := by decide +kernel
theorem dX5_tell_36 : decode cX5_tell 36 = .ok (.aload_n 0, 1) := by decide +kernel
theorem dX5_tell_37 : decode cX5_tell 37 = .ok (.getfield 37, 3) := by decide +kernel
theorem dX5_tell_40 : decode cX5_tell 40 = .ok (.ireturn, 1) := by decide +kernel
theorem dX5_tell_41 : decode cX5_tell 41 = .ok (.aload_n 0, 1) := by decide +kernel
theorem dX5_tell_42 : decode cX5_tell 42 = .ok (.getfield 56, 3) := by decide +kernel
theorem dX5_tell_45 : decode cX5_tell 45 = .ok (.ireturn, 1) := by decide +kernel
theorem dX5_tell_46 : decode cX5_tell 46 = .ok (.aload_n 0, 1) := by decide +kernel
theorem dX5_tell_47 : decode cX5_tell 47 = .ok (.getfield 62, 3) := by decide +kernel
theorem dX5_tell_50 : decode cX5_tell 50 = .ok (.ireturn, 1) := by decide +kernel
theorem dX5_tell_51 : decode cX5_tell 51 = .ok (.aload_n 0, 1) := by decide +kernel
theorem dX5_tell_52 : decode cX5_tell 52 = .ok (.getfield 30, 3) := by decide +kernel
theorem dX5_tell_55 : decode cX5_tell 55 = .ok (.ifCond .eq 10, 3) := by decide +kernel
theorem dX5_tell_58 : decode cX5_tell 58 = .ok (.aload_n 0, 1) := by decide +kernel
theorem dX5_tell_59 : decode cX5_tell 59 = .ok (.getfield 34, 3) := by decide +kernel
theorem dX5_tell_62 : decode cX5_tell 62 = .ok (.goto 5, 3) := by decide +kernel
theorem dX5_tell_65 : decode cX5_tell 65 = .ok (.ldc 65, 2) := by decide +kernel
theorem dX5_tell_67 : decode cX5_tell 67 = .ok (.ireturn, 1) := by decide +kernel
end
section
set_option maxRecDepth 20000 in
theorem ggX6_init_X2_init : GoodIn wsX6_init wsX2_init := goodIn_r _ [19, 20, 2, 3, 21, 22, 23, 24, 25, 26, 27, 28, 29, 30, 31, 32, 33, 34, 35, 36, 37, 38, 39, 40, 41, 42, 43, 44, 45, 46, 47, 48, 49, 50, 51, 52, 53, 54, 55, 69, 70, 71, 72, 73, 74, 75, 76, 77, 78, 79, 92, 93, 94, 95, 96, 97, 98, 99, 100, 101, 102, 103, 104, 105, 106, 107, 108, 109, 110, 111, 112, 113, 114, 115, 116, 117, 118, 119, 120, 121, 122] (by decide +kernel) (by decide +kernel)
set_option maxRecDepth 20000 in
theorem gX6_init_X2_init : GoodIn wsX6_init (wsX2_init) := ggX6_init_X2_init
set_option maxRecDepth 20000 in
theorem ggX6_init_X1_init : GoodIn wsX6_init wsX1_init := goodIn_r _ [58, 59, 2, 3, 60, 61, 5, 6, 62, 18, 19, 20, 21, 22, 23, 24, 25, 26, 27, 28, 29, 30, 31, 32, 33, 34, 35, 36, 37, 38, 39, 40, 41, 42, 43, 44, 45, 46, 47, 48, 49, 50, 51, 52, 53, 54, 55, 84, 85, 69, 70, 71, 72, 73, 74, 75, 76, 77, 78, 79, 92, 93, 94, 95, 96, 97, 98, 99, 100, 101, 102, 103, 104, 105, 106, 107, 108, 109, 110, 111, 112, 113, 114, 115, 116, 117, 118, 119, 120, 121, 122] (by decide +kernel) (by decide +kernel)
set_option maxRecDepth 20000 in
theorem gX6_init_X1_init : GoodIn wsX6_init (wsX1_init) := ggX6_init_X1_init
set_option maxRecDepth 20000 in
theorem ggX6_init_X4_init : GoodIn wsX6_init wsX4_init := goodIn_r _ [64, 65, 2, 3, 66, 67, 21, 68, 86, 87, 88, 89, 90, 91] (by decide +kernel) (by decide +kernel)
set_option maxRecDepth 20000 in
theorem gX6_init_X4_init_n28 : GoodIn wsX6_init (wsX4_init) := ggX6_init_X4_init
theorem dX6_init_0 : decode cX6_init 0 = .ok (.aload_n 0, 1) := by decide +kernel
theorem dX6_init_1 : decode cX6_init 1 = .ok (.invokespecial 1, 3) := by decide +kernel
theorem dX6_init_4 : decode cX6_init 4 = .ok (.aload_n 0, 1) := by decide +kernel
theorem dX6_init_5 : decode cX6_init 5 = .ok (.new 7, 3) := by decide +kernel
theorem dX6_init_8 : decode cX6_init 8 = .ok (.dup, 1) := by decide +kernel
theorem dX6_init_9 : decode cX6_init 9 = .ok (.invokespecial 9, 3) := by decide +kernel
theorem dX6_init_12 : decode cX6_init 12 = .ok (.putfield 10, 3) := by decide +kernel
theorem dX6_init_15 : decode cX6_init 15 = .ok (.aload_n 0, 1) := by decide +kernel
theorem dX6_init_16 : decode cX6_init 16 = .ok (.new 7, 3) := by decide +kernel
theorem dX6_init_19 : decode cX6_init 19 = .ok (.dup, 1) := by decide +kernel
theorem dX6_init_20 : decode cX6_init 20 = .ok (.invokespecial 9, 3) := by decide +kernel
theorem dX6_init_23 : decode cX6_init 23 = .ok (.putfield 16, 3) := by decide +kernel
theorem dX6_init_26 : decode cX6_init 26 = .ok (.aload_n 0, 1) := by decide +kernel
theorem dX6_init_27 : decode cX6_init 27 = .ok (.new 19, 3) := by decide +kernel
theorem dX6_init_30 : decode cX6_init 30 = .ok (.dup, 1) := by decide +kernel
theorem dX6_init_31 : decode cX6_init 31 = .ok (.invokespecial 21, 3) := by decide +kernel
theorem dX6_init_34 : decode cX6_init 34 = .ok (.putfield 22, 3) := by decide +kernel
theorem dX6_init_37 : decode cX6_init 37 = .ok (.aload_n 0, 1) := by decide +kernel
theorem dX6_init_38 : decode cX6_init 38 = .ok (.new 26, 3) := by decide +kernel
theorem dX6_init_41 : decode cX6_init 41 = .ok (.dup, 1) := by decide +kernel
theorem dX6_init_42 : decode cX6_init 42 = .ok (.invokespecial 28, 3) := by decide +kernel
theorem dX6_init_45 : decode cX6_init 45 = .ok (.putfield 29, 3) := by decide +kernel
theorem dX6_init_48 : decode cX6_init 48 = .ok (.return_, 1) := by decide +kernel
set_option maxRecDepth 20000 in
theorem ggX6_set_X6_isBetween : GoodIn wsX6_set wsX6_isBetween := goodIn_r _ [8] (by decide +kernel) (by decide +kernel)
set_option maxRecDepth 20000 in
theorem gX6_set_X6_isBetween : GoodIn wsX6_set (va_wsS RX6 37 yX6_isBetween wsX6_isBetween) := goodIn_app (goodIn_of _ (by decide +kernel)) ggX6_set_X6_isBetween
set_option maxRecDepth 20000 in
theorem ggX6_set_X1_record : GoodIn wsX6_set wsX1_record := goodIn_r _ [13, 14, 15, 16, 17, 18, 12, 19, 20, 21, 22, 23, 24, 25, 26, 27, 28, 29, 30, 31, 32, 33, 34, 35, 36, 37, 38, 39, 40, 41, 42, 43, 44, 45, 46, 47, 48, 49, 50, 51, 52, 53, 54, 55, 56, 57, 58, 59, 60, 61, 62, 63, 64, 65, 66, 67, 76, 77, 78, 79, 80, 81, 82, 83, 84, 85, 86, 87, 88, 89, 90, 91, 92, 93, 94, 95, 96, 97, 98, 99, 100, 101, 102, 103, 104, 105, 106, 107, 108, 109, 110, 111, 112] (by decide +kernel) (by decide +kernel)
set_option maxRecDepth 20000 in
theorem gX6_set_X1_record : GoodIn wsX6_set (wsV RX6 42 RX1 yX1_record wsX1_record) := goodIn_app (goodIn_of _ (by decide +kernel)) ggX6_set_X1_record
set_option maxRecDepth 20000 in
theorem ggX6_set_X2_changeSetting : GoodIn wsX6_set wsX2_changeSetting := goodIn_r _ [71, 28, 78, 79, 80, 81, 82, 83, 84, 85, 86, 87, 88] (by decide +kernel) (by decide +kernel)
set_option maxRecDepth 20000 in
theorem gX6_set_X2_changeSetting : GoodIn wsX6_set (wsV RX6 46 RX2 yX2_changeSetting wsX2_changeSetting) := goodIn_app (goodIn_of _ (by decide +kernel)) ggX6_set_X2_changeSetting
theorem dX6_set_0 : decode cX6_set 0 = .ok (.iload_n 1, 1) := by decide +kernel
theorem dX6_set_1 : decode cX6_set 1 = .ok (.iconst 0, 1) := by decide +kernel
theorem dX6_set_2 : decode cX6_set 2 = .ok (.getstatic 33, 3) := by decide +kernel
theorem dX6_set_5 : decode cX6_set 5 = .ok (.arraylength, 1) := by decide +kernel
theorem dX6_set_6 : decode cX6_set 6 = .ok (.iconst 1, 1) := by decide +kernel
theorem dX6_set_7 : decode cX6_set 7 = .ok (.isub, 1) := by decide +kernel
theorem dX6_set_8 : decode cX6_set 8 = .ok (.invokestatic 37, 3) := by decide +kernel
theorem dX6_set_11 : decode cX6_set 11 = .ok (.ifCond .eq 16, 3) := by decide +kernel
theorem dX6_set_14 : decode cX6_set 14 = .ok (.iload_n 2, 1) := by decide +kernel
theorem dX6_set_15 : decode cX6_set 15 = .ok (.iconst 0, 1) := by decide +kernel
theorem dX6_set_16 : decode cX6_set 16 = .ok (.getstatic 33, 3) := by decide +kernel
theorem dX6_set_19 : decode cX6_set 19 = .ok (.iload_n 1, 1) := by decide +kernel
theorem dX6_set_20 : decode cX6_set 20 = .ok (.iaload, 1) := by decide +kernel
theorem dX6_set_21 : decode cX6_set 21 = .ok (.invokestatic 37, 3) := by decide +kernel
theorem dX6_set_24 : decode cX6_set 24 = .ok (.ifCond .ne 6, 3) := by decide +kernel
theorem dX6_set_27 : decode cX6_set 27 = .ok (.ldc 41, 2) := by decide +kernel
theorem dX6_set_29 : decode cX6_set 29 = .ok (.ireturn, 1) := by decide +kernel
theorem dX6_set_30 : decode cX6_set 30 = .ok (.aload_n 0, 1) := by decide +kernel
theorem dX6_set_31 : decode cX6_set 31 = .ok (.getfield 22, 3) := by decide +kernel
theorem dX6_set_34 : decode cX6_set 34 = .ok (.aload_n 0, 1) := by decide +kernel
theorem dX6_set_35 : decode cX6_set 35 = .ok (.getfield 10, 3) := by decide +kernel
theorem dX6_set_38 : decode cX6_set 38 = .ok (.invokevirtual 42, 3) := by decide +kernel
theorem dX6_set_41 : decode cX6_set 41 = .ok (.aload_n 0, 1) := by decide +kernel
theorem dX6_set_42 : decode cX6_set 42 = .ok (.getfield 10, 3) := by decide +kernel
theorem dX6_set_45 : decode cX6_set 45 = .ok (.iload_n 1, 1) := by decide +kernel
theorem dX6_set_46 : decode cX6_set 46 = .ok (.iload_n 2, 1) := by decide +kernel
theorem dX6_set_47 : decode cX6_set 47 = .ok (.invokevirtual 46, 3) := by decide +kernel
theorem dX6_set_50 : decode cX6_set 50 = .ok (.ireturn, 1) := by decide +kernel
set_option maxRecDepth 20000 in
theorem ggX6_setAxis_X6_isBetween : GoodIn wsX6_setAxis wsX6_isBetween := goodIn_r _ [9] (by decide +kernel) (by decide +kernel)
set_option maxRecDepth 20000 in
theorem gX6_setAxis_X6_isBetween : GoodIn wsX6_setAxis (va_wsS RX6 37 yX6_isBetween wsX6_isBetween) := goodIn_app (goodIn_of _ (by decide +kernel)) ggX6_setAxis_X6_isBetween
set_option maxRecDepth 20000 in
theorem ggX6_setAxis_X1_record : GoodIn wsX6_setAxis wsX1_record := goodIn_r _ [14, 15, 16, 17, 18, 19, 13, 20, 21, 22, 23, 24, 25, 26, 27, 28, 29, 30, 31, 32, 33, 34, 35, 36, 37, 38, 39, 40, 41, 42, 43, 44, 45, 46, 47, 48, 49, 50, 51, 52, 53, 54, 55, 56, 57, 58, 59, 60, 61, 62, 63, 64, 65, 66, 67, 68, 95, 96, 97, 98, 99, 100, 101, 102, 103, 104, 105, 106, 107, 108, 109, 110, 111, 112, 113, 114, 115, 116, 117, 118, 119, 120, 121, 122, 123, 124, 125, 126, 127, 128, 129, 130, 131] (by decide +kernel) (by decide +kernel)
set_option maxRecDepth 20000 in
theorem gX6_setAxis_X1_record : GoodIn wsX6_setAxis (wsV RX6 42 RX1 yX1_record wsX1_record) := goodIn_app (goodIn_of _ (by decide +kernel)) ggX6_setAxis_X1_record
set_option maxRecDepth 20000 in
theorem ggX6_setAxis_X2_axisNumber : GoodIn wsX6_setAxis wsX2_axisNumber := goodIn_r _ [72, 35, 36, 97, 98, 99, 100, 101, 102, 103, 104, 105, 106, 107] (by decide +kernel) (by decide +kernel)
set_option maxRecDepth 20000 in
theorem gX6_setAxis_X2_axisNumber : GoodIn wsX6_setAxis (wsV RX6 56 RX2 yX2_axisNumber wsX2_axisNumber) := goodIn_app (goodIn_of _ (by decide +kernel)) ggX6_setAxis_X2_axisNumber
set_option maxRecDepth 20000 in
theorem ggX6_setAxis_X0_change : GoodIn wsX6_setAxis wsX0_change := goodIn_r _ [76, 43, 47, 77, 78, 79, 80, 44, 45, 81, 82, 83, 41, 84, 46, 48, 49, 85, 86, 87, 88, 89, 90, 108, 109, 110, 111, 112, 113, 114, 115, 116, 117] (by decide +kernel) (by decide +kernel)
set_option maxRecDepth 20000 in
theorem gX6_setAxis_X0_change : GoodIn wsX6_setAxis (wsV RX6 60 RX0 yX0_change wsX0_change) := goodIn_app (goodIn_of _ (by decide +kernel)) ggX6_setAxis_X0_change
theorem dX6_setAxis_0 : decode cX6_setAxis 0 = .ok (.iload_n 1, 1) := by decide +kernel
theorem dX6_setAxis_1 : decode cX6_setAxis 1 = .ok (.iconst 0, 1) := by decide +kernel
theorem dX6_setAxis_2 : decode cX6_setAxis 2 = .ok (.iconst 1, 1) := by decide +kernel
theorem dX6_setAxis_3 : decode cX6_setAxis 3 = .ok (.invokestatic 37, 3) := by decide +kernel
theorem dX6_setAxis_6 : decode cX6_setAxis 6 = .ok (.ifCond .eq 34, 3) := by decide +kernel
theorem dX6_setAxis_9 : decode cX6_setAxis 9 = .ok (.iload_n 2, 1) := by decide +kernel
theorem dX6_setAxis_10 : decode cX6_setAxis 10 = .ok (.iconst 0, 1) := by decide +kernel
theorem dX6_setAxis_11 : decode cX6_setAxis 11 = .ok (.getstatic 50, 3) := by decide +kernel
theorem dX6_setAxis_14 : decode cX6_setAxis 14 = .ok (.arraylength, 1) := by decide +kernel
theorem dX6_setAxis_15 : decode cX6_setAxis 15 = .ok (.iconst 1, 1) := by decide +kernel
theorem dX6_setAxis_16 : decode cX6_setAxis 16 = .ok (.isub, 1) := by decide +kernel
theorem dX6_setAxis_17 : decode cX6_setAxis 17 = .ok (.invokestatic 37, 3) := by decide +kernel
theorem dX6_setAxis_20 : decode cX6_setAxis 20 = .ok (.ifCond .eq 20, 3) := by decide +kernel
theorem dX6_setAxis_23 : decode cX6_setAxis 23 = .ok (.iload_n 3, 1) := by decide +kernel
theorem dX6_setAxis_24 : decode cX6_setAxis 24 = .ok (.getstatic 53, 3) := by decide +kernel
theorem dX6_setAxis_27 : decode cX6_setAxis 27 = .ok (.iload_n 2, 1) := by decide +kernel
theorem dX6_setAxis_28 : decode cX6_setAxis 28 = .ok (.iaload, 1) := by decide +kernel
theorem dX6_setAxis_29 : decode cX6_setAxis 29 = .ok (.getstatic 50, 3) := by decide +kernel
theorem dX6_setAxis_32 : decode cX6_setAxis 32 = .ok (.iload_n 2, 1) := by decide +kernel
theorem dX6_setAxis_33 : decode cX6_setAxis 33 = .ok (.iaload, 1) := by decide +kernel
theorem dX6_setAxis_34 : decode cX6_setAxis 34 = .ok (.invokestatic 37, 3) := by decide +kernel
theorem dX6_setAxis_37 : decode cX6_setAxis 37 = .ok (.ifCond .ne 6, 3) := by decide +kernel
theorem dX6_setAxis_40 : decode cX6_setAxis 40 = .ok (.ldc 41, 2) := by decide +kernel
theorem dX6_setAxis_42 : decode cX6_setAxis 42 = .ok (.ireturn, 1) := by decide +kernel
theorem dX6_setAxis_43 : decode cX6_setAxis 43 = .ok (.aload_n 0, 1) := by decide +kernel
theorem dX6_setAxis_44 : decode cX6_setAxis 44 = .ok (.getfield 22, 3) := by decide +kernel
theorem dX6_setAxis_47 : decode cX6_setAxis 47 = .ok (.aload_n 0, 1) := by decide +kernel
theorem dX6_setAxis_48 : decode cX6_setAxis 48 = .ok (.getfield 10, 3) := by decide +kernel
theorem dX6_setAxis_51 : decode cX6_setAxis 51 = .ok (.invokevirtual 42, 3) := by decide +kernel
theorem dX6_setAxis_54 : decode cX6_setAxis 54 = .ok (.aload_n 0, 1) := by decide +kernel
theorem dX6_setAxis_55 : decode cX6_setAxis 55 = .ok (.getfield 10, 3) := by decide +kernel
theorem dX6_setAxis_58 : decode cX6_setAxis 58 = .ok (.iload_n 1, 1) := by decide +kernel
theorem dX6_setAxis_59 : decode cX6_setAxis 59 = .ok (.invokevirtual 56, 3) := by decide +kernel
theorem dX6_setAxis_62 : decode cX6_setAxis 62 = .ok (.iload_n 2, 1) := by decide +kernel
theorem dX6_setAxis_63 : decode cX6_setAxis 63 = .ok (.iload_n 3, 1) := by decide +kernel
theorem dX6_setAxis_64 : decode cX6_setAxis 64 = .ok (.invokevirtual 60, 3) := by decide +kernel
theorem dX6_setAxis_67 : decode cX6_setAxis 67 = .ok (.ireturn, 1) := by decide +kernel
set_option maxRecDepth 20000 in
theorem ggX6_gust_X6_isBetween : GoodIn wsX6_gust wsX6_isBetween := goodIn_r _ [9] (by decide +kernel) (by decide +kernel)
set_option maxRecDepth 20000 in
theorem gX6_gust_X6_isBetween : GoodIn wsX6_gust (va_wsS RX6 37 yX6_isBetween wsX6_isBetween) := goodIn_app (goodIn_of _ (by decide +kernel)) ggX6_gust_X6_isBetween
set_option maxRecDepth 20000 in
theorem ggX6_gust_X1_record : GoodIn wsX6_gust wsX1_record := goodIn_r _ [14, 15, 16, 17, 18, 19, 13, 20, 21, 22, 23, 24, 25, 26, 27, 28, 29, 30, 31, 32, 33, 34, 35, 36, 37, 38, 39, 40, 41, 42, 43, 44, 45, 46, 47, 48, 49, 50, 51, 52, 53, 54, 55, 56, 57, 58, 59, 60, 61, 62, 63, 64, 65, 66, 67, 68, 88, 89, 77, 78, 79, 80, 81, 82, 83, 84, 85, 86, 87, 90, 91, 92, 93, 94, 95, 96, 97, 98, 99, 100, 101, 102, 103, 104, 105, 106, 107, 108, 109, 110, 111, 112, 113] (by decide +kernel) (by decide +kernel)
set_option maxRecDepth 20000 in
theorem gX6_gust_X1_record : GoodIn wsX6_gust (wsV RX6 42 RX1 yX1_record wsX1_record) := goodIn_app (goodIn_of _ (by decide +kernel)) ggX6_gust_X1_record
set_option maxRecDepth 20000 in
theorem ggX6_gust_X2_changeGust : GoodIn wsX6_gust wsX2_changeGust := goodIn_r _ [72, 34, 77, 78, 79, 80, 81, 82, 83, 84, 85, 86, 87] (by decide +kernel) (by decide +kernel)
set_option maxRecDepth 20000 in
theorem gX6_gust_X2_changeGust : GoodIn wsX6_gust (wsV RX6 70 RX2 yX2_changeGust wsX2_changeGust) := goodIn_app (goodIn_of _ (by decide +kernel)) ggX6_gust_X2_changeGust
theorem dX6_gust_0 : decode cX6_gust 0 = .ok (.iload_n 1, 1) := by decide +kernel
theorem dX6_gust_1 : decode cX6_gust 1 = .ok (.iconst 0, 1) := by decide +kernel
theorem dX6_gust_2 : decode cX6_gust 2 = .ok (.bipush 29, 2) := by decide +kernel
theorem dX6_gust_4 : decode cX6_gust 4 = .ok (.invokestatic 37, 3) := by decide +kernel
theorem dX6_gust_7 : decode cX6_gust 7 = .ok (.ifCond .eq 13, 3) := by decide +kernel
theorem dX6_gust_10 : decode cX6_gust 10 = .ok (.iload_n 2, 1) := by decide +kernel
theorem dX6_gust_11 : decode cX6_gust 11 = .ok (.iconst 0, 1) := by decide +kernel
theorem dX6_gust_12 : decode cX6_gust 12 = .ok (.bipush 99, 2) := by decide +kernel
theorem dX6_gust_14 : decode cX6_gust 14 = .ok (.invokestatic 37, 3) := by decide +kernel
theorem dX6_gust_17 : decode cX6_gust 17 = .ok (.ifCond .ne 6, 3) := by decide +kernel
theorem dX6_gust_20 : decode cX6_gust 20 = .ok (.ldc 41, 2) := by decide +kernel
theorem dX6_gust_22 : decode cX6_gust 22 = .ok (.ireturn, 1) := by decide +kernel
theorem dX6_gust_23 : decode cX6_gust 23 = .ok (.iload_n 1, 1) := by decide +kernel
theorem dX6_gust_24 : decode cX6_gust 24 = .ok (.sipush 1440, 3) := by decide +kernel
theorem dX6_gust_27 : decode cX6_gust 27 = .ok (.imul, 1) := by decide +kernel
theorem dX6_gust_28 : decode cX6_gust 28 = .ok (.aload_n 0, 1) := by decide +kernel
theorem dX6_gust_29 : decode cX6_gust 29 = .ok (.getfield 10, 3) := by decide +kernel
theorem dX6_gust_32 : decode cX6_gust 32 = .ok (.getfield 65, 3) := by decide +kernel
theorem dX6_gust_35 : decode cX6_gust 35 = .ok (.if_icmp .ge 6, 3) := by decide +kernel
theorem dX6_gust_38 : decode cX6_gust 38 = .ok (.ldc 69, 2) := by decide +kernel
theorem dX6_gust_40 : decode cX6_gust 40 = .ok (.ireturn, 1) := by decide +kernel
theorem dX6_gust_41 : decode cX6_gust 41 = .ok (.aload_n 0, 1) := by decide +kernel
theorem dX6_gust_42 : decode cX6_gust 42 = .ok (.getfield 22, 3) := by decide +kernel
theorem dX6_gust_45 : decode cX6_gust 45 = .ok (.aload_n 0, 1) := by decide +kernel
theorem dX6_gust_46 : decode cX6_gust 46 = .ok (.getfield 10, 3) := by decide +kernel
theorem dX6_gust_49 : decode cX6_gust 49 = .ok (.invokevirtual 42, 3) := by decide +kernel
theorem dX6_gust_52 : decode cX6_gust 52 = .ok (.aload_n 0, 1) := by decide +kernel
theorem dX6_gust_53 : decode cX6_gust 53 = .ok (.getfield 10, 3) := by decide +kernel
theorem dX6_gust_56 : decode cX6_gust 56 = .ok (.iload_n 1, 1) := by decide +kernel
theorem dX6_gust_57 : decode cX6_gust 57 = .ok (.iload_n 2, 1) := by decide +kernel
theorem dX6_gust_58 : decode cX6_gust 58 = .ok (.invokevirtual 70, 3) := by decide +kernel
theorem dX6_gust_61 : decode cX6_gust 61 = .ok (.ireturn, 1) := by decide +kernel
set_option maxRecDepth 20000 in
theorem ggX6_count_X2_targetsIn : GoodIn wsX6_count wsX2_targetsIn := goodIn_r _ [10, 11, 12, 75, 76, 77, 78, 79, 80, 81, 82, 83, 84, 85, 86, 87, 88, 89, 90, 91, 92, 93, 94, 95, 96, 97, 98, 99] (by decide +kernel) (by decide +kernel)
set_option maxRecDepth 20000 in
theorem gX6_count_X2_targetsIn : GoodIn wsX6_count (wsV RX6 73 RX2 yX2_targetsIn wsX2_targetsIn) := goodIn_app (goodIn_of _ (by decide +kernel)) ggX6_count_X2_targetsIn
set_option maxRecDepth 20000 in
theorem ggX6_count_X2_numberUnderWay : GoodIn wsX6_count wsX2_numberUnderWay := goodIn_r _ [16, 11, 12, 75, 76, 77, 78, 79, 80, 81, 82, 83, 84, 85, 86, 87, 88, 89, 90, 91, 92, 93, 94, 95, 96, 97, 98, 99] (by decide +kernel) (by decide +kernel)
set_option maxRecDepth 20000 in
theorem gX6_count_X2_numberUnderWay : GoodIn wsX6_count (wsV RX6 77 RX2 yX2_numberUnderWay wsX2_numberUnderWay) := goodIn_app (goodIn_of _ (by decide +kernel)) ggX6_count_X2_numberUnderWay
set_option maxRecDepth 20000 in
theorem ggX6_count_X6_foundTarget : GoodIn wsX6_count wsX6_foundTarget := goodIn_r _ [20, 21] (by decide +kernel) (by decide +kernel)
set_option maxRecDepth 20000 in
theorem gX6_count_X6_foundTarget : GoodIn wsX6_count (va_wsS RX6 81 yX6_foundTarget wsX6_foundTarget) := goodIn_app (goodIn_of _ (by decide +kernel)) ggX6_count_X6_foundTarget
set_option maxRecDepth 20000 in
theorem ggX6_count_X2_minutesUntilDone : GoodIn wsX6_count wsX2_minutesUntilDone := goodIn_r _ [25, 11, 12, 26, 27, 28, 75, 76, 77, 78, 79, 80, 81, 82, 83, 84, 85, 86, 87, 88, 89, 90, 91, 92, 93, 94, 95, 96, 97, 98, 99] (by decide +kernel) (by decide +kernel)
set_option maxRecDepth 20000 in
theorem gX6_count_X2_minutesUntilDone : GoodIn wsX6_count (wsV RX6 84 RX2 yX2_minutesUntilDone wsX2_minutesUntilDone) := goodIn_app (goodIn_of _ (by decide +kernel)) ggX6_count_X2_minutesUntilDone
set_option maxRecDepth 20000 in
theorem ggX6_count_X2_tell : GoodIn wsX6_count wsX2_tell := goodIn_r _ [32, 27, 33, 34, 35, 36, 37, 38, 39, 40, 41, 9, 42, 43, 44, 45, 46, 47, 48, 49, 50, 51, 52, 53, 54, 55, 56, 57, 58, 59, 60, 61, 62, 75, 76, 77, 78, 79, 80, 81, 82, 83, 84, 85, 100, 101, 102, 103, 104, 105, 106, 107, 108, 109] (by decide +kernel) (by decide +kernel)
set_option maxRecDepth 20000 in
theorem gX6_count_X2_tell : GoodIn wsX6_count (wsV RX6 93 RX2 yX2_tell wsX2_tell) := goodIn_app (goodIn_of _ (by decide +kernel)) ggX6_count_X2_tell
theorem dX6_count_0 : decode cX6_count 0 = .ok (.iload_n 1, 1) := by decide +kernel
theorem dX6_count_1 : decode cX6_count 1 = .ok (.tableswitch 121 4 11 #[47, 59, 68, 77, 86, 97, 105, 113], 47) := by decide +kernel
theorem dX6_count_48 : decode cX6_count 48 = .ok (.bipush 10, 2) := by decide +kernel
theorem dX6_count_50 : decode cX6_count 50 = .ok (.aload_n 0, 1) := by decide +kernel
theorem dX6_count_51 : decode cX6_count 51 = .ok (.getfield 10, 3) := by decide +kernel
theorem dX6_count_54 : decode cX6_count 54 = .ok (.iconst 4, 1) := by decide +kernel
theorem dX6_count_55 : decode cX6_count 55 = .ok (.invokevirtual 73, 3) := by decide +kernel
theorem dX6_count_58 : decode cX6_count 58 = .ok (.isub, 1) := by decide +kernel
theorem dX6_count_59 : decode cX6_count 59 = .ok (.ireturn, 1) := by decide +kernel
theorem dX6_count_60 : decode cX6_count 60 = .ok (.aload_n 0, 1) := by decide +kernel
theorem dX6_count_61 : decode cX6_count 61 = .ok (.getfield 10, 3) := by decide +kernel
theorem dX6_count_64 : decode cX6_count 64 = .ok (.iconst 0, 1) := by decide +kernel
theorem dX6_count_65 : decode cX6_count 65 = .ok (.invokevirtual 73, 3) := by decide +kernel
theorem dX6_count_68 : decode cX6_count 68 = .ok (.ireturn, 1) := by decide +kernel
theorem dX6_count_69 : decode cX6_count 69 = .ok (.aload_n 0, 1) := by decide +kernel
theorem dX6_count_70 : decode cX6_count 70 = .ok (.getfield 10, 3) := by decide +kernel
theorem dX6_count_73 : decode cX6_count 73 = .ok (.iconst 2, 1) := by decide +kernel
theorem dX6_count_74 : decode cX6_count 74 = .ok (.invokevirtual 73, 3) := by decide +kernel
theorem dX6_count_77 : decode cX6_count 77 = .ok (.ireturn, 1) := by decide +kernel
theorem dX6_count_78 : decode cX6_count 78 = .ok (.aload_n 0, 1) := by decide +kernel
theorem dX6_count_79 : decode cX6_count 79 = .ok (.getfield 10, 3) := by decide +kernel
theorem dX6_count_82 : decode cX6_count 82 = .ok (.iconst 3, 1) := by decide +kernel
theorem dX6_count_83 : decode cX6_count 83 = .ok (.invokevirtual 73, 3) := by decide +kernel
theorem dX6_count_86 : decode cX6_count 86 = .ok (.ireturn, 1) := by decide +kernel
theorem dX6_count_87 : decode cX6_count 87 = .ok (.aload_n 0, 1) := by decide +kernel
theorem dX6_count_88 : decode cX6_count 88 = .ok (.getfield 10, 3) := by decide +kernel
theorem dX6_count_91 : decode cX6_count 91 = .ok (.invokevirtual 77, 3) := by decide +kernel
theorem dX6_count_94 : decode cX6_count 94 = .ok (.invokestatic 81, 3) := by decide +kernel
theorem dX6_count_97 : decode cX6_count 97 = .ok (.ireturn, 1) := by decide +kernel
theorem dX6_count_98 : decode cX6_count 98 = .ok (.aload_n 0, 1) := by decide +kernel
theorem dX6_count_99 : decode cX6_count 99 = .ok (.getfield 10, 3) := by decide +kernel
theorem dX6_count_102 : decode cX6_count 102 = .ok (.invokevirtual 84, 3) := by decide +kernel
theorem dX6_count_105 : decode cX6_count 105 = .ok (.ireturn, 1) := by decide +kernel
theorem dX6_count_106 : decode cX6_count 106 = .ok (.aload_n 0, 1) := by decide +kernel
theorem dX6_count_107 : decode cX6_count 107 = .ok (.getfield 22, 3) := by decide +kernel
theorem dX6_count_110 : decode cX6_count 110 = .ok (.getfield 87, 3) := by decide +kernel
theorem dX6_count_113 : decode cX6_count 113 = .ok (.ireturn, 1) := by decide +kernel
theorem dX6_count_114 : decode cX6_count 114 = .ok (.aload_n 0, 1) := by decide +kernel
theorem dX6_count_115 : decode cX6_count 115 = .ok (.getfield 29, 3) := by decide +kernel
theorem dX6_count_118 : decode cX6_count 118 = .ok (.getfield 90, 3) := by decide +kernel
theorem dX6_count_121 : decode cX6_count 121 = .ok (.ireturn, 1) := by decide +kernel
theorem dX6_count_122 : decode cX6_count 122 = .ok (.aload_n 0, 1) := by decide +kernel
theorem dX6_count_123 : decode cX6_count 123 = .ok (.getfield 10, 3) := by decide +kernel
theorem dX6_count_126 : decode cX6_count 126 = .ok (.iload_n 1, 1) := by decide +kernel
theorem dX6_count_127 : decode cX6_count 127 = .ok (.invokevirtual 93, 3) := by decide +kernel
theorem dX6_count_130 : decode cX6_count 130 = .ok (.ireturn, 1) := by decide +kernel
set_option maxRecDepth 20000 in
theorem ggX6_axis_X6_isBetween : GoodIn wsX6_axis wsX6_isBetween := goodIn_r _ [6] (by decide +kernel) (by decide +kernel)
set_option maxRecDepth 20000 in
theorem gX6_axis_X6_isBetween : GoodIn wsX6_axis (va_wsS RX6 37 yX6_isBetween wsX6_isBetween) := goodIn_app (goodIn_of _ (by decide +kernel)) ggX6_axis_X6_isBetween
set_option maxRecDepth 20000 in
theorem ggX6_axis_X2_axisNumber : GoodIn wsX6_axis wsX2_axisNumber := goodIn_r _ [11, 12, 13, 36, 37, 38, 39, 40, 41, 42, 43, 44, 45, 46] (by decide +kernel) (by decide +kernel)
set_option maxRecDepth 20000 in
theorem gX6_axis_X2_axisNumber : GoodIn wsX6_axis (wsV RX6 56 RX2 yX2_axisNumber wsX2_axisNumber) := goodIn_app (goodIn_of _ (by decide +kernel)) ggX6_axis_X2_axisNumber
set_option maxRecDepth 20000 in
theorem ggX6_axis_X0_tell : GoodIn wsX6_axis wsX0_tell := goodIn_r _ [18, 19, 20, 21, 22, 23, 24, 25, 26, 27, 28, 29, 30, 17, 31, 47, 48, 49, 50, 51, 52, 53, 54, 55, 56] (by decide +kernel) (by decide +kernel)
set_option maxRecDepth 20000 in
theorem gX6_axis_X0_tell : GoodIn wsX6_axis (wsV RX6 96 RX0 yX0_tell wsX0_tell) := goodIn_app (goodIn_of _ (by decide +kernel)) ggX6_axis_X0_tell
theorem dX6_axis_0 : decode cX6_axis 0 = .ok (.iload_n 1, 1) := by decide +kernel
theorem dX6_axis_1 : decode cX6_axis 1 = .ok (.iconst 0, 1) := by decide +kernel
theorem dX6_axis_2 : decode cX6_axis 2 = .ok (.iconst 1, 1) := by decide +kernel
theorem dX6_axis_3 : decode cX6_axis 3 = .ok (.invokestatic 37, 3) := by decide +kernel
theorem dX6_axis_6 : decode cX6_axis 6 = .ok (.ifCond .ne 6, 3) := by decide +kernel
theorem dX6_axis_9 : decode cX6_axis 9 = .ok (.ldc 41, 2) := by decide +kernel
theorem dX6_axis_11 : decode cX6_axis 11 = .ok (.ireturn, 1) := by decide +kernel
theorem dX6_axis_12 : decode cX6_axis 12 = .ok (.aload_n 0, 1) := by decide +kernel
theorem dX6_axis_13 : decode cX6_axis 13 = .ok (.getfield 10, 3) := by decide +kernel
theorem dX6_axis_16 : decode cX6_axis 16 = .ok (.iload_n 1, 1) := by decide +kernel
theorem dX6_axis_17 : decode cX6_axis 17 = .ok (.invokevirtual 56, 3) := by decide +kernel
theorem dX6_axis_20 : decode cX6_axis 20 = .ok (.iload_n 2, 1) := by decide +kernel
theorem dX6_axis_21 : decode cX6_axis 21 = .ok (.invokevirtual 96, 3) := by decide +kernel
theorem dX6_axis_24 : decode cX6_axis 24 = .ok (.ireturn, 1) := by decide +kernel
set_option maxRecDepth 20000 in
theorem ggX6_way_X6_isBetween : GoodIn wsX6_way wsX6_isBetween := goodIn_r _ [6] (by decide +kernel) (by decide +kernel)
set_option maxRecDepth 20000 in
theorem gX6_way_X6_isBetween : GoodIn wsX6_way (va_wsS RX6 37 yX6_isBetween wsX6_isBetween) := goodIn_app (goodIn_of _ (by decide +kernel)) ggX6_way_X6_isBetween
set_option maxRecDepth 20000 in
theorem ggX6_way_X2_plannedWay : GoodIn wsX6_way wsX2_plannedWay := goodIn_r _ [11, 12, 13, 14, 15, 16, 17, 10, 18, 19, 20, 21, 22, 23, 24, 25, 26, 27, 28, 29, 30, 31, 32, 33, 34, 35, 36, 37, 38, 39, 40, 41, 42, 43, 44, 45, 46, 47, 48, 49, 50, 51, 52, 53, 54, 64, 65, 66, 67, 68, 69, 70, 71, 72, 73, 74, 75, 76, 77, 78, 79, 80, 81, 82, 83, 84, 85, 86, 87, 88, 89, 90, 91] (by decide +kernel) (by decide +kernel)
set_option maxRecDepth 20000 in
theorem gX6_way_X2_plannedWay : GoodIn wsX6_way (wsV RX6 97 RX2 yX2_plannedWay wsX2_plannedWay) := goodIn_app (goodIn_of _ (by decide +kernel)) ggX6_way_X2_plannedWay
set_option maxRecDepth 20000 in
theorem ggX6_way_X5_tell : GoodIn wsX6_way wsX5_tell := goodIn_r _ [58, 34, 59, 32, 39, 41, 30, 31, 75, 76, 77, 78, 79, 80, 81] (by decide +kernel) (by decide +kernel)
set_option maxRecDepth 20000 in
theorem gX6_way_X5_tell : GoodIn wsX6_way (wsV RX6 101 RX5 yX5_tell wsX5_tell) := goodIn_app (goodIn_of _ (by decide +kernel)) ggX6_way_X5_tell
theorem dX6_way_0 : decode cX6_way 0 = .ok (.iload_n 1, 1) := by decide +kernel
theorem dX6_way_1 : decode cX6_way 1 = .ok (.iconst 0, 1) := by decide +kernel
theorem dX6_way_2 : decode cX6_way 2 = .ok (.iconst 1, 1) := by decide +kernel
theorem dX6_way_3 : decode cX6_way 3 = .ok (.invokestatic 37, 3) := by decide +kernel
theorem dX6_way_6 : decode cX6_way 6 = .ok (.ifCond .eq 25, 3) := by decide +kernel
theorem dX6_way_9 : decode cX6_way 9 = .ok (.iload_n 2, 1) := by decide +kernel
theorem dX6_way_10 : decode cX6_way 10 = .ok (.sipush (-27000), 3) := by decide +kernel
theorem dX6_way_13 : decode cX6_way 13 = .ok (.sipush 27000, 3) := by decide +kernel
theorem dX6_way_16 : decode cX6_way 16 = .ok (.invokestatic 37, 3) := by decide +kernel
theorem dX6_way_19 : decode cX6_way 19 = .ok (.ifCond .eq 12, 3) := by decide +kernel
theorem dX6_way_22 : decode cX6_way 22 = .ok (.iload_n 3, 1) := by decide +kernel
theorem dX6_way_23 : decode cX6_way 23 = .ok (.iconst 0, 1) := by decide +kernel
theorem dX6_way_24 : decode cX6_way 24 = .ok (.iconst 3, 1) := by decide +kernel
theorem dX6_way_25 : decode cX6_way 25 = .ok (.invokestatic 37, 3) := by decide +kernel
theorem dX6_way_28 : decode cX6_way 28 = .ok (.ifCond .ne 6, 3) := by decide +kernel
theorem dX6_way_31 : decode cX6_way 31 = .ok (.ldc 41, 2) := by decide +kernel
theorem dX6_way_33 : decode cX6_way 33 = .ok (.ireturn, 1) := by decide +kernel
theorem dX6_way_34 : decode cX6_way 34 = .ok (.aload_n 0, 1) := by decide +kernel
theorem dX6_way_35 : decode cX6_way 35 = .ok (.getfield 10, 3) := by decide +kernel
theorem dX6_way_38 : decode cX6_way 38 = .ok (.iload_n 1, 1) := by decide +kernel
theorem dX6_way_39 : decode cX6_way 39 = .ok (.iload_n 2, 1) := by decide +kernel
theorem dX6_way_40 : decode cX6_way 40 = .ok (.invokevirtual 97, 3) := by decide +kernel
theorem dX6_way_43 : decode cX6_way 43 = .ok (.iload_n 3, 1) := by decide +kernel
theorem dX6_way_44 : decode cX6_way 44 = .ok (.invokevirtual 101, 3) := by decide +kernel
theorem dX6_way_47 : decode cX6_way 47 = .ok (.ireturn, 1) := by decide +kernel
set_option maxRecDepth 20000 in
theorem ggX6_placeFor_X6_isBetween : GoodIn wsX6_placeFor wsX6_isBetween := goodIn_r _ [10] (by decide +kernel) (by decide +kernel)
set_option maxRecDepth 20000 in
theorem gX6_placeFor_X6_isBetween : GoodIn wsX6_placeFor (va_wsS RX6 37 yX6_isBetween wsX6_isBetween) := goodIn_app (goodIn_of _ (by decide +kernel)) ggX6_placeFor_X6_isBetween
set_option maxRecDepth 20000 in
theorem ggX6_placeFor_X2_wayAround : GoodIn wsX6_placeFor wsX2_wayAround := goodIn_r _ [15, 16, 17, 18, 19, 20, 21, 22, 23, 24, 25, 26, 27, 28, 29, 30, 31, 32, 33, 34, 35, 36, 37, 38, 39, 40, 41, 42, 43, 44, 45, 46, 47, 48, 49, 50, 51, 52, 53, 54, 55, 56, 57, 58, 14, 59, 60, 61, 62, 74, 75, 76, 77, 78, 79, 80, 81, 82, 83, 84, 67, 68, 69, 70, 71, 72, 73, 85, 86, 87, 88, 89, 90, 91, 92, 93, 94] (by decide +kernel) (by decide +kernel)
set_option maxRecDepth 20000 in
theorem gX6_placeFor_X2_wayAround : GoodIn wsX6_placeFor (wsV RX6 105 RX2 yX2_wayAround wsX2_wayAround) := goodIn_app (goodIn_of _ (by decide +kernel)) ggX6_placeFor_X2_wayAround
theorem dX6_placeFor_0 : decode cX6_placeFor 0 = .ok (.iload_n 1, 1) := by decide +kernel
theorem dX6_placeFor_1 : decode cX6_placeFor 1 = .ok (.iconst 0, 1) := by decide +kernel
theorem dX6_placeFor_2 : decode cX6_placeFor 2 = .ok (.ldc 104, 2) := by decide +kernel
theorem dX6_placeFor_4 : decode cX6_placeFor 4 = .ok (.invokestatic 37, 3) := by decide +kernel
theorem dX6_placeFor_7 : decode cX6_placeFor 7 = .ok (.ifCond .ne 6, 3) := by decide +kernel
theorem dX6_placeFor_10 : decode cX6_placeFor 10 = .ok (.ldc 41, 2) := by decide +kernel
theorem dX6_placeFor_12 : decode cX6_placeFor 12 = .ok (.ireturn, 1) := by decide +kernel
theorem dX6_placeFor_13 : decode cX6_placeFor 13 = .ok (.aload_n 0, 1) := by decide +kernel
theorem dX6_placeFor_14 : decode cX6_placeFor 14 = .ok (.getfield 10, 3) := by decide +kernel
theorem dX6_placeFor_17 : decode cX6_placeFor 17 = .ok (.iload_n 1, 1) := by decide +kernel
theorem dX6_placeFor_18 : decode cX6_placeFor 18 = .ok (.invokevirtual 105, 3) := by decide +kernel
theorem dX6_placeFor_21 : decode cX6_placeFor 21 = .ok (.astore_n 2, 1) := by decide +kernel
theorem dX6_placeFor_22 : decode cX6_placeFor 22 = .ok (.aload_n 2, 1) := by decide +kernel
theorem dX6_placeFor_23 : decode cX6_placeFor 23 = .ok (.getfield 109, 3) := by decide +kernel
theorem dX6_placeFor_26 : decode cX6_placeFor 26 = .ok (.ifCond .eq 10, 3) := by decide +kernel
theorem dX6_placeFor_29 : decode cX6_placeFor 29 = .ok (.aload_n 2, 1) := by decide +kernel
theorem dX6_placeFor_30 : decode cX6_placeFor 30 = .ok (.getfield 113, 3) := by decide +kernel
theorem dX6_placeFor_33 : decode cX6_placeFor 33 = .ok (.goto 5, 3) := by decide +kernel
theorem dX6_placeFor_36 : decode cX6_placeFor 36 = .ok (.ldc 116, 2) := by decide +kernel
theorem dX6_placeFor_38 : decode cX6_placeFor 38 = .ok (.ireturn, 1) := by decide +kernel
set_option maxRecDepth 20000 in
theorem ggX6_slew_X6_isBetween : GoodIn wsX6_slew wsX6_isBetween := goodIn_r _ [10] (by decide +kernel) (by decide +kernel)
set_option maxRecDepth 20000 in
theorem gX6_slew_X6_isBetween : GoodIn wsX6_slew (va_wsS RX6 37 yX6_isBetween wsX6_isBetween) := goodIn_app (goodIn_of _ (by decide +kernel)) ggX6_slew_X6_isBetween
set_option maxRecDepth 20000 in
theorem ggX6_slew_X2_numberUnderWay : GoodIn wsX6_slew wsX2_numberUnderWay := goodIn_r _ [15, 16, 17, 171, 172, 173, 174, 175, 176, 177, 178, 179, 180, 181, 182, 183, 184, 185, 186, 187, 188, 189, 190, 191, 192, 193, 194, 195] (by decide +kernel) (by decide +kernel)
set_option maxRecDepth 20000 in
theorem gX6_slew_X2_numberUnderWay : GoodIn wsX6_slew (wsV RX6 77 RX2 yX2_numberUnderWay wsX2_numberUnderWay) := goodIn_app (goodIn_of _ (by decide +kernel)) ggX6_slew_X2_numberUnderWay
set_option maxRecDepth 20000 in
theorem ggX6_slew_X2_kindOfDay : GoodIn wsX6_slew wsX2_kindOfDay := goodIn_r _ [21, 22, 23, 24, 25, 14, 26, 27, 28, 29, 30, 31, 32, 171, 172, 173, 174, 175, 176, 177, 178, 179, 180, 181] (by decide +kernel) (by decide +kernel)
set_option maxRecDepth 20000 in
theorem gX6_slew_X2_kindOfDay : GoodIn wsX6_slew (wsV RX6 117 RX2 yX2_kindOfDay wsX2_kindOfDay) := goodIn_app (goodIn_of _ (by decide +kernel)) ggX6_slew_X2_kindOfDay
set_option maxRecDepth 20000 in
theorem ggX6_slew_X2_wayAround : GoodIn wsX6_slew wsX2_wayAround := goodIn_r _ [36, 37, 38, 39, 22, 40, 41, 42, 43, 44, 45, 46, 47, 48, 49, 50, 51, 52, 53, 54, 55, 56, 57, 58, 59, 60, 61, 62, 63, 64, 65, 66, 67, 68, 69, 70, 71, 72, 73, 74, 75, 76, 77, 78, 14, 79, 80, 81, 82, 171, 172, 173, 174, 175, 176, 177, 178, 179, 180, 181, 164, 165, 166, 167, 168, 169, 170, 196, 197, 198, 199, 200, 201, 202, 203, 204, 205] (by decide +kernel) (by decide +kernel)
set_option maxRecDepth 20000 in
theorem gX6_slew_X2_wayAround : GoodIn wsX6_slew (wsV RX6 105 RX2 yX2_wayAround wsX2_wayAround) := goodIn_app (goodIn_of _ (by decide +kernel)) ggX6_slew_X2_wayAround
set_option maxRecDepth 20000 in
theorem ggX6_slew_X2_wayRise : GoodIn wsX6_slew wsX2_wayRise := goodIn_r _ [86, 87, 88, 22, 42, 43, 44, 45, 46, 47, 48, 49, 50, 51, 52, 53, 54, 55, 56, 57, 58, 59, 60, 61, 62, 63, 64, 65, 66, 67, 68, 69, 70, 71, 72, 73, 74, 75, 171, 172, 173, 174, 175, 176, 177, 178, 179, 180, 181, 164, 165, 166, 167, 168, 169, 170, 196, 197, 198, 199, 200, 201, 202, 203, 204, 205] (by decide +kernel) (by decide +kernel)
set_option maxRecDepth 20000 in
theorem gX6_slew_X2_wayRise : GoodIn wsX6_slew (wsV RX6 120 RX2 yX2_wayRise wsX2_wayRise) := goodIn_app (goodIn_of _ (by decide +kernel)) ggX6_slew_X2_wayRise
set_option maxRecDepth 20000 in
theorem ggX6_slew_X1_record : GoodIn wsX6_slew wsX1_record := goodIn_r _ [93, 94, 95, 96, 97, 98, 92, 99, 100, 101, 102, 14, 103, 32, 104, 105, 22, 106, 107, 108, 109, 27, 38, 88, 16, 110, 111, 112, 66, 113, 114, 115, 116, 68, 69, 117, 118, 119, 120, 121, 122, 123, 124, 125, 126, 127, 128, 129, 130, 131, 132, 133, 134, 135, 136, 137, 206, 207, 171, 172, 173, 174, 175, 176, 177, 178, 179, 180, 181, 196, 197, 198, 199, 200, 201, 202, 203, 204, 205, 182, 183, 184, 185, 186, 187, 188, 189, 190, 191, 192, 193, 194, 195] (by decide +kernel) (by decide +kernel)
set_option maxRecDepth 20000 in
theorem gX6_slew_X1_record : GoodIn wsX6_slew (wsV RX6 42 RX1 yX1_record wsX1_record) := goodIn_app (goodIn_of _ (by decide +kernel)) ggX6_slew_X1_record
set_option maxRecDepth 20000 in
theorem ggX6_slew_X2_followWays : GoodIn wsX6_slew wsX2_followWays := goodIn_r _ [141, 38, 88, 104, 142, 143, 144, 58, 145, 146, 147, 148, 66, 149, 150, 151, 152, 153, 154, 155, 68, 117, 69, 114, 156, 157, 158, 118, 159, 171, 172, 173, 174, 175, 176, 177, 178, 179, 180, 181, 164, 165, 166, 167, 168, 169, 170, 196, 197, 198, 199, 200, 201, 202, 203, 204, 205] (by decide +kernel) (by decide +kernel)
set_option maxRecDepth 20000 in
theorem gX6_slew_X2_followWays : GoodIn wsX6_slew (wsV RX6 123 RX2 yX2_followWays wsX2_followWays) := goodIn_app (goodIn_of _ (by decide +kernel)) ggX6_slew_X2_followWays
theorem dX6_slew_0 : decode cX6_slew 0 = .ok (.iload_n 1, 1) := by decide +kernel
theorem dX6_slew_1 : decode cX6_slew 1 = .ok (.iconst 0, 1) := by decide +kernel
theorem dX6_slew_2 : decode cX6_slew 2 = .ok (.ldc 104, 2) := by decide +kernel
theorem dX6_slew_4 : decode cX6_slew 4 = .ok (.invokestatic 37, 3) := by decide +kernel
theorem dX6_slew_7 : decode cX6_slew 7 = .ok (.ifCond .eq 16, 3) := by decide +kernel
theorem dX6_slew_10 : decode cX6_slew 10 = .ok (.iload_n 2, 1) := by decide +kernel
theorem dX6_slew_11 : decode cX6_slew 11 = .ok (.sipush 500, 3) := by decide +kernel
theorem dX6_slew_14 : decode cX6_slew 14 = .ok (.sipush 9000, 3) := by decide +kernel
theorem dX6_slew_17 : decode cX6_slew 17 = .ok (.invokestatic 37, 3) := by decide +kernel
theorem dX6_slew_20 : decode cX6_slew 20 = .ok (.ifCond .ne 6, 3) := by decide +kernel
theorem dX6_slew_23 : decode cX6_slew 23 = .ok (.ldc 41, 2) := by decide +kernel
theorem dX6_slew_25 : decode cX6_slew 25 = .ok (.ireturn, 1) := by decide +kernel
theorem dX6_slew_26 : decode cX6_slew 26 = .ok (.aload_n 0, 1) := by decide +kernel
theorem dX6_slew_27 : decode cX6_slew 27 = .ok (.getfield 10, 3) := by decide +kernel
theorem dX6_slew_30 : decode cX6_slew 30 = .ok (.invokevirtual 77, 3) := by decide +kernel
theorem dX6_slew_33 : decode cX6_slew 33 = .ok (.iconst (-1), 1) := by decide +kernel
theorem dX6_slew_34 : decode cX6_slew 34 = .ok (.if_icmp .ne 13, 3) := by decide +kernel
theorem dX6_slew_37 : decode cX6_slew 37 = .ok (.aload_n 0, 1) := by decide +kernel
theorem dX6_slew_38 : decode cX6_slew 38 = .ok (.getfield 10, 3) := by decide +kernel
theorem dX6_slew_41 : decode cX6_slew 41 = .ok (.invokevirtual 117, 3) := by decide +kernel
theorem dX6_slew_44 : decode cX6_slew 44 = .ok (.ifCond .ne 6, 3) := by decide +kernel
theorem dX6_slew_47 : decode cX6_slew 47 = .ok (.ldc 69, 2) := by decide +kernel
theorem dX6_slew_49 : decode cX6_slew 49 = .ok (.ireturn, 1) := by decide +kernel
theorem dX6_slew_50 : decode cX6_slew 50 = .ok (.aload_n 0, 1) := by decide +kernel
theorem dX6_slew_51 : decode cX6_slew 51 = .ok (.getfield 10, 3) := by decide +kernel
theorem dX6_slew_54 : decode cX6_slew 54 = .ok (.iload_n 1, 1) := by decide +kernel
theorem dX6_slew_55 : decode cX6_slew 55 = .ok (.invokevirtual 105, 3) := by decide +kernel
theorem dX6_slew_58 : decode cX6_slew 58 = .ok (.astore_n 3, 1) := by decide +kernel
theorem dX6_slew_59 : decode cX6_slew 59 = .ok (.aload_n 0, 1) := by decide +kernel
theorem dX6_slew_60 : decode cX6_slew 60 = .ok (.getfield 10, 3) := by decide +kernel
theorem dX6_slew_63 : decode cX6_slew 63 = .ok (.iload_n 2, 1) := by decide +kernel
theorem dX6_slew_64 : decode cX6_slew 64 = .ok (.invokevirtual 120, 3) := by decide +kernel
theorem dX6_slew_67 : decode cX6_slew 67 = .ok (.astore 4, 2) := by decide +kernel
theorem dX6_slew_69 : decode cX6_slew 69 = .ok (.aload_n 3, 1) := by decide +kernel
theorem dX6_slew_70 : decode cX6_slew 70 = .ok (.getfield 109, 3) := by decide +kernel
theorem dX6_slew_73 : decode cX6_slew 73 = .ok (.ifCond .eq 11, 3) := by decide +kernel
theorem dX6_slew_76 : decode cX6_slew 76 = .ok (.aload 4, 2) := by decide +kernel
theorem dX6_slew_78 : decode cX6_slew 78 = .ok (.getfield 109, 3) := by decide +kernel
theorem dX6_slew_81 : decode cX6_slew 81 = .ok (.ifCond .ne 6, 3) := by decide +kernel
theorem dX6_slew_84 : decode cX6_slew 84 = .ok (.ldc 69, 2) := by decide +kernel
theorem dX6_slew_86 : decode cX6_slew 86 = .ok (.ireturn, 1) := by decide +kernel
theorem dX6_slew_87 : decode cX6_slew 87 = .ok (.aload_n 0, 1) := by decide +kernel
theorem dX6_slew_88 : decode cX6_slew 88 = .ok (.getfield 22, 3) := by decide +kernel
theorem dX6_slew_91 : decode cX6_slew 91 = .ok (.aload_n 0, 1) := by decide +kernel
theorem dX6_slew_92 : decode cX6_slew 92 = .ok (.getfield 10, 3) := by decide +kernel
theorem dX6_slew_95 : decode cX6_slew 95 = .ok (.invokevirtual 42, 3) := by decide +kernel
theorem dX6_slew_98 : decode cX6_slew 98 = .ok (.aload_n 0, 1) := by decide +kernel
theorem dX6_slew_99 : decode cX6_slew 99 = .ok (.getfield 10, 3) := by decide +kernel
theorem dX6_slew_102 : decode cX6_slew 102 = .ok (.aload_n 3, 1) := by decide +kernel
theorem dX6_slew_103 : decode cX6_slew 103 = .ok (.aload 4, 2) := by decide +kernel
theorem dX6_slew_105 : decode cX6_slew 105 = .ok (.invokevirtual 123, 3) := by decide +kernel
theorem dX6_slew_108 : decode cX6_slew 108 = .ok (.ireturn, 1) := by decide +kernel
theorem dX6_isWound_0 : decode cX6_isWound 0 = .ok (.aload_n 0, 1) := by decide +kernel
theorem dX6_isWound_1 : decode cX6_isWound 1 = .ok (.getfield 10, 3) := by decide +kernel
theorem dX6_isWound_4 : decode cX6_isWound 4 = .ok (.getfield 127, 3) := by decide +kernel
theorem dX6_isWound_7 : decode cX6_isWound 7 = .ok (.getfield 131, 3) := by decide +kernel
theorem dX6_isWound_10 : decode cX6_isWound 10 = .ok (.invokestatic 134, 3) := by decide +kernel
theorem dX6_isWound_13 : decode cX6_isWound 13 = .ok (.aload_n 0, 1) := by decide +kernel
theorem dX6_isWound_14 : decode cX6_isWound 14 = .ok (.getfield 10, 3) := by decide +kernel
theorem dX6_isWound_17 : decode cX6_isWound 17 = .ok (.getfield 139, 3) := by decide +kernel
theorem dX6_isWound_20 : decode cX6_isWound 20 = .ok (.iconst 1, 1) := by decide +kernel
theorem dX6_isWound_21 : decode cX6_isWound 21 = .ok (.iaload, 1) := by decide +kernel
theorem dX6_isWound_22 : decode cX6_isWound 22 = .ok (.if_icmp .le 7, 3) := by decide +kernel
theorem dX6_isWound_25 : decode cX6_isWound 25 = .ok (.iconst 1, 1) := by decide +kernel
theorem dX6_isWound_26 : decode cX6_isWound 26 = .ok (.goto 4, 3) := by decide +kernel
theorem dX6_isWound_29 : decode cX6_isWound 29 = .ok (.iconst 0, 1) := by decide +kernel
theorem dX6_isWound_30 : decode cX6_isWound 30 = .ok (.ireturn, 1) := by decide +kernel
set_option maxRecDepth 20000 in
theorem ggX6_add_X6_isTargetInRange : GoodIn wsX6_add wsX6_isTargetInRange := goodIn_r _ [8, 9, 10, 11, 12, 7, 13] (by decide +kernel) (by decide +kernel)
set_option maxRecDepth 20000 in
theorem gX6_add_X6_isTargetInRange : GoodIn wsX6_add (va_wsS RX6 142 yX6_isTargetInRange wsX6_isTargetInRange) := goodIn_app (goodIn_of _ (by decide +kernel)) ggX6_add_X6_isTargetInRange
set_option maxRecDepth 20000 in
theorem ggX6_add_X2_targetsIn : GoodIn wsX6_add wsX2_targetsIn := goodIn_r _ [18, 19, 20, 94, 95, 96, 97, 98, 99, 100, 101, 102, 103, 104, 105, 106, 107, 108, 109, 110, 111, 112, 113, 114, 115, 116, 117, 118] (by decide +kernel) (by decide +kernel)
set_option maxRecDepth 20000 in
theorem gX6_add_X2_targetsIn : GoodIn wsX6_add (wsV RX6 73 RX2 yX2_targetsIn wsX2_targetsIn) := goodIn_app (goodIn_of _ (by decide +kernel)) ggX6_add_X2_targetsIn
set_option maxRecDepth 20000 in
theorem ggX6_add_X1_record : GoodIn wsX6_add wsX1_record := goodIn_r _ [25, 26, 27, 28, 29, 30, 24, 31, 32, 33, 34, 17, 35, 36, 37, 38, 39, 40, 41, 42, 43, 44, 45, 46, 19, 47, 48, 49, 50, 51, 52, 53, 54, 55, 56, 57, 58, 59, 60, 61, 62, 63, 64, 65, 66, 67, 68, 69, 70, 71, 72, 73, 74, 75, 76, 77, 119, 120, 94, 95, 96, 97, 98, 99, 100, 101, 102, 103, 104, 121, 122, 123, 124, 125, 126, 127, 128, 129, 130, 105, 106, 107, 108, 109, 110, 111, 112, 113, 114, 115, 116, 117, 118] (by decide +kernel) (by decide +kernel)
set_option maxRecDepth 20000 in
theorem gX6_add_X1_record : GoodIn wsX6_add (wsV RX6 42 RX1 yX1_record wsX1_record) := goodIn_app (goodIn_of _ (by decide +kernel)) ggX6_add_X1_record
set_option maxRecDepth 20000 in
theorem ggX6_add_X2_append : GoodIn wsX6_add wsX2_append := goodIn_r _ [81, 19, 82, 83, 84, 85, 86, 87, 20, 88, 89, 15, 16, 17, 18, 94, 95, 96, 97, 98, 99, 100, 101, 102, 103, 104, 105, 106, 107, 108, 109, 110, 111, 112, 113, 114, 115, 116, 117, 118] (by decide +kernel) (by decide +kernel)
set_option maxRecDepth 20000 in
theorem gX6_add_X2_append : GoodIn wsX6_add (wsV RX6 147 RX2 yX2_append wsX2_append) := goodIn_app (goodIn_of _ (by decide +kernel)) ggX6_add_X2_append
theorem dX6_add_0 : decode cX6_add 0 = .ok (.iload_n 1, 1) := by decide +kernel
theorem dX6_add_1 : decode cX6_add 1 = .ok (.iload_n 2, 1) := by decide +kernel
theorem dX6_add_2 : decode cX6_add 2 = .ok (.iload_n 3, 1) := by decide +kernel
theorem dX6_add_3 : decode cX6_add 3 = .ok (.iload 4, 2) := by decide +kernel
theorem dX6_add_5 : decode cX6_add 5 = .ok (.iload 5, 2) := by decide +kernel
theorem dX6_add_7 : decode cX6_add 7 = .ok (.iload 6, 2) := by decide +kernel
theorem dX6_add_9 : decode cX6_add 9 = .ok (.invokestatic 142, 3) := by decide +kernel
theorem dX6_add_12 : decode cX6_add 12 = .ok (.ifCond .ne 6, 3) := by decide +kernel
theorem dX6_add_15 : decode cX6_add 15 = .ok (.ldc 41, 2) := by decide +kernel
theorem dX6_add_17 : decode cX6_add 17 = .ok (.ireturn, 1) := by decide +kernel
theorem dX6_add_18 : decode cX6_add 18 = .ok (.aload_n 0, 1) := by decide +kernel
theorem dX6_add_19 : decode cX6_add 19 = .ok (.getfield 10, 3) := by decide +kernel
theorem dX6_add_22 : decode cX6_add 22 = .ok (.iconst 4, 1) := by decide +kernel
theorem dX6_add_23 : decode cX6_add 23 = .ok (.invokevirtual 73, 3) := by decide +kernel
theorem dX6_add_26 : decode cX6_add 26 = .ok (.ifCond .ne 6, 3) := by decide +kernel
theorem dX6_add_29 : decode cX6_add 29 = .ok (.ldc 146, 2) := by decide +kernel
theorem dX6_add_31 : decode cX6_add 31 = .ok (.ireturn, 1) := by decide +kernel
theorem dX6_add_32 : decode cX6_add 32 = .ok (.aload_n 0, 1) := by decide +kernel
theorem dX6_add_33 : decode cX6_add 33 = .ok (.getfield 22, 3) := by decide +kernel
theorem dX6_add_36 : decode cX6_add 36 = .ok (.aload_n 0, 1) := by decide +kernel
theorem dX6_add_37 : decode cX6_add 37 = .ok (.getfield 10, 3) := by decide +kernel
theorem dX6_add_40 : decode cX6_add 40 = .ok (.invokevirtual 42, 3) := by decide +kernel
theorem dX6_add_43 : decode cX6_add 43 = .ok (.aload_n 0, 1) := by decide +kernel
theorem dX6_add_44 : decode cX6_add 44 = .ok (.getfield 10, 3) := by decide +kernel
theorem dX6_add_47 : decode cX6_add 47 = .ok (.iload_n 1, 1) := by decide +kernel
theorem dX6_add_48 : decode cX6_add 48 = .ok (.iload_n 2, 1) := by decide +kernel
theorem dX6_add_49 : decode cX6_add 49 = .ok (.iload_n 3, 1) := by decide +kernel
theorem dX6_add_50 : decode cX6_add 50 = .ok (.iload 4, 2) := by decide +kernel
theorem dX6_add_52 : decode cX6_add 52 = .ok (.iload 5, 2) := by decide +kernel
theorem dX6_add_54 : decode cX6_add 54 = .ok (.iload 6, 2) := by decide +kernel
theorem dX6_add_56 : decode cX6_add 56 = .ok (.invokevirtual 147, 3) := by decide +kernel
theorem dX6_add_59 : decode cX6_add 59 = .ok (.ireturn, 1) := by decide +kernel
set_option maxRecDepth 20000 in
theorem ggX6_drop_X2_hasTarget : GoodIn wsX6_drop wsX2_hasTarget := goodIn_r _ [11, 12, 13, 87, 88, 89, 90, 91, 92, 93, 94, 95, 96, 97, 98, 99, 100, 101, 102, 103, 104, 105, 106, 107, 108, 109, 110, 111] (by decide +kernel) (by decide +kernel)
set_option maxRecDepth 20000 in
theorem gX6_drop_X2_hasTarget : GoodIn wsX6_drop (wsV RX6 151 RX2 yX2_hasTarget wsX2_hasTarget) := goodIn_app (goodIn_of _ (by decide +kernel)) ggX6_drop_X2_hasTarget
set_option maxRecDepth 20000 in
theorem ggX6_drop_X1_record : GoodIn wsX6_drop wsX1_record := goodIn_r _ [18, 19, 20, 21, 22, 23, 17, 24, 25, 26, 27, 10, 28, 29, 30, 31, 32, 33, 34, 35, 36, 37, 38, 39, 12, 40, 41, 42, 43, 44, 45, 46, 47, 48, 49, 50, 51, 52, 53, 54, 55, 56, 57, 58, 59, 60, 61, 62, 63, 64, 65, 66, 67, 68, 69, 70, 112, 113, 87, 88, 89, 90, 91, 92, 93, 94, 95, 96, 97, 114, 115, 116, 117, 118, 119, 120, 121, 122, 123, 98, 99, 100, 101, 102, 103, 104, 105, 106, 107, 108, 109, 110, 111] (by decide +kernel) (by decide +kernel)
set_option maxRecDepth 20000 in
theorem gX6_drop_X1_record : GoodIn wsX6_drop (wsV RX6 42 RX1 yX1_record wsX1_record) := goodIn_app (goodIn_of _ (by decide +kernel)) ggX6_drop_X1_record
set_option maxRecDepth 20000 in
theorem ggX6_drop_X2_remove : GoodIn wsX6_drop wsX2_remove := goodIn_r _ [74, 75, 76, 77, 78, 12, 13, 52, 53, 54, 55, 56, 57, 58, 59, 60, 61, 62, 63, 64, 65, 66, 67, 68, 69, 70, 87, 88, 89, 90, 91, 92, 93, 94, 95, 96, 97, 98, 99, 100, 101, 102, 103, 104, 105, 106, 107, 108, 109, 110, 111] (by decide +kernel) (by decide +kernel)
set_option maxRecDepth 20000 in
theorem gX6_drop_X2_remove : GoodIn wsX6_drop (wsV RX6 164 RX2 yX2_remove wsX2_remove) := goodIn_app (goodIn_of _ (by decide +kernel)) ggX6_drop_X2_remove
set_option maxRecDepth 20000 in
theorem ggX6_drop_X2_targetsIn : GoodIn wsX6_drop wsX2_targetsIn := goodIn_r _ [82, 12, 13, 87, 88, 89, 90, 91, 92, 93, 94, 95, 96, 97, 98, 99, 100, 101, 102, 103, 104, 105, 106, 107, 108, 109, 110, 111] (by decide +kernel) (by decide +kernel)
set_option maxRecDepth 20000 in
theorem gX6_drop_X2_targetsIn : GoodIn wsX6_drop (wsV RX6 73 RX2 yX2_targetsIn wsX2_targetsIn) := goodIn_app (goodIn_of _ (by decide +kernel)) ggX6_drop_X2_targetsIn
theorem dX6_drop_0 : decode cX6_drop 0 = .ok (.aload_n 0, 1) := by decide +kernel
theorem dX6_drop_1 : decode cX6_drop 1 = .ok (.getfield 10, 3) := by decide +kernel
theorem dX6_drop_4 : decode cX6_drop 4 = .ok (.iload_n 1, 1) := by decide +kernel
theorem dX6_drop_5 : decode cX6_drop 5 = .ok (.invokevirtual 151, 3) := by decide +kernel
theorem dX6_drop_8 : decode cX6_drop 8 = .ok (.ifCond .ne 6, 3) := by decide +kernel
theorem dX6_drop_11 : decode cX6_drop 11 = .ok (.ldc 41, 2) := by decide +kernel
theorem dX6_drop_13 : decode cX6_drop 13 = .ok (.ireturn, 1) := by decide +kernel
theorem dX6_drop_14 : decode cX6_drop 14 = .ok (.aload_n 0, 1) := by decide +kernel
theorem dX6_drop_15 : decode cX6_drop 15 = .ok (.getfield 10, 3) := by decide +kernel
theorem dX6_drop_18 : decode cX6_drop 18 = .ok (.getfield 155, 3) := by decide +kernel
theorem dX6_drop_21 : decode cX6_drop 21 = .ok (.iload_n 1, 1) := by decide +kernel
theorem dX6_drop_22 : decode cX6_drop 22 = .ok (.aaload, 1) := by decide +kernel
theorem dX6_drop_23 : decode cX6_drop 23 = .ok (.getfield 159, 3) := by decide +kernel
theorem dX6_drop_26 : decode cX6_drop 26 = .ok (.iconst 1, 1) := by decide +kernel
theorem dX6_drop_27 : decode cX6_drop 27 = .ok (.if_icmp .ne 6, 3) := by decide +kernel
theorem dX6_drop_30 : decode cX6_drop 30 = .ok (.ldc 69, 2) := by decide +kernel
theorem dX6_drop_32 : decode cX6_drop 32 = .ok (.ireturn, 1) := by decide +kernel
theorem dX6_drop_33 : decode cX6_drop 33 = .ok (.aload_n 0, 1) := by decide +kernel
theorem dX6_drop_34 : decode cX6_drop 34 = .ok (.getfield 22, 3) := by decide +kernel
theorem dX6_drop_37 : decode cX6_drop 37 = .ok (.aload_n 0, 1) := by decide +kernel
theorem dX6_drop_38 : decode cX6_drop 38 = .ok (.getfield 10, 3) := by decide +kernel
theorem dX6_drop_41 : decode cX6_drop 41 = .ok (.invokevirtual 42, 3) := by decide +kernel
theorem dX6_drop_44 : decode cX6_drop 44 = .ok (.aload_n 0, 1) := by decide +kernel
theorem dX6_drop_45 : decode cX6_drop 45 = .ok (.getfield 10, 3) := by decide +kernel
theorem dX6_drop_48 : decode cX6_drop 48 = .ok (.iload_n 1, 1) := by decide +kernel
theorem dX6_drop_49 : decode cX6_drop 49 = .ok (.invokevirtual 164, 3) := by decide +kernel
theorem dX6_drop_52 : decode cX6_drop 52 = .ok (.bipush 10, 2) := by decide +kernel
theorem dX6_drop_54 : decode cX6_drop 54 = .ok (.aload_n 0, 1) := by decide +kernel
theorem dX6_drop_55 : decode cX6_drop 55 = .ok (.getfield 10, 3) := by decide +kernel
theorem dX6_drop_58 : decode cX6_drop 58 = .ok (.iconst 4, 1) := by decide +kernel
theorem dX6_drop_59 : decode cX6_drop 59 = .ok (.invokevirtual 73, 3) := by decide +kernel
theorem dX6_drop_62 : decode cX6_drop 62 = .ok (.isub, 1) := by decide +kernel
theorem dX6_drop_63 : decode cX6_drop 63 = .ok (.ireturn, 1) := by decide +kernel
set_option maxRecDepth 20000 in
theorem ggX6_target_X2_hasTarget : GoodIn wsX6_target wsX2_hasTarget := goodIn_r _ [8, 9, 10, 39, 40, 41, 42, 43, 44, 45, 46, 47, 48, 49, 50, 51, 52, 53, 54, 55, 56, 57, 58, 59, 60, 61, 62, 63] (by decide +kernel) (by decide +kernel)
set_option maxRecDepth 20000 in
theorem gX6_target_X2_hasTarget : GoodIn wsX6_target (wsV RX6 151 RX2 yX2_hasTarget wsX2_hasTarget) := goodIn_app (goodIn_of _ (by decide +kernel)) ggX6_target_X2_hasTarget
set_option maxRecDepth 20000 in
theorem ggX6_target_X3_tell : GoodIn wsX6_target wsX3_tell := goodIn_r _ [15, 16, 17, 18, 19, 20, 21, 22, 23, 24, 25, 26, 27, 28, 29, 30, 31, 32, 33, 14, 34, 50, 51, 52, 53, 54, 55, 56, 57, 58, 59, 60, 61, 62, 63] (by decide +kernel) (by decide +kernel)
set_option maxRecDepth 20000 in
theorem gX6_target_X3_tell : GoodIn wsX6_target (wsV RX6 168 RX3 yX3_tell wsX3_tell) := goodIn_app (goodIn_of _ (by decide +kernel)) ggX6_target_X3_tell
theorem dX6_target_0 : decode cX6_target 0 = .ok (.aload_n 0, 1) := by decide +kernel
theorem dX6_target_1 : decode cX6_target 1 = .ok (.getfield 10, 3) := by decide +kernel
theorem dX6_target_4 : decode cX6_target 4 = .ok (.iload_n 1, 1) := by decide +kernel
theorem dX6_target_5 : decode cX6_target 5 = .ok (.invokevirtual 151, 3) := by decide +kernel
theorem dX6_target_8 : decode cX6_target 8 = .ok (.ifCond .ne 6, 3) := by decide +kernel
theorem dX6_target_11 : decode cX6_target 11 = .ok (.ldc 41, 2) := by decide +kernel
theorem dX6_target_13 : decode cX6_target 13 = .ok (.ireturn, 1) := by decide +kernel
theorem dX6_target_14 : decode cX6_target 14 = .ok (.aload_n 0, 1) := by decide +kernel
theorem dX6_target_15 : decode cX6_target 15 = .ok (.getfield 10, 3) := by decide +kernel
theorem dX6_target_18 : decode cX6_target 18 = .ok (.getfield 155, 3) := by decide +kernel
theorem dX6_target_21 : decode cX6_target 21 = .ok (.iload_n 1, 1) := by decide +kernel
theorem dX6_target_22 : decode cX6_target 22 = .ok (.aaload, 1) := by decide +kernel
theorem dX6_target_23 : decode cX6_target 23 = .ok (.iload_n 2, 1) := by decide +kernel
theorem dX6_target_24 : decode cX6_target 24 = .ok (.invokevirtual 168, 3) := by decide +kernel
theorem dX6_target_27 : decode cX6_target 27 = .ok (.ireturn, 1) := by decide +kernel
set_option maxRecDepth 20000 in
theorem ggX6_why_X2_hasTarget : GoodIn wsX6_why wsX2_hasTarget := goodIn_r _ [8, 9, 10, 103, 104, 105, 106, 107, 108, 109, 110, 111, 112, 113, 114, 115, 116, 117, 118, 119, 120, 121, 122, 123, 124, 125, 126, 127] (by decide +kernel) (by decide +kernel)
set_option maxRecDepth 20000 in
theorem gX6_why_X2_hasTarget : GoodIn wsX6_why (wsV RX6 151 RX2 yX2_hasTarget wsX2_hasTarget) := goodIn_app (goodIn_of _ (by decide +kernel)) ggX6_why_X2_hasTarget
set_option maxRecDepth 20000 in
theorem ggX6_why_X2_reasonAgainst : GoodIn wsX6_why wsX2_reasonAgainst := goodIn_r _ [14, 10, 15, 16, 17, 18, 19, 20, 21, 22, 23, 24, 25, 26, 27, 28, 29, 7, 30, 9, 31, 32, 33, 34, 35, 36, 37, 38, 39, 40, 41, 42, 43, 44, 45, 46, 47, 48, 49, 50, 51, 52, 53, 54, 55, 56, 57, 58, 59, 60, 61, 62, 63, 64, 65, 66, 67, 68, 69, 70, 71, 72, 73, 74, 75, 76, 77, 78, 79, 80, 81, 82, 83, 84, 85, 86, 87, 88, 89, 90, 91, 92, 93, 94, 95, 96, 97, 98, 114, 115, 116, 117, 118, 119, 120, 121, 122, 123, 124, 125, 126, 127, 103, 104, 105, 106, 107, 108, 109, 110, 111, 112, 113, 128, 129, 130, 131, 132, 133, 134, 135, 136, 137, 138, 139, 140, 141, 142, 143, 144] (by decide +kernel) (by decide +kernel)
set_option maxRecDepth 20000 in
theorem gX6_why_X2_reasonAgainst : GoodIn wsX6_why (wsV RX6 169 RX2 yX2_reasonAgainst wsX2_reasonAgainst) := goodIn_app (goodIn_of _ (by decide +kernel)) ggX6_why_X2_reasonAgainst
theorem dX6_why_0 : decode cX6_why 0 = .ok (.aload_n 0, 1) := by decide +kernel
theorem dX6_why_1 : decode cX6_why 1 = .ok (.getfield 10, 3) := by decide +kernel
theorem dX6_why_4 : decode cX6_why 4 = .ok (.iload_n 1, 1) := by decide +kernel
theorem dX6_why_5 : decode cX6_why 5 = .ok (.invokevirtual 151, 3) := by decide +kernel
theorem dX6_why_8 : decode cX6_why 8 = .ok (.ifCond .ne 6, 3) := by decide +kernel
theorem dX6_why_11 : decode cX6_why 11 = .ok (.ldc 41, 2) := by decide +kernel
theorem dX6_why_13 : decode cX6_why 13 = .ok (.ireturn, 1) := by decide +kernel
theorem dX6_why_14 : decode cX6_why 14 = .ok (.aload_n 0, 1) := by decide +kernel
theorem dX6_why_15 : decode cX6_why 15 = .ok (.getfield 10, 3) := by decide +kernel
theorem dX6_why_18 : decode cX6_why 18 = .ok (.aload_n 0, 1) := by decide +kernel
theorem dX6_why_19 : decode cX6_why 19 = .ok (.getfield 10, 3) := by decide +kernel
theorem dX6_why_22 : decode cX6_why 22 = .ok (.getfield 155, 3) := by decide +kernel
theorem dX6_why_25 : decode cX6_why 25 = .ok (.iload_n 1, 1) := by decide +kernel
theorem dX6_why_26 : decode cX6_why 26 = .ok (.aaload, 1) := by decide +kernel
theorem dX6_why_27 : decode cX6_why 27 = .ok (.invokevirtual 169, 3) := by decide +kernel
theorem dX6_why_30 : decode cX6_why 30 = .ok (.ireturn, 1) := by decide +kernel
set_option maxRecDepth 20000 in
theorem ggX6_next_X2_bestToBegin : GoodIn wsX6_next wsX2_bestToBegin := goodIn_r _ [6, 7, 8, 9, 10, 5, 11, 12, 13, 14, 15, 16, 17, 18, 19, 20, 21, 22, 23, 24, 25, 26, 27, 28, 29, 30, 31, 32, 33, 34, 35, 36, 37, 38, 39, 40, 41, 42, 43, 44, 45, 46, 47, 48, 49, 50, 51, 52, 53, 54, 55, 56, 57, 58, 59, 60, 61, 62, 63, 64, 65, 66, 67, 68, 69, 70, 71, 72, 73, 74, 75, 76, 77, 78, 79, 80, 81, 82, 83, 84, 85, 86, 87, 88, 89, 90, 91, 92, 93, 94, 95, 96, 97, 98, 99, 100, 101, 102, 103, 113, 114, 115, 116, 117, 118, 119, 120, 121, 122, 123, 124, 125, 126, 127, 128, 129, 130, 131, 132, 133, 134, 135, 136, 137, 138, 139, 140, 141, 142, 143, 144, 145, 146, 147, 148, 149, 150, 151, 152, 153, 154] (by decide +kernel) (by decide +kernel)
set_option maxRecDepth 20000 in
theorem gX6_next_X2_bestToBegin : GoodIn wsX6_next (wsV RX6 173 RX2 yX2_bestToBegin wsX2_bestToBegin) := goodIn_app (goodIn_of _ (by decide +kernel)) ggX6_next_X2_bestToBegin
set_option maxRecDepth 20000 in
theorem ggX6_next_X6_foundTarget : GoodIn wsX6_next wsX6_foundTarget := goodIn_r _ [107, 108] (by decide +kernel) (by decide +kernel)
set_option maxRecDepth 20000 in
theorem gX6_next_X6_foundTarget : GoodIn wsX6_next (va_wsS RX6 81 yX6_foundTarget wsX6_foundTarget) := goodIn_app (goodIn_of _ (by decide +kernel)) ggX6_next_X6_foundTarget
theorem dX6_next_0 : decode cX6_next 0 = .ok (.aload_n 0, 1) := by decide +kernel
theorem dX6_next_1 : decode cX6_next 1 = .ok (.getfield 10, 3) := by decide +kernel
theorem dX6_next_4 : decode cX6_next 4 = .ok (.invokevirtual 173, 3) := by decide +kernel
theorem dX6_next_7 : decode cX6_next 7 = .ok (.invokestatic 81, 3) := by decide +kernel
theorem dX6_next_10 : decode cX6_next 10 = .ok (.ireturn, 1) := by decide +kernel
set_option maxRecDepth 20000 in
theorem ggX6_run_X6_isBetween : GoodIn wsX6_run wsX6_isBetween := goodIn_r _ [10] (by decide +kernel) (by decide +kernel)
set_option maxRecDepth 20000 in
theorem gX6_run_X6_isBetween : GoodIn wsX6_run (va_wsS RX6 37 yX6_isBetween wsX6_isBetween) := goodIn_app (goodIn_of _ (by decide +kernel)) ggX6_run_X6_isBetween
set_option maxRecDepth 20000 in
theorem ggX6_run_X1_record : GoodIn wsX6_run wsX1_record := goodIn_r _ [15, 16, 17, 18, 19, 20, 14, 21, 22, 23, 24, 25, 26, 27, 28, 29, 30, 31, 32, 33, 34, 35, 36, 37, 38, 39, 40, 41, 42, 43, 44, 45, 46, 47, 48, 49, 50, 51, 52, 53, 54, 55, 56, 57, 58, 59, 60, 61, 62, 63, 64, 65, 66, 67, 68, 69, 239, 240, 228, 229, 230, 231, 232, 233, 234, 235, 236, 237, 238, 241, 242, 243, 244, 245, 246, 247, 248, 249, 250, 251, 252, 253, 254, 255, 256, 257, 258, 259, 260, 261, 262, 263, 264] (by decide +kernel) (by decide +kernel)
set_option maxRecDepth 20000 in
theorem gX6_run_X1_record : GoodIn wsX6_run (wsV RX6 42 RX1 yX1_record wsX1_record) := goodIn_app (goodIn_of _ (by decide +kernel)) ggX6_run_X1_record
set_option maxRecDepth 20000 in
theorem ggX6_run_X2_targetsIn : GoodIn wsX6_run wsX2_targetsIn := goodIn_r _ [73, 38, 74, 228, 229, 230, 231, 232, 233, 234, 235, 236, 237, 238, 251, 252, 253, 254, 255, 256, 257, 258, 259, 260, 261, 262, 263, 264] (by decide +kernel) (by decide +kernel)
set_option maxRecDepth 20000 in
theorem gX6_run_X2_targetsIn : GoodIn wsX6_run (wsV RX6 73 RX2 yX2_targetsIn wsX2_targetsIn) := goodIn_app (goodIn_of _ (by decide +kernel)) ggX6_run_X2_targetsIn
set_option maxRecDepth 20000 in
theorem ggX6_run_X2_letPass : GoodIn wsX6_run wsX2_letPass := goodIn_r _ [78, 27, 38, 79, 80, 81, 25, 82, 30, 83, 84, 85, 86, 35, 87, 88, 89, 90, 91, 92, 93, 94, 29, 74, 95, 37, 96, 97, 98, 42, 99, 47, 49, 48, 44, 100, 101, 102, 103, 50, 104, 105, 106, 107, 108, 109, 110, 111, 112, 113, 114, 115, 116, 36, 117, 118, 119, 120, 121, 122, 123, 124, 125, 126, 127, 128, 129, 130, 131, 132, 133, 134, 135, 136, 137, 138, 139, 140, 141, 142, 143, 144, 145, 146, 147, 148, 149, 150, 151, 152, 153, 154, 155, 156, 157, 158, 159, 160, 161, 162, 163, 164, 165, 166, 167, 168, 169, 170, 171, 172, 173, 174, 175, 176, 177, 178, 179, 180, 181, 182, 183, 184, 185, 186, 187, 188, 189, 190, 191, 192, 193, 194, 195, 196, 197, 198, 54, 199, 61, 59, 200, 201, 202, 203, 204, 205, 206, 207, 208, 28, 209, 210, 211, 212, 213, 214, 215, 216, 217, 218, 219, 220, 221, 222, 223, 228, 229, 230, 231, 232, 233, 234, 235, 236, 237, 238, 251, 252, 253, 254, 255, 256, 257, 258, 259, 260, 261, 262, 263, 264, 241, 242, 243, 244, 245, 246, 247, 248, 249, 250, 265, 266, 267, 268, 269, 270, 271] (by decide +kernel) (by decide +kernel)
set_option maxRecDepth 20000 in
theorem gX6_run_X2_letPass : GoodIn wsX6_run (wsV RX6 177 RX2 yX2_letPass wsX2_letPass) := goodIn_app (goodIn_of _ (by decide +kernel)) ggX6_run_X2_letPass
theorem dX6_run_0 : decode cX6_run 0 = .ok (.iload_n 1, 1) := by decide +kernel
theorem dX6_run_1 : decode cX6_run 1 = .ok (.iconst 0, 1) := by decide +kernel
theorem dX6_run_2 : decode cX6_run 2 = .ok (.sipush 2000, 3) := by decide +kernel
theorem dX6_run_5 : decode cX6_run 5 = .ok (.invokestatic 37, 3) := by decide +kernel
theorem dX6_run_8 : decode cX6_run 8 = .ok (.ifCond .ne 6, 3) := by decide +kernel
theorem dX6_run_11 : decode cX6_run 11 = .ok (.ldc 41, 2) := by decide +kernel
theorem dX6_run_13 : decode cX6_run 13 = .ok (.ireturn, 1) := by decide +kernel
theorem dX6_run_14 : decode cX6_run 14 = .ok (.aload_n 0, 1) := by decide +kernel
theorem dX6_run_15 : decode cX6_run 15 = .ok (.getfield 10, 3) := by decide +kernel
theorem dX6_run_18 : decode cX6_run 18 = .ok (.getfield 65, 3) := by decide +kernel
theorem dX6_run_21 : decode cX6_run 21 = .ok (.iload_n 1, 1) := by decide +kernel
theorem dX6_run_22 : decode cX6_run 22 = .ok (.iadd, 1) := by decide +kernel
theorem dX6_run_23 : decode cX6_run 23 = .ok (.ldc 176, 2) := by decide +kernel
theorem dX6_run_25 : decode cX6_run 25 = .ok (.if_icmp .le 6, 3) := by decide +kernel
theorem dX6_run_28 : decode cX6_run 28 = .ok (.ldc 146, 2) := by decide +kernel
theorem dX6_run_30 : decode cX6_run 30 = .ok (.ireturn, 1) := by decide +kernel
theorem dX6_run_31 : decode cX6_run 31 = .ok (.aload_n 0, 1) := by decide +kernel
theorem dX6_run_32 : decode cX6_run 32 = .ok (.getfield 22, 3) := by decide +kernel
theorem dX6_run_35 : decode cX6_run 35 = .ok (.aload_n 0, 1) := by decide +kernel
theorem dX6_run_36 : decode cX6_run 36 = .ok (.getfield 10, 3) := by decide +kernel
theorem dX6_run_39 : decode cX6_run 39 = .ok (.invokevirtual 42, 3) := by decide +kernel
theorem dX6_run_42 : decode cX6_run 42 = .ok (.aload_n 0, 1) := by decide +kernel
theorem dX6_run_43 : decode cX6_run 43 = .ok (.getfield 10, 3) := by decide +kernel
theorem dX6_run_46 : decode cX6_run 46 = .ok (.iconst 2, 1) := by decide +kernel
theorem dX6_run_47 : decode cX6_run 47 = .ok (.invokevirtual 73, 3) := by decide +kernel
theorem dX6_run_50 : decode cX6_run 50 = .ok (.istore_n 2, 1) := by decide +kernel
theorem dX6_run_51 : decode cX6_run 51 = .ok (.aload_n 0, 1) := by decide +kernel
theorem dX6_run_52 : decode cX6_run 52 = .ok (.getfield 10, 3) := by decide +kernel
theorem dX6_run_55 : decode cX6_run 55 = .ok (.iload_n 1, 1) := by decide +kernel
theorem dX6_run_56 : decode cX6_run 56 = .ok (.invokevirtual 177, 3) := by decide +kernel
theorem dX6_run_59 : decode cX6_run 59 = .ok (.aload_n 0, 1) := by decide +kernel
theorem dX6_run_60 : decode cX6_run 60 = .ok (.getfield 10, 3) := by decide +kernel
theorem dX6_run_63 : decode cX6_run 63 = .ok (.iconst 2, 1) := by decide +kernel
theorem dX6_run_64 : decode cX6_run 64 = .ok (.invokevirtual 73, 3) := by decide +kernel
theorem dX6_run_67 : decode cX6_run 67 = .ok (.iload_n 2, 1) := by decide +kernel
theorem dX6_run_68 : decode cX6_run 68 = .ok (.isub, 1) := by decide +kernel
theorem dX6_run_69 : decode cX6_run 69 = .ok (.ireturn, 1) := by decide +kernel
set_option maxRecDepth 20000 in
theorem ggX6_ifRun_X6_isBetween : GoodIn wsX6_ifRun wsX6_isBetween := goodIn_r _ [10] (by decide +kernel) (by decide +kernel)
set_option maxRecDepth 20000 in
theorem gX6_ifRun_X6_isBetween : GoodIn wsX6_ifRun (va_wsS RX6 37 yX6_isBetween wsX6_isBetween) := goodIn_app (goodIn_of _ (by decide +kernel)) ggX6_ifRun_X6_isBetween
set_option maxRecDepth 20000 in
theorem ggX6_ifRun_X2_copyFrom : GoodIn wsX6_ifRun wsX2_copyFrom := goodIn_r _ [15, 16, 17, 18, 19, 20, 21, 22, 23, 24, 25, 26, 27, 28, 29, 30, 31, 32, 33, 34, 35, 36, 37, 38, 39, 40, 41, 42, 43, 44, 45, 46, 47, 48, 49, 50, 51, 52, 53, 54, 55, 56, 57, 58, 217, 218, 219, 220, 221, 222, 223, 224, 225, 226, 227, 228, 229, 230, 231, 232, 233, 234, 235, 236, 237, 238, 239, 240, 241, 242, 243, 244, 245, 246, 247, 248, 249, 250, 251] (by decide +kernel) (by decide +kernel)
set_option maxRecDepth 20000 in
theorem gX6_ifRun_X2_copyFrom : GoodIn wsX6_ifRun (wsV RX6 180 RX2 yX2_copyFrom wsX2_copyFrom) := goodIn_app (goodIn_of _ (by decide +kernel)) ggX6_ifRun_X2_copyFrom
set_option maxRecDepth 20000 in
theorem ggX6_ifRun_X2_letPass : GoodIn wsX6_ifRun wsX2_letPass := goodIn_r _ [62, 16, 27, 63, 64, 65, 14, 66, 19, 67, 68, 69, 70, 24, 71, 72, 73, 74, 75, 76, 77, 78, 18, 79, 80, 26, 81, 82, 83, 31, 84, 36, 38, 37, 33, 85, 86, 87, 88, 39, 89, 90, 91, 92, 93, 94, 95, 96, 97, 98, 99, 100, 101, 25, 102, 103, 104, 105, 106, 107, 108, 109, 110, 111, 112, 113, 114, 115, 116, 117, 118, 119, 120, 121, 122, 123, 124, 125, 126, 127, 128, 129, 130, 131, 132, 133, 134, 135, 136, 137, 138, 139, 140, 141, 142, 143, 144, 145, 146, 147, 148, 149, 150, 151, 152, 153, 154, 155, 156, 157, 158, 159, 160, 161, 162, 163, 164, 165, 166, 167, 168, 169, 170, 171, 172, 173, 174, 175, 176, 177, 178, 179, 180, 181, 182, 183, 43, 184, 50, 48, 185, 186, 187, 188, 189, 190, 191, 192, 193, 17, 194, 195, 196, 197, 198, 199, 200, 201, 202, 203, 204, 205, 206, 207, 208, 217, 218, 219, 220, 221, 222, 223, 224, 225, 226, 227, 238, 239, 240, 241, 242, 243, 244, 245, 246, 247, 248, 249, 250, 251, 228, 229, 230, 231, 232, 233, 234, 235, 236, 237, 252, 253, 254, 255, 256, 257, 258] (by decide +kernel) (by decide +kernel)
set_option maxRecDepth 20000 in
theorem gX6_ifRun_X2_letPass : GoodIn wsX6_ifRun (wsV RX6 177 RX2 yX2_letPass wsX2_letPass) := goodIn_app (goodIn_of _ (by decide +kernel)) ggX6_ifRun_X2_letPass
set_option maxRecDepth 20000 in
theorem ggX6_ifRun_X2_targetsIn : GoodIn wsX6_ifRun wsX2_targetsIn := goodIn_r _ [212, 27, 79, 217, 218, 219, 220, 221, 222, 223, 224, 225, 226, 227, 238, 239, 240, 241, 242, 243, 244, 245, 246, 247, 248, 249, 250, 251] (by decide +kernel) (by decide +kernel)
set_option maxRecDepth 20000 in
theorem gX6_ifRun_X2_targetsIn : GoodIn wsX6_ifRun (wsV RX6 73 RX2 yX2_targetsIn wsX2_targetsIn) := goodIn_app (goodIn_of _ (by decide +kernel)) ggX6_ifRun_X2_targetsIn
theorem dX6_ifRun_0 : decode cX6_ifRun 0 = .ok (.iload_n 1, 1) := by decide +kernel
theorem dX6_ifRun_1 : decode cX6_ifRun 1 = .ok (.iconst 0, 1) := by decide +kernel
theorem dX6_ifRun_2 : decode cX6_ifRun 2 = .ok (.sipush 2000, 3) := by decide +kernel
theorem dX6_ifRun_5 : decode cX6_ifRun 5 = .ok (.invokestatic 37, 3) := by decide +kernel
theorem dX6_ifRun_8 : decode cX6_ifRun 8 = .ok (.ifCond .ne 6, 3) := by decide +kernel
theorem dX6_ifRun_11 : decode cX6_ifRun 11 = .ok (.ldc 41, 2) := by decide +kernel
theorem dX6_ifRun_13 : decode cX6_ifRun 13 = .ok (.ireturn, 1) := by decide +kernel
theorem dX6_ifRun_14 : decode cX6_ifRun 14 = .ok (.aload_n 0, 1) := by decide +kernel
theorem dX6_ifRun_15 : decode cX6_ifRun 15 = .ok (.getfield 10, 3) := by decide +kernel
theorem dX6_ifRun_18 : decode cX6_ifRun 18 = .ok (.getfield 65, 3) := by decide +kernel
theorem dX6_ifRun_21 : decode cX6_ifRun 21 = .ok (.iload_n 1, 1) := by decide +kernel
theorem dX6_ifRun_22 : decode cX6_ifRun 22 = .ok (.iadd, 1) := by decide +kernel
theorem dX6_ifRun_23 : decode cX6_ifRun 23 = .ok (.ldc 176, 2) := by decide +kernel
theorem dX6_ifRun_25 : decode cX6_ifRun 25 = .ok (.if_icmp .le 6, 3) := by decide +kernel
theorem dX6_ifRun_28 : decode cX6_ifRun 28 = .ok (.ldc 146, 2) := by decide +kernel
theorem dX6_ifRun_30 : decode cX6_ifRun 30 = .ok (.ireturn, 1) := by decide +kernel
theorem dX6_ifRun_31 : decode cX6_ifRun 31 = .ok (.aload_n 0, 1) := by decide +kernel
theorem dX6_ifRun_32 : decode cX6_ifRun 32 = .ok (.getfield 16, 3) := by decide +kernel
theorem dX6_ifRun_35 : decode cX6_ifRun 35 = .ok (.aload_n 0, 1) := by decide +kernel
theorem dX6_ifRun_36 : decode cX6_ifRun 36 = .ok (.getfield 10, 3) := by decide +kernel
theorem dX6_ifRun_39 : decode cX6_ifRun 39 = .ok (.invokevirtual 180, 3) := by decide +kernel
theorem dX6_ifRun_42 : decode cX6_ifRun 42 = .ok (.aload_n 0, 1) := by decide +kernel
theorem dX6_ifRun_43 : decode cX6_ifRun 43 = .ok (.getfield 16, 3) := by decide +kernel
theorem dX6_ifRun_46 : decode cX6_ifRun 46 = .ok (.iload_n 1, 1) := by decide +kernel
theorem dX6_ifRun_47 : decode cX6_ifRun 47 = .ok (.invokevirtual 177, 3) := by decide +kernel
theorem dX6_ifRun_50 : decode cX6_ifRun 50 = .ok (.aload_n 0, 1) := by decide +kernel
theorem dX6_ifRun_51 : decode cX6_ifRun 51 = .ok (.getfield 16, 3) := by decide +kernel
theorem dX6_ifRun_54 : decode cX6_ifRun 54 = .ok (.iconst 2, 1) := by decide +kernel
theorem dX6_ifRun_55 : decode cX6_ifRun 55 = .ok (.invokevirtual 73, 3) := by decide +kernel
theorem dX6_ifRun_58 : decode cX6_ifRun 58 = .ok (.ireturn, 1) := by decide +kernel
set_option maxRecDepth 20000 in
theorem ggX6_undo_X1_restoreLatest : GoodIn wsX6_undo wsX1_restoreLatest := goodIn_r _ [9, 10, 11, 12, 13, 14, 15, 16, 17, 18, 19, 20, 21, 22, 23, 24, 25, 26, 27, 28, 29, 30, 31, 32, 33, 34, 35, 36, 37, 38, 39, 40, 41, 42, 43, 44, 45, 46, 47, 48, 49, 50, 51, 52, 53, 54, 55, 56, 57, 58, 59, 64, 65, 66, 67, 68, 69, 70, 71, 72, 73, 74, 75, 76, 77, 78, 79, 80, 81, 82, 83, 84, 85, 86, 87, 88, 89, 90, 91, 92, 93, 94, 95, 96, 97, 98, 99, 100] (by decide +kernel) (by decide +kernel)
set_option maxRecDepth 20000 in
theorem gX6_undo_X1_restoreLatest : GoodIn wsX6_undo (wsV RX6 183 RX1 yX1_restoreLatest wsX1_restoreLatest) := goodIn_app (goodIn_of _ (by decide +kernel)) ggX6_undo_X1_restoreLatest
theorem dX6_undo_0 : decode cX6_undo 0 = .ok (.aload_n 0, 1) := by decide +kernel
theorem dX6_undo_1 : decode cX6_undo 1 = .ok (.getfield 22, 3) := by decide +kernel
theorem dX6_undo_4 : decode cX6_undo 4 = .ok (.getfield 87, 3) := by decide +kernel
theorem dX6_undo_7 : decode cX6_undo 7 = .ok (.ifCond .ne 6, 3) := by decide +kernel
theorem dX6_undo_10 : decode cX6_undo 10 = .ok (.ldc 69, 2) := by decide +kernel
theorem dX6_undo_12 : decode cX6_undo 12 = .ok (.ireturn, 1) := by decide +kernel
theorem dX6_undo_13 : decode cX6_undo 13 = .ok (.aload_n 0, 1) := by decide +kernel
theorem dX6_undo_14 : decode cX6_undo 14 = .ok (.getfield 22, 3) := by decide +kernel
theorem dX6_undo_17 : decode cX6_undo 17 = .ok (.aload_n 0, 1) := by decide +kernel
theorem dX6_undo_18 : decode cX6_undo 18 = .ok (.getfield 10, 3) := by decide +kernel
theorem dX6_undo_21 : decode cX6_undo 21 = .ok (.invokevirtual 183, 3) := by decide +kernel
theorem dX6_undo_24 : decode cX6_undo 24 = .ok (.aload_n 0, 1) := by decide +kernel
theorem dX6_undo_25 : decode cX6_undo 25 = .ok (.getfield 22, 3) := by decide +kernel
theorem dX6_undo_28 : decode cX6_undo 28 = .ok (.getfield 87, 3) := by decide +kernel
theorem dX6_undo_31 : decode cX6_undo 31 = .ok (.ireturn, 1) := by decide +kernel
set_option maxRecDepth 20000 in
theorem ggX6_type_X6_isBetween : GoodIn wsX6_type wsX6_isBetween := goodIn_r _ [8] (by decide +kernel) (by decide +kernel)
set_option maxRecDepth 20000 in
theorem gX6_type_X6_isBetween : GoodIn wsX6_type (va_wsS RX6 37 yX6_isBetween wsX6_isBetween) := goodIn_app (goodIn_of _ (by decide +kernel)) ggX6_type_X6_isBetween
set_option maxRecDepth 20000 in
theorem ggX6_type_X4_append : GoodIn wsX6_type wsX4_append := goodIn_r _ [13, 14, 15, 20, 21, 22, 23, 24, 25] (by decide +kernel) (by decide +kernel)
set_option maxRecDepth 20000 in
theorem gX6_type_X4_append : GoodIn wsX6_type (wsV RX6 186 RX4 yX4_append wsX4_append) := goodIn_app (goodIn_of _ (by decide +kernel)) ggX6_type_X4_append
theorem dX6_type_0 : decode cX6_type 0 = .ok (.iload_n 1, 1) := by decide +kernel
theorem dX6_type_1 : decode cX6_type 1 = .ok (.bipush 32, 2) := by decide +kernel
theorem dX6_type_3 : decode cX6_type 3 = .ok (.bipush 126, 2) := by decide +kernel
theorem dX6_type_5 : decode cX6_type 5 = .ok (.invokestatic 37, 3) := by decide +kernel
theorem dX6_type_8 : decode cX6_type 8 = .ok (.ifCond .ne 6, 3) := by decide +kernel
theorem dX6_type_11 : decode cX6_type 11 = .ok (.ldc 41, 2) := by decide +kernel
theorem dX6_type_13 : decode cX6_type 13 = .ok (.ireturn, 1) := by decide +kernel
theorem dX6_type_14 : decode cX6_type 14 = .ok (.aload_n 0, 1) := by decide +kernel
theorem dX6_type_15 : decode cX6_type 15 = .ok (.getfield 29, 3) := by decide +kernel
theorem dX6_type_18 : decode cX6_type 18 = .ok (.getfield 90, 3) := by decide +kernel
theorem dX6_type_21 : decode cX6_type 21 = .ok (.bipush 100, 2) := by decide +kernel
theorem dX6_type_23 : decode cX6_type 23 = .ok (.if_icmp .lt 6, 3) := by decide +kernel
theorem dX6_type_26 : decode cX6_type 26 = .ok (.ldc 146, 2) := by decide +kernel
theorem dX6_type_28 : decode cX6_type 28 = .ok (.ireturn, 1) := by decide +kernel
theorem dX6_type_29 : decode cX6_type 29 = .ok (.aload_n 0, 1) := by decide +kernel
theorem dX6_type_30 : decode cX6_type 30 = .ok (.getfield 29, 3) := by decide +kernel
theorem dX6_type_33 : decode cX6_type 33 = .ok (.iload_n 1, 1) := by decide +kernel
theorem dX6_type_34 : decode cX6_type 34 = .ok (.i2c, 1) := by decide +kernel
theorem dX6_type_35 : decode cX6_type 35 = .ok (.invokevirtual 186, 3) := by decide +kernel
theorem dX6_type_38 : decode cX6_type 38 = .ok (.aload_n 0, 1) := by decide +kernel
theorem dX6_type_39 : decode cX6_type 39 = .ok (.getfield 29, 3) := by decide +kernel
theorem dX6_type_42 : decode cX6_type 42 = .ok (.getfield 90, 3) := by decide +kernel
theorem dX6_type_45 : decode cX6_type 45 = .ok (.ireturn, 1) := by decide +kernel
theorem dX6_clearText_0 : decode cX6_clearText 0 = .ok (.aload_n 0, 1) := by decide +kernel
theorem dX6_clearText_1 : decode cX6_clearText 1 = .ok (.getfield 29, 3) := by decide +kernel
theorem dX6_clearText_4 : decode cX6_clearText 4 = .ok (.getfield 90, 3) := by decide +kernel
theorem dX6_clearText_7 : decode cX6_clearText 7 = .ok (.istore_n 1, 1) := by decide +kernel
theorem dX6_clearText_8 : decode cX6_clearText 8 = .ok (.aload_n 0, 1) := by decide +kernel
theorem dX6_clearText_9 : decode cX6_clearText 9 = .ok (.getfield 29, 3) := by decide +kernel
theorem dX6_clearText_12 : decode cX6_clearText 12 = .ok (.iconst 0, 1) := by decide +kernel
theorem dX6_clearText_13 : decode cX6_clearText 13 = .ok (.putfield 90, 3) := by decide +kernel
theorem dX6_clearText_16 : decode cX6_clearText 16 = .ok (.iload_n 1, 1) := by decide +kernel
theorem dX6_clearText_17 : decode cX6_clearText 17 = .ok (.ireturn, 1) := by decide +kernel
set_option maxRecDepth 20000 in
theorem ggX6_fault_X6_isBetween : GoodIn wsX6_fault wsX6_isBetween := goodIn_r _ [10] (by decide +kernel) (by decide +kernel)
set_option maxRecDepth 20000 in
theorem gX6_fault_X6_isBetween : GoodIn wsX6_fault (va_wsS RX6 37 yX6_isBetween wsX6_isBetween) := goodIn_app (goodIn_of _ (by decide +kernel)) ggX6_fault_X6_isBetween
set_option maxRecDepth 20000 in
theorem ggX6_fault_X2_targetsIn : GoodIn wsX6_fault wsX2_targetsIn := goodIn_r _ [15, 16, 17, 62, 63, 64, 65, 66, 67, 68, 69, 70, 71, 72, 73, 74, 75, 76, 77, 78, 79, 80, 81, 82, 83, 84, 85, 86] (by decide +kernel) (by decide +kernel)
set_option maxRecDepth 20000 in
theorem gX6_fault_X2_targetsIn : GoodIn wsX6_fault (wsV RX6 73 RX2 yX2_targetsIn wsX2_targetsIn) := goodIn_app (goodIn_of _ (by decide +kernel)) ggX6_fault_X2_targetsIn
set_option maxRecDepth 20000 in
theorem ggX6_fault_X4_check : GoodIn wsX6_fault wsX4_check := goodIn_r _ [22, 23, 24, 25, 26, 27, 28, 29, 21, 30, 31, 32, 33, 34, 35, 36, 37, 38, 39, 40, 41, 42, 43, 44, 45, 46, 47, 48, 9, 49, 50, 51, 7, 8, 10, 56, 57, 58, 59, 60, 61] (by decide +kernel) (by decide +kernel)
set_option maxRecDepth 20000 in
theorem gX6_fault_X4_check : GoodIn wsX6_fault (wsV RX6 189 RX4 yX4_check wsX4_check) := goodIn_app (goodIn_of _ (by decide +kernel)) ggX6_fault_X4_check
theorem dX6_fault_0 : decode cX6_fault 0 = .ok (.iload_n 1, 1) := by decide +kernel
theorem dX6_fault_1 : decode cX6_fault 1 = .ok (.iconst 0, 1) := by decide +kernel
theorem dX6_fault_2 : decode cX6_fault 2 = .ok (.iconst 1, 1) := by decide +kernel
theorem dX6_fault_3 : decode cX6_fault 3 = .ok (.invokestatic 37, 3) := by decide +kernel
theorem dX6_fault_6 : decode cX6_fault 6 = .ok (.ifCond .ne 6, 3) := by decide +kernel
theorem dX6_fault_9 : decode cX6_fault 9 = .ok (.ldc 41, 2) := by decide +kernel
theorem dX6_fault_11 : decode cX6_fault 11 = .ok (.ireturn, 1) := by decide +kernel
theorem dX6_fault_12 : decode cX6_fault 12 = .ok (.aload_n 0, 1) := by decide +kernel
theorem dX6_fault_13 : decode cX6_fault 13 = .ok (.getfield 29, 3) := by decide +kernel
theorem dX6_fault_16 : decode cX6_fault 16 = .ok (.aload_n 0, 1) := by decide +kernel
theorem dX6_fault_17 : decode cX6_fault 17 = .ok (.getfield 10, 3) := by decide +kernel
theorem dX6_fault_20 : decode cX6_fault 20 = .ok (.iconst 4, 1) := by decide +kernel
theorem dX6_fault_21 : decode cX6_fault 21 = .ok (.invokevirtual 73, 3) := by decide +kernel
theorem dX6_fault_24 : decode cX6_fault 24 = .ok (.invokevirtual 189, 3) := by decide +kernel
theorem dX6_fault_27 : decode cX6_fault 27 = .ok (.aload_n 0, 1) := by decide +kernel
theorem dX6_fault_28 : decode cX6_fault 28 = .ok (.getfield 29, 3) := by decide +kernel
theorem dX6_fault_31 : decode cX6_fault 31 = .ok (.getfield 192, 3) := by decide +kernel
theorem dX6_fault_34 : decode cX6_fault 34 = .ok (.ifCond .ne 6, 3) := by decide +kernel
theorem dX6_fault_37 : decode cX6_fault 37 = .ok (.ldc 116, 2) := by decide +kernel
theorem dX6_fault_39 : decode cX6_fault 39 = .ok (.ireturn, 1) := by decide +kernel
theorem dX6_fault_40 : decode cX6_fault 40 = .ok (.iload_n 1, 1) := by decide +kernel
theorem dX6_fault_41 : decode cX6_fault 41 = .ok (.ifCond .ne 13, 3) := by decide +kernel
theorem dX6_fault_44 : decode cX6_fault 44 = .ok (.aload_n 0, 1) := by decide +kernel
theorem dX6_fault_45 : decode cX6_fault 45 = .ok (.getfield 29, 3) := by decide +kernel
theorem dX6_fault_48 : decode cX6_fault 48 = .ok (.getfield 195, 3) := by decide +kernel
theorem dX6_fault_51 : decode cX6_fault 51 = .ok (.goto 10, 3) := by decide +kernel
theorem dX6_fault_54 : decode cX6_fault 54 = .ok (.aload_n 0, 1) := by decide +kernel
theorem dX6_fault_55 : decode cX6_fault 55 = .ok (.getfield 29, 3) := by decide +kernel
theorem dX6_fault_58 : decode cX6_fault 58 = .ok (.getfield 192, 3) := by decide +kernel
theorem dX6_fault_61 : decode cX6_fault 61 = .ok (.ireturn, 1) := by decide +kernel
set_option maxRecDepth 20000 in
theorem ggX6_enter_X2_targetsIn : GoodIn wsX6_enter wsX2_targetsIn := goodIn_r _ [12, 13, 14, 133, 134, 135, 136, 137, 138, 139, 140, 141, 142, 143, 144, 145, 146, 147, 148, 149, 150, 151, 152, 153, 154, 155, 156, 157] (by decide +kernel) (by decide +kernel)
set_option maxRecDepth 20000 in
theorem gX6_enter_X2_targetsIn : GoodIn wsX6_enter (wsV RX6 73 RX2 yX2_targetsIn wsX2_targetsIn) := goodIn_app (goodIn_of _ (by decide +kernel)) ggX6_enter_X2_targetsIn
set_option maxRecDepth 20000 in
theorem ggX6_enter_X4_check : GoodIn wsX6_enter wsX4_check := goodIn_r _ [19, 20, 21, 22, 23, 24, 25, 26, 18, 27, 28, 29, 30, 31, 32, 33, 34, 35, 36, 37, 38, 39, 40, 41, 42, 43, 44, 45, 46, 47, 48, 49, 50, 51, 52, 127, 128, 129, 130, 131, 132] (by decide +kernel) (by decide +kernel)
set_option maxRecDepth 20000 in
theorem gX6_enter_X4_check : GoodIn wsX6_enter (wsV RX6 189 RX4 yX4_check wsX4_check) := goodIn_app (goodIn_of _ (by decide +kernel)) ggX6_enter_X4_check
set_option maxRecDepth 20000 in
theorem ggX6_enter_X1_record : GoodIn wsX6_enter wsX1_record := goodIn_r _ [57, 58, 59, 60, 61, 62, 56, 63, 64, 65, 66, 11, 67, 68, 69, 70, 71, 72, 73, 74, 75, 76, 77, 78, 13, 79, 80, 81, 82, 83, 84, 85, 86, 87, 88, 89, 90, 91, 92, 93, 94, 95, 96, 97, 98, 99, 100, 101, 102, 103, 104, 105, 106, 107, 108, 109, 158, 159, 133, 134, 135, 136, 137, 138, 139, 140, 141, 142, 143, 160, 161, 162, 163, 164, 165, 166, 167, 168, 169, 144, 145, 146, 147, 148, 149, 150, 151, 152, 153, 154, 155, 156, 157] (by decide +kernel) (by decide +kernel)
set_option maxRecDepth 20000 in
theorem gX6_enter_X1_record : GoodIn wsX6_enter (wsV RX6 42 RX1 yX1_record wsX1_record) := goodIn_app (goodIn_of _ (by decide +kernel)) ggX6_enter_X1_record
set_option maxRecDepth 20000 in
theorem ggX6_enter_X4_readTarget : GoodIn wsX6_enter wsX4_readTarget := goodIn_r _ [27, 28, 29, 30, 31, 18, 32, 33, 34, 35, 36, 22, 37, 38, 39, 40, 127, 128, 129, 130, 131, 132] (by decide +kernel) (by decide +kernel)
set_option maxRecDepth 20000 in
theorem gX6_enter_X4_readTarget : GoodIn wsX6_enter (wsV RX6 204 RX4 yX4_readTarget wsX4_readTarget) := goodIn_app (goodIn_of _ (by decide +kernel)) ggX6_enter_X4_readTarget
set_option maxRecDepth 20000 in
theorem ggX6_enter_X2_append : GoodIn wsX6_enter wsX2_append := goodIn_r _ [114, 13, 115, 116, 117, 118, 119, 120, 14, 121, 122, 9, 10, 11, 12, 133, 134, 135, 136, 137, 138, 139, 140, 141, 142, 143, 144, 145, 146, 147, 148, 149, 150, 151, 152, 153, 154, 155, 156, 157] (by decide +kernel) (by decide +kernel)
set_option maxRecDepth 20000 in
theorem gX6_enter_X2_append : GoodIn wsX6_enter (wsV RX6 147 RX2 yX2_append wsX2_append) := goodIn_app (goodIn_of _ (by decide +kernel)) ggX6_enter_X2_append
theorem dX6_enter_0 : decode cX6_enter 0 = .ok (.aload_n 0, 1) := by decide +kernel
theorem dX6_enter_1 : decode cX6_enter 1 = .ok (.getfield 29, 3) := by decide +kernel
theorem dX6_enter_4 : decode cX6_enter 4 = .ok (.aload_n 0, 1) := by decide +kernel
theorem dX6_enter_5 : decode cX6_enter 5 = .ok (.getfield 10, 3) := by decide +kernel
theorem dX6_enter_8 : decode cX6_enter 8 = .ok (.iconst 4, 1) := by decide +kernel
theorem dX6_enter_9 : decode cX6_enter 9 = .ok (.invokevirtual 73, 3) := by decide +kernel
theorem dX6_enter_12 : decode cX6_enter 12 = .ok (.invokevirtual 189, 3) := by decide +kernel
theorem dX6_enter_15 : decode cX6_enter 15 = .ok (.aload_n 0, 1) := by decide +kernel
theorem dX6_enter_16 : decode cX6_enter 16 = .ok (.getfield 29, 3) := by decide +kernel
theorem dX6_enter_19 : decode cX6_enter 19 = .ok (.getfield 192, 3) := by decide +kernel
theorem dX6_enter_22 : decode cX6_enter 22 = .ok (.ifCond .eq 6, 3) := by decide +kernel
theorem dX6_enter_25 : decode cX6_enter 25 = .ok (.ldc 69, 2) := by decide +kernel
theorem dX6_enter_27 : decode cX6_enter 27 = .ok (.ireturn, 1) := by decide +kernel
theorem dX6_enter_28 : decode cX6_enter 28 = .ok (.aload_n 0, 1) := by decide +kernel
theorem dX6_enter_29 : decode cX6_enter 29 = .ok (.getfield 22, 3) := by decide +kernel
theorem dX6_enter_32 : decode cX6_enter 32 = .ok (.aload_n 0, 1) := by decide +kernel
theorem dX6_enter_33 : decode cX6_enter 33 = .ok (.getfield 10, 3) := by decide +kernel
theorem dX6_enter_36 : decode cX6_enter 36 = .ok (.invokevirtual 42, 3) := by decide +kernel
theorem dX6_enter_39 : decode cX6_enter 39 = .ok (.aload_n 0, 1) := by decide +kernel
theorem dX6_enter_40 : decode cX6_enter 40 = .ok (.getfield 29, 3) := by decide +kernel
theorem dX6_enter_43 : decode cX6_enter 43 = .ok (.getfield 198, 3) := by decide +kernel
theorem dX6_enter_46 : decode cX6_enter 46 = .ok (.astore_n 1, 1) := by decide +kernel
theorem dX6_enter_47 : decode cX6_enter 47 = .ok (.iconst 0, 1) := by decide +kernel
theorem dX6_enter_48 : decode cX6_enter 48 = .ok (.istore_n 2, 1) := by decide +kernel
theorem dX6_enter_49 : decode cX6_enter 49 = .ok (.iconst 0, 1) := by decide +kernel
theorem dX6_enter_50 : decode cX6_enter 50 = .ok (.istore_n 3, 1) := by decide +kernel
theorem dX6_enter_51 : decode cX6_enter 51 = .ok (.iload_n 3, 1) := by decide +kernel
theorem dX6_enter_52 : decode cX6_enter 52 = .ok (.aload_n 0, 1) := by decide +kernel
theorem dX6_enter_53 : decode cX6_enter 53 = .ok (.getfield 29, 3) := by decide +kernel
theorem dX6_enter_56 : decode cX6_enter 56 = .ok (.getfield 201, 3) := by decide +kernel
theorem dX6_enter_59 : decode cX6_enter 59 = .ok (.if_icmp .ge 44, 3) := by decide +kernel
theorem dX6_enter_62 : decode cX6_enter 62 = .ok (.aload_n 0, 1) := by decide +kernel
theorem dX6_enter_63 : decode cX6_enter 63 = .ok (.getfield 29, 3) := by decide +kernel
theorem dX6_enter_66 : decode cX6_enter 66 = .ok (.iload_n 2, 1) := by decide +kernel
theorem dX6_enter_67 : decode cX6_enter 67 = .ok (.invokevirtual 204, 3) := by decide +kernel
theorem dX6_enter_70 : decode cX6_enter 70 = .ok (.istore_n 2, 1) := by decide +kernel
theorem dX6_enter_71 : decode cX6_enter 71 = .ok (.aload_n 0, 1) := by decide +kernel
theorem dX6_enter_72 : decode cX6_enter 72 = .ok (.getfield 10, 3) := by decide +kernel
theorem dX6_enter_75 : decode cX6_enter 75 = .ok (.aload_n 1, 1) := by decide +kernel
theorem dX6_enter_76 : decode cX6_enter 76 = .ok (.iconst 0, 1) := by decide +kernel
theorem dX6_enter_77 : decode cX6_enter 77 = .ok (.iaload, 1) := by decide +kernel
theorem dX6_enter_78 : decode cX6_enter 78 = .ok (.aload_n 1, 1) := by decide +kernel
theorem dX6_enter_79 : decode cX6_enter 79 = .ok (.iconst 1, 1) := by decide +kernel
theorem dX6_enter_80 : decode cX6_enter 80 = .ok (.iaload, 1) := by decide +kernel
theorem dX6_enter_81 : decode cX6_enter 81 = .ok (.aload_n 1, 1) := by decide +kernel
theorem dX6_enter_82 : decode cX6_enter 82 = .ok (.iconst 2, 1) := by decide +kernel
theorem dX6_enter_83 : decode cX6_enter 83 = .ok (.iaload, 1) := by decide +kernel
theorem dX6_enter_84 : decode cX6_enter 84 = .ok (.aload_n 1, 1) := by decide +kernel
theorem dX6_enter_85 : decode cX6_enter 85 = .ok (.iconst 3, 1) := by decide +kernel
theorem dX6_enter_86 : decode cX6_enter 86 = .ok (.iaload, 1) := by decide +kernel
theorem dX6_enter_87 : decode cX6_enter 87 = .ok (.aload_n 1, 1) := by decide +kernel
theorem dX6_enter_88 : decode cX6_enter 88 = .ok (.iconst 4, 1) := by decide +kernel
theorem dX6_enter_89 : decode cX6_enter 89 = .ok (.iaload, 1) := by decide +kernel
theorem dX6_enter_90 : decode cX6_enter 90 = .ok (.aload_n 1, 1) := by decide +kernel
theorem dX6_enter_91 : decode cX6_enter 91 = .ok (.iconst 5, 1) := by decide +kernel
theorem dX6_enter_92 : decode cX6_enter 92 = .ok (.iaload, 1) := by decide +kernel
theorem dX6_enter_93 : decode cX6_enter 93 = .ok (.invokevirtual 147, 3) := by decide +kernel
theorem dX6_enter_96 : decode cX6_enter 96 = .ok (.pop, 1) := by decide +kernel
theorem dX6_enter_97 : decode cX6_enter 97 = .ok (.iinc 3 1, 3) := by decide +kernel
theorem dX6_enter_100 : decode cX6_enter 100 = .ok (.goto (-49), 3) := by decide +kernel
theorem dX6_enter_103 : decode cX6_enter 103 = .ok (.aload_n 0, 1) := by decide +kernel
theorem dX6_enter_104 : decode cX6_enter 104 = .ok (.getfield 29, 3) := by decide +kernel
theorem dX6_enter_107 : decode cX6_enter 107 = .ok (.getfield 201, 3) := by decide +kernel
theorem dX6_enter_110 : decode cX6_enter 110 = .ok (.ireturn, 1) := by decide +kernel
theorem dX6_isBetween_0 : decode cX6_isBetween 0 = .ok (.iload_n 0, 1) := by decide +kernel
theorem dX6_isBetween_1 : decode cX6_isBetween 1 = .ok (.iload_n 1, 1) := by decide +kernel
theorem dX6_isBetween_2 : decode cX6_isBetween 2 = .ok (.if_icmp .lt 12, 3) := by decide +kernel
theorem dX6_isBetween_5 : decode cX6_isBetween 5 = .ok (.iload_n 0, 1) := by decide +kernel
theorem dX6_isBetween_6 : decode cX6_isBetween 6 = .ok (.iload_n 2, 1) := by decide +kernel
theorem dX6_isBetween_7 : decode cX6_isBetween 7 = .ok (.if_icmp .gt 7, 3) := by decide +kernel
theorem dX6_isBetween_10 : decode cX6_isBetween 10 = .ok (.iconst 1, 1) := by decide +kernel
theorem dX6_isBetween_11 : decode cX6_isBetween 11 = .ok (.goto 4, 3) := by decide +kernel
theorem dX6_isBetween_14 : decode cX6_isBetween 14 = .ok (.iconst 0, 1) := by decide +kernel
theorem dX6_isBetween_15 : decode cX6_isBetween 15 = .ok (.ireturn, 1) := by decide +kernel
theorem dX6_foundTarget_0 : decode cX6_foundTarget 0 = .ok (.iload_n 0, 1) := by decide +kernel
theorem dX6_foundTarget_1 : decode cX6_foundTarget 1 = .ok (.iconst (-1), 1) := by decide +kernel
theorem dX6_foundTarget_2 : decode cX6_foundTarget 2 = .ok (.if_icmp .ne 8, 3) := by decide +kernel
theorem dX6_foundTarget_5 : decode cX6_foundTarget 5 = .ok (.ldc 116, 2) := by decide +kernel
theorem dX6_foundTarget_7 : decode cX6_foundTarget 7 = .ok (.goto 4, 3) := by decide +kernel
theorem dX6_foundTarget_10 : decode cX6_foundTarget 10 = .ok (.iload_n 0, 1) := by decide +kernel
theorem dX6_foundTarget_11 : decode cX6_foundTarget 11 = .ok (.ireturn, 1) := by decide +kernel
set_option maxRecDepth 20000 in
theorem ggX6_isTargetInRange_X6_isBetween : GoodIn wsX6_isTargetInRange wsX6_isBetween := goodIn_r _ [6] (by decide +kernel) (by decide +kernel)
set_option maxRecDepth 20000 in
theorem gX6_isTargetInRange_X6_isBetween : GoodIn wsX6_isTargetInRange (va_wsS RX6 37 yX6_isBetween wsX6_isBetween) := goodIn_app (goodIn_of _ (by decide +kernel)) ggX6_isTargetInRange_X6_isBetween
theorem dX6_isTargetInRange_0 : decode cX6_isTargetInRange 0 = .ok (.iload_n 0, 1) := by decide +kernel
theorem dX6_isTargetInRange_1 : decode cX6_isTargetInRange 1 = .ok (.iconst 0, 1) := by decide +kernel
theorem dX6_isTargetInRange_2 : decode cX6_isTargetInRange 2 = .ok (.ldc 104, 2) := by decide +kernel
theorem dX6_isTargetInRange_4 : decode cX6_isTargetInRange 4 = .ok (.invokestatic 37, 3) := by decide +kernel
theorem dX6_isTargetInRange_7 : decode cX6_isTargetInRange 7 = .ok (.ifCond .eq 68, 3) := by decide +kernel
theorem dX6_isTargetInRange_10 : decode cX6_isTargetInRange 10 = .ok (.iload_n 1, 1) := by decide +kernel
theorem dX6_isTargetInRange_11 : decode cX6_isTargetInRange 11 = .ok (.sipush 500, 3) := by decide +kernel
theorem dX6_isTargetInRange_14 : decode cX6_isTargetInRange 14 = .ok (.sipush 8500, 3) := by decide +kernel
theorem dX6_isTargetInRange_17 : decode cX6_isTargetInRange 17 = .ok (.invokestatic 37, 3) := by decide +kernel
theorem dX6_isTargetInRange_20 : decode cX6_isTargetInRange 20 = .ok (.ifCond .eq 55, 3) := by decide +kernel
theorem dX6_isTargetInRange_23 : decode cX6_isTargetInRange 23 = .ok (.iload_n 2, 1) := by decide +kernel
theorem dX6_isTargetInRange_24 : decode cX6_isTargetInRange 24 = .ok (.iconst 0, 1) := by decide +kernel
theorem dX6_isTargetInRange_25 : decode cX6_isTargetInRange 25 = .ok (.ldc 176, 2) := by decide +kernel
theorem dX6_isTargetInRange_27 : decode cX6_isTargetInRange 27 = .ok (.invokestatic 37, 3) := by decide +kernel
theorem dX6_isTargetInRange_30 : decode cX6_isTargetInRange 30 = .ok (.ifCond .eq 45, 3) := by decide +kernel
theorem dX6_isTargetInRange_33 : decode cX6_isTargetInRange 33 = .ok (.iload_n 3, 1) := by decide +kernel
theorem dX6_isTargetInRange_34 : decode cX6_isTargetInRange 34 = .ok (.iconst 0, 1) := by decide +kernel
theorem dX6_isTargetInRange_35 : decode cX6_isTargetInRange 35 = .ok (.ldc 176, 2) := by decide +kernel
theorem dX6_isTargetInRange_37 : decode cX6_isTargetInRange 37 = .ok (.invokestatic 37, 3) := by decide +kernel
theorem dX6_isTargetInRange_40 : decode cX6_isTargetInRange 40 = .ok (.ifCond .eq 35, 3) := by decide +kernel
theorem dX6_isTargetInRange_43 : decode cX6_isTargetInRange 43 = .ok (.iload_n 2, 1) := by decide +kernel
theorem dX6_isTargetInRange_44 : decode cX6_isTargetInRange 44 = .ok (.iload_n 3, 1) := by decide +kernel
theorem dX6_isTargetInRange_45 : decode cX6_isTargetInRange 45 = .ok (.if_icmp .ge 30, 3) := by decide +kernel
theorem dX6_isTargetInRange_48 : decode cX6_isTargetInRange 48 = .ok (.iload 4, 2) := by decide +kernel
theorem dX6_isTargetInRange_50 : decode cX6_isTargetInRange 50 = .ok (.iconst 1, 1) := by decide +kernel
theorem dX6_isTargetInRange_51 : decode cX6_isTargetInRange 51 = .ok (.sipush 600, 3) := by decide +kernel
theorem dX6_isTargetInRange_54 : decode cX6_isTargetInRange 54 = .ok (.invokestatic 37, 3) := by decide +kernel
theorem dX6_isTargetInRange_57 : decode cX6_isTargetInRange 57 = .ok (.ifCond .eq 18, 3) := by decide +kernel
theorem dX6_isTargetInRange_60 : decode cX6_isTargetInRange 60 = .ok (.iload 5, 2) := by decide +kernel
theorem dX6_isTargetInRange_62 : decode cX6_isTargetInRange 62 = .ok (.iconst 0, 1) := by decide +kernel
theorem dX6_isTargetInRange_63 : decode cX6_isTargetInRange 63 = .ok (.bipush 9, 2) := by decide +kernel
theorem dX6_isTargetInRange_65 : decode cX6_isTargetInRange 65 = .ok (.invokestatic 37, 3) := by decide +kernel
theorem dX6_isTargetInRange_68 : decode cX6_isTargetInRange 68 = .ok (.ifCond .eq 7, 3) := by decide +kernel
theorem dX6_isTargetInRange_71 : decode cX6_isTargetInRange 71 = .ok (.iconst 1, 1) := by decide +kernel
theorem dX6_isTargetInRange_72 : decode cX6_isTargetInRange 72 = .ok (.goto 4, 3) := by decide +kernel
theorem dX6_isTargetInRange_75 : decode cX6_isTargetInRange 75 = .ok (.iconst 0, 1) := by decide +kernel
theorem dX6_isTargetInRange_76 : decode cX6_isTargetInRange 76 = .ok (.ireturn, 1) := by decide +kernel
end
section
theorem dX7_init_0 : decode cX7_init 0 = .ok (.aload_n 0, 1) := by decide +kernel
theorem dX7_init_1 : decode cX7_init 1 = .ok (.invokespecial 1, 3) := by decide +kernel
theorem dX7_init_4 : decode cX7_init 4 = .ok (.aload_n 0, 1) := by decide +kernel
theorem dX7_init_5 : decode cX7_init 5 = .ok (.sipush 193, 3) := by decide +kernel
theorem dX7_init_8 : decode cX7_init 8 = .ok (.newarray .int, 2) := by decide +kernel
theorem dX7_init_10 : decode cX7_init 10 = .ok (.putfield 7, 3) := by decide +kernel
theorem dX7_init_13 : decode cX7_init 13 = .ok (.aload_n 0, 1) := by decide +kernel
theorem dX7_init_14 : decode cX7_init 14 = .ok (.sipush 965, 3) := by decide +kernel
theorem dX7_init_17 : decode cX7_init 17 = .ok (.newarray .int, 2) := by decide +kernel
theorem dX7_init_19 : decode cX7_init 19 = .ok (.putfield 13, 3) := by decide +kernel
theorem dX7_init_22 : decode cX7_init 22 = .ok (.aload_n 0, 1) := by decide +kernel
theorem dX7_init_23 : decode cX7_init 23 = .ok (.sipush 193, 3) := by decide +kernel
theorem dX7_init_26 : decode cX7_init 26 = .ok (.newarray .int, 2) := by decide +kernel
theorem dX7_init_28 : decode cX7_init 28 = .ok (.putfield 16, 3) := by decide +kernel
theorem dX7_init_31 : decode cX7_init 31 = .ok (.aload_n 0, 1) := by decide +kernel
theorem dX7_init_32 : decode cX7_init 32 = .ok (.bipush 100, 2) := by decide +kernel
theorem dX7_init_34 : decode cX7_init 34 = .ok (.newarray .int, 2) := by decide +kernel
theorem dX7_init_36 : decode cX7_init 36 = .ok (.putfield 19, 3) := by decide +kernel
theorem dX7_init_39 : decode cX7_init 39 = .ok (.aload_n 0, 1) := by decide +kernel
theorem dX7_init_40 : decode cX7_init 40 = .ok (.bipush 6, 2) := by decide +kernel
theorem dX7_init_42 : decode cX7_init 42 = .ok (.newarray .int, 2) := by decide +kernel
theorem dX7_init_44 : decode cX7_init 44 = .ok (.putfield 22, 3) := by decide +kernel
theorem dX7_init_47 : decode cX7_init 47 = .ok (.aload_n 0, 1) := by decide +kernel
theorem dX7_init_48 : decode cX7_init 48 = .ok (.getfield 7, 3) := by decide +kernel
theorem dX7_init_51 : decode cX7_init 51 = .ok (.iconst 0, 1) := by decide +kernel
theorem dX7_init_52 : decode cX7_init 52 = .ok (.bipush 100, 2) := by decide +kernel
theorem dX7_init_54 : decode cX7_init 54 = .ok (.iastore, 1) := by decide +kernel
theorem dX7_init_55 : decode cX7_init 55 = .ok (.aload_n 0, 1) := by decide +kernel
theorem dX7_init_56 : decode cX7_init 56 = .ok (.getfield 7, 3) := by decide +kernel
theorem dX7_init_59 : decode cX7_init 59 = .ok (.iconst 1, 1) := by decide +kernel
theorem dX7_init_60 : decode cX7_init 60 = .ok (.sipush 18000, 3) := by decide +kernel
theorem dX7_init_63 : decode cX7_init 63 = .ok (.iastore, 1) := by decide +kernel
theorem dX7_init_64 : decode cX7_init 64 = .ok (.aload_n 0, 1) := by decide +kernel
theorem dX7_init_65 : decode cX7_init 65 = .ok (.getfield 7, 3) := by decide +kernel
theorem dX7_init_68 : decode cX7_init 68 = .ok (.iconst 2, 1) := by decide +kernel
theorem dX7_init_69 : decode cX7_init 69 = .ok (.bipush 30, 2) := by decide +kernel
theorem dX7_init_71 : decode cX7_init 71 = .ok (.iastore, 1) := by decide +kernel
theorem dX7_init_72 : decode cX7_init 72 = .ok (.aload_n 0, 1) := by decide +kernel
theorem dX7_init_73 : decode cX7_init 73 = .ok (.getfield 7, 3) := by decide +kernel
theorem dX7_init_76 : decode cX7_init 76 = .ok (.iconst 3, 1) := by decide +kernel
theorem dX7_init_77 : decode cX7_init 77 = .ok (.bipush 60, 2) := by decide +kernel
theorem dX7_init_79 : decode cX7_init 79 = .ok (.iastore, 1) := by decide +kernel
theorem dX7_init_80 : decode cX7_init 80 = .ok (.aload_n 0, 1) := by decide +kernel
theorem dX7_init_81 : decode cX7_init 81 = .ok (.getfield 7, 3) := by decide +kernel
theorem dX7_init_84 : decode cX7_init 84 = .ok (.bipush 39, 2) := by decide +kernel
theorem dX7_init_86 : decode cX7_init 86 = .ok (.bipush 40, 2) := by decide +kernel
theorem dX7_init_88 : decode cX7_init 88 = .ok (.iastore, 1) := by decide +kernel
theorem dX7_init_89 : decode cX7_init 89 = .ok (.aload_n 0, 1) := by decide +kernel
theorem dX7_init_90 : decode cX7_init 90 = .ok (.getfield 7, 3) := by decide +kernel
theorem dX7_init_93 : decode cX7_init 93 = .ok (.bipush 41, 2) := by decide +kernel
theorem dX7_init_95 : decode cX7_init 95 = .ok (.sipush 600, 3) := by decide +kernel
theorem dX7_init_98 : decode cX7_init 98 = .ok (.iastore, 1) := by decide +kernel
theorem dX7_init_99 : decode cX7_init 99 = .ok (.aload_n 0, 1) := by decide +kernel
theorem dX7_init_100 : decode cX7_init 100 = .ok (.getfield 7, 3) := by decide +kernel
theorem dX7_init_103 : decode cX7_init 103 = .ok (.bipush 46, 2) := by decide +kernel
theorem dX7_init_105 : decode cX7_init 105 = .ok (.bipush 20, 2) := by decide +kernel
theorem dX7_init_107 : decode cX7_init 107 = .ok (.iastore, 1) := by decide +kernel
theorem dX7_init_108 : decode cX7_init 108 = .ok (.aload_n 0, 1) := by decide +kernel
theorem dX7_init_109 : decode cX7_init 109 = .ok (.getfield 7, 3) := by decide +kernel
theorem dX7_init_112 : decode cX7_init 112 = .ok (.bipush 48, 2) := by decide +kernel
theorem dX7_init_114 : decode cX7_init 114 = .ok (.sipush 300, 3) := by decide +kernel
theorem dX7_init_117 : decode cX7_init 117 = .ok (.iastore, 1) := by decide +kernel
theorem dX7_init_118 : decode cX7_init 118 = .ok (.aload_n 0, 1) := by decide +kernel
theorem dX7_init_119 : decode cX7_init 119 = .ok (.getfield 7, 3) := by decide +kernel
theorem dX7_init_122 : decode cX7_init 122 = .ok (.bipush 49, 2) := by decide +kernel
theorem dX7_init_124 : decode cX7_init 124 = .ok (.sipush 9000, 3) := by decide +kernel
theorem dX7_init_127 : decode cX7_init 127 = .ok (.iastore, 1) := by decide +kernel
theorem dX7_init_128 : decode cX7_init 128 = .ok (.return_, 1) := by decide +kernel
theorem dX7_in_0 : decode cX7_in 0 = .ok (.iload_n 0, 1) := by decide +kernel
theorem dX7_in_1 : decode cX7_in 1 = .ok (.iload_n 1, 1) := by decide +kernel
theorem dX7_in_2 : decode cX7_in 2 = .ok (.if_icmp .lt 12, 3) := by decide +kernel
theorem dX7_in_5 : decode cX7_in 5 = .ok (.iload_n 0, 1) := by decide +kernel
theorem dX7_in_6 : decode cX7_in 6 = .ok (.iload_n 2, 1) := by decide +kernel
theorem dX7_in_7 : decode cX7_in 7 = .ok (.if_icmp .gt 7, 3) := by decide +kernel
theorem dX7_in_10 : decode cX7_in 10 = .ok (.iconst 1, 1) := by decide +kernel
theorem dX7_in_11 : decode cX7_in 11 = .ok (.goto 4, 3) := by decide +kernel
theorem dX7_in_14 : decode cX7_in 14 = .ok (.iconst 0, 1) := by decide +kernel
theorem dX7_in_15 : decode cX7_in 15 = .ok (.ireturn, 1) := by decide +kernel
theorem dX7_copies_0 : decode cX7_copies 0 = .ok (.iconst 0, 1) := by decide +kernel
theorem dX7_copies_1 : decode cX7_copies 1 = .ok (.istore_n 3, 1) := by decide +kernel
theorem dX7_copies_2 : decode cX7_copies 2 = .ok (.iload_n 3, 1) := by decide +kernel
theorem dX7_copies_3 : decode cX7_copies 3 = .ok (.sipush 193, 3) := by decide +kernel
theorem dX7_copies_6 : decode cX7_copies 6 = .ok (.if_icmp .ge 15, 3) := by decide +kernel
theorem dX7_copies_9 : decode cX7_copies 9 = .ok (.aload_n 1, 1) := by decide +kernel
theorem dX7_copies_10 : decode cX7_copies 10 = .ok (.iload_n 3, 1) := by decide +kernel
theorem dX7_copies_11 : decode cX7_copies 11 = .ok (.aload_n 2, 1) := by decide +kernel
theorem dX7_copies_12 : decode cX7_copies 12 = .ok (.iload_n 3, 1) := by decide +kernel
theorem dX7_copies_13 : decode cX7_copies 13 = .ok (.iaload, 1) := by decide +kernel
theorem dX7_copies_14 : decode cX7_copies 14 = .ok (.iastore, 1) := by decide +kernel
theorem dX7_copies_15 : decode cX7_copies 15 = .ok (.iinc 3 1, 3) := by decide +kernel
theorem dX7_copies_18 : decode cX7_copies 18 = .ok (.goto (-16), 3) := by decide +kernel
theorem dX7_copies_21 : decode cX7_copies 21 = .ok (.return_, 1) := by decide +kernel
theorem dX7_records_0 : decode cX7_records 0 = .ok (.aload_n 0, 1) := by decide +kernel
theorem dX7_records_1 : decode cX7_records 1 = .ok (.getfield 25, 3) := by decide +kernel
theorem dX7_records_4 : decode cX7_records 4 = .ok (.iconst 5, 1) := by decide +kernel
theorem dX7_records_5 : decode cX7_records 5 = .ok (.if_icmp .ne 44, 3) := by decide +kernel
theorem dX7_records_8 : decode cX7_records 8 = .ok (.iconst 0, 1) := by decide +kernel
theorem dX7_records_9 : decode cX7_records 9 = .ok (.istore_n 1, 1) := by decide +kernel
theorem dX7_records_10 : decode cX7_records 10 = .ok (.iload_n 1, 1) := by decide +kernel
theorem dX7_records_11 : decode cX7_records 11 = .ok (.sipush 772, 3) := by decide +kernel
theorem dX7_records_14 : decode cX7_records 14 = .ok (.if_icmp .ge 25, 3) := by decide +kernel
theorem dX7_records_17 : decode cX7_records 17 = .ok (.aload_n 0, 1) := by decide +kernel
theorem dX7_records_18 : decode cX7_records 18 = .ok (.getfield 13, 3) := by decide +kernel
theorem dX7_records_21 : decode cX7_records 21 = .ok (.iload_n 1, 1) := by decide +kernel
theorem dX7_records_22 : decode cX7_records 22 = .ok (.aload_n 0, 1) := by decide +kernel
theorem dX7_records_23 : decode cX7_records 23 = .ok (.getfield 13, 3) := by decide +kernel
theorem dX7_records_26 : decode cX7_records 26 = .ok (.iload_n 1, 1) := by decide +kernel
theorem dX7_records_27 : decode cX7_records 27 = .ok (.sipush 193, 3) := by decide +kernel
theorem dX7_records_30 : decode cX7_records 30 = .ok (.iadd, 1) := by decide +kernel
theorem dX7_records_31 : decode cX7_records 31 = .ok (.iaload, 1) := by decide +kernel
theorem dX7_records_32 : decode cX7_records 32 = .ok (.iastore, 1) := by decide +kernel
theorem dX7_records_33 : decode cX7_records 33 = .ok (.iinc 1 1, 3) := by decide +kernel
theorem dX7_records_36 : decode cX7_records 36 = .ok (.goto (-26), 3) := by decide +kernel
theorem dX7_records_39 : decode cX7_records 39 = .ok (.aload_n 0, 1) := by decide +kernel
theorem dX7_records_40 : decode cX7_records 40 = .ok (.dup, 1) := by decide +kernel
theorem dX7_records_41 : decode cX7_records 41 = .ok (.getfield 25, 3) := by decide +kernel
theorem dX7_records_44 : decode cX7_records 44 = .ok (.iconst 1, 1) := by decide +kernel
theorem dX7_records_45 : decode cX7_records 45 = .ok (.isub, 1) := by decide +kernel
theorem dX7_records_46 : decode cX7_records 46 = .ok (.putfield 25, 3) := by decide +kernel
theorem dX7_records_49 : decode cX7_records 49 = .ok (.iconst 0, 1) := by decide +kernel
theorem dX7_records_50 : decode cX7_records 50 = .ok (.istore_n 1, 1) := by decide +kernel
theorem dX7_records_51 : decode cX7_records 51 = .ok (.iload_n 1, 1) := by decide +kernel
theorem dX7_records_52 : decode cX7_records 52 = .ok (.sipush 193, 3) := by decide +kernel
theorem dX7_records_55 : decode cX7_records 55 = .ok (.if_icmp .ge 30, 3) := by decide +kernel
theorem dX7_records_58 : decode cX7_records 58 = .ok (.aload_n 0, 1) := by decide +kernel
theorem dX7_records_59 : decode cX7_records 59 = .ok (.getfield 13, 3) := by decide +kernel
theorem dX7_records_62 : decode cX7_records 62 = .ok (.sipush 193, 3) := by decide +kernel
theorem dX7_records_65 : decode cX7_records 65 = .ok (.aload_n 0, 1) := by decide +kernel
theorem dX7_records_66 : decode cX7_records 66 = .ok (.getfield 25, 3) := by decide +kernel
theorem dX7_records_69 : decode cX7_records 69 = .ok (.imul, 1) := by decide +kernel
theorem dX7_records_70 : decode cX7_records 70 = .ok (.iload_n 1, 1) := by decide +kernel
theorem dX7_records_71 : decode cX7_records 71 = .ok (.iadd, 1) := by decide +kernel
theorem dX7_records_72 : decode cX7_records 72 = .ok (.aload_n 0, 1) := by decide +kernel
theorem dX7_records_73 : decode cX7_records 73 = .ok (.getfield 7, 3) := by decide +kernel
theorem dX7_records_76 : decode cX7_records 76 = .ok (.iload_n 1, 1) := by decide +kernel
theorem dX7_records_77 : decode cX7_records 77 = .ok (.iaload, 1) := by decide +kernel
theorem dX7_records_78 : decode cX7_records 78 = .ok (.iastore, 1) := by decide +kernel
theorem dX7_records_79 : decode cX7_records 79 = .ok (.iinc 1 1, 3) := by decide +kernel
theorem dX7_records_82 : decode cX7_records 82 = .ok (.goto (-31), 3) := by decide +kernel
theorem dX7_records_85 : decode cX7_records 85 = .ok (.aload_n 0, 1) := by decide +kernel
theorem dX7_records_86 : decode cX7_records 86 = .ok (.dup, 1) := by decide +kernel
theorem dX7_records_87 : decode cX7_records 87 = .ok (.getfield 25, 3) := by decide +kernel
theorem dX7_records_90 : decode cX7_records 90 = .ok (.iconst 1, 1) := by decide +kernel
theorem dX7_records_91 : decode cX7_records 91 = .ok (.iadd, 1) := by decide +kernel
theorem dX7_records_92 : decode cX7_records 92 = .ok (.putfield 25, 3) := by decide +kernel
theorem dX7_records_95 : decode cX7_records 95 = .ok (.return_, 1) := by decide +kernel
theorem dX7_ofAxis_0 : decode cX7_ofAxis 0 = .ok (.aload_n 0, 1) := by decide +kernel
theorem dX7_ofAxis_1 : decode cX7_ofAxis 1 = .ok (.getfield 7, 3) := by decide +kernel
theorem dX7_ofAxis_4 : decode cX7_ofAxis 4 = .ok (.bipush 39, 2) := by decide +kernel
theorem dX7_ofAxis_6 : decode cX7_ofAxis 6 = .ok (.bipush 7, 2) := by decide +kernel
theorem dX7_ofAxis_8 : decode cX7_ofAxis 8 = .ok (.iload_n 1, 1) := by decide +kernel
theorem dX7_ofAxis_9 : decode cX7_ofAxis 9 = .ok (.imul, 1) := by decide +kernel
theorem dX7_ofAxis_10 : decode cX7_ofAxis 10 = .ok (.iadd, 1) := by decide +kernel
theorem dX7_ofAxis_11 : decode cX7_ofAxis 11 = .ok (.iload_n 2, 1) := by decide +kernel
theorem dX7_ofAxis_12 : decode cX7_ofAxis 12 = .ok (.iadd, 1) := by decide +kernel
theorem dX7_ofAxis_13 : decode cX7_ofAxis 13 = .ok (.iaload, 1) := by decide +kernel
theorem dX7_ofAxis_14 : decode cX7_ofAxis 14 = .ok (.ireturn, 1) := by decide +kernel
theorem dX7_of_0 : decode cX7_of 0 = .ok (.aload_n 0, 1) := by decide +kernel
theorem dX7_of_1 : decode cX7_of 1 = .ok (.getfield 7, 3) := by decide +kernel
theorem dX7_of_4 : decode cX7_of 4 = .ok (.bipush 53, 2) := by decide +kernel
theorem dX7_of_6 : decode cX7_of 6 = .ok (.bipush 14, 2) := by decide +kernel
theorem dX7_of_8 : decode cX7_of 8 = .ok (.iload_n 1, 1) := by decide +kernel
theorem dX7_of_9 : decode cX7_of 9 = .ok (.imul, 1) := by decide +kernel
theorem dX7_of_10 : decode cX7_of 10 = .ok (.iadd, 1) := by decide +kernel
theorem dX7_of_11 : decode cX7_of 11 = .ok (.iload_n 2, 1) := by decide +kernel
theorem dX7_of_12 : decode cX7_of 12 = .ok (.iadd, 1) := by decide +kernel
theorem dX7_of_13 : decode cX7_of 13 = .ok (.iaload, 1) := by decide +kernel
theorem dX7_of_14 : decode cX7_of 14 = .ok (.ireturn, 1) := by decide +kernel
theorem dX7_puts_0 : decode cX7_puts 0 = .ok (.aload_n 0, 1) := by decide +kernel
theorem dX7_puts_1 : decode cX7_puts 1 = .ok (.getfield 7, 3) := by decide +kernel
theorem dX7_puts_4 : decode cX7_puts 4 = .ok (.bipush 53, 2) := by decide +kernel
theorem dX7_puts_6 : decode cX7_puts 6 = .ok (.bipush 14, 2) := by decide +kernel
theorem dX7_puts_8 : decode cX7_puts 8 = .ok (.iload_n 1, 1) := by decide +kernel
theorem dX7_puts_9 : decode cX7_puts 9 = .ok (.imul, 1) := by decide +kernel
theorem dX7_puts_10 : decode cX7_puts 10 = .ok (.iadd, 1) := by decide +kernel
theorem dX7_puts_11 : decode cX7_puts 11 = .ok (.iload_n 2, 1) := by decide +kernel
theorem dX7_puts_12 : decode cX7_puts 12 = .ok (.iadd, 1) := by decide +kernel
theorem dX7_puts_13 : decode cX7_puts 13 = .ok (.iload_n 3, 1) := by decide +kernel
theorem dX7_puts_14 : decode cX7_puts 14 = .ok (.iastore, 1) := by decide +kernel
theorem dX7_puts_15 : decode cX7_puts 15 = .ok (.return_, 1) := by decide +kernel
theorem dX7_isTarget_0 : decode cX7_isTarget 0 = .ok (.iload_n 1, 1) := by decide +kernel
theorem dX7_isTarget_1 : decode cX7_isTarget 1 = .ok (.ifCond .lt 18, 3) := by decide +kernel
theorem dX7_isTarget_4 : decode cX7_isTarget 4 = .ok (.iload_n 1, 1) := by decide +kernel
theorem dX7_isTarget_5 : decode cX7_isTarget 5 = .ok (.aload_n 0, 1) := by decide +kernel
theorem dX7_isTarget_6 : decode cX7_isTarget 6 = .ok (.getfield 7, 3) := by decide +kernel
theorem dX7_isTarget_9 : decode cX7_isTarget 9 = .ok (.bipush 7, 2) := by decide +kernel
theorem dX7_isTarget_11 : decode cX7_isTarget 11 = .ok (.iaload, 1) := by decide +kernel
theorem dX7_isTarget_12 : decode cX7_isTarget 12 = .ok (.if_icmp .ge 7, 3) := by decide +kernel
theorem dX7_isTarget_15 : decode cX7_isTarget 15 = .ok (.iconst 1, 1) := by decide +kernel
theorem dX7_isTarget_16 : decode cX7_isTarget 16 = .ok (.goto 4, 3) := by decide +kernel
theorem dX7_isTarget_19 : decode cX7_isTarget 19 = .ok (.iconst 0, 1) := by decide +kernel
theorem dX7_isTarget_20 : decode cX7_isTarget 20 = .ok (.ireturn, 1) := by decide +kernel
theorem dX7_day_0 : decode cX7_day 0 = .ok (.aload_n 0, 1) := by decide +kernel
theorem dX7_day_1 : decode cX7_day 1 = .ok (.getfield 7, 3) := by decide +kernel
theorem dX7_day_4 : decode cX7_day 4 = .ok (.iconst 4, 1) := by decide +kernel
theorem dX7_day_5 : decode cX7_day 5 = .ok (.iaload, 1) := by decide +kernel
theorem dX7_day_6 : decode cX7_day 6 = .ok (.sipush 1440, 3) := by decide +kernel
theorem dX7_day_9 : decode cX7_day 9 = .ok (.idiv, 1) := by decide +kernel
theorem dX7_day_10 : decode cX7_day 10 = .ok (.ireturn, 1) := by decide +kernel
set_option maxRecDepth 20000 in
theorem ggX7_gustNow_X7_day : GoodIn wsX7_gustNow wsX7_day := goodIn_r _ [6, 1, 7, 8, 9, 10, 11, 12, 13, 14, 15, 16, 17, 18] (by decide +kernel) (by decide +kernel)
set_option maxRecDepth 20000 in
theorem gX7_gustNow_X7_day : GoodIn wsX7_gustNow (wsV RX7 29 RX7 yX7_day wsX7_day) := goodIn_app (goodIn_of _ (by decide +kernel)) ggX7_gustNow_X7_day
theorem dX7_gustNow_0 : decode cX7_gustNow 0 = .ok (.aload_n 0, 1) := by decide +kernel
theorem dX7_gustNow_1 : decode cX7_gustNow 1 = .ok (.getfield 7, 3) := by decide +kernel
theorem dX7_gustNow_4 : decode cX7_gustNow 4 = .ok (.bipush 8, 2) := by decide +kernel
theorem dX7_gustNow_6 : decode cX7_gustNow 6 = .ok (.aload_n 0, 1) := by decide +kernel
theorem dX7_gustNow_7 : decode cX7_gustNow 7 = .ok (.invokevirtual 29, 3) := by decide +kernel
theorem dX7_gustNow_10 : decode cX7_gustNow 10 = .ok (.iadd, 1) := by decide +kernel
theorem dX7_gustNow_11 : decode cX7_gustNow 11 = .ok (.iaload, 1) := by decide +kernel
theorem dX7_gustNow_12 : decode cX7_gustNow 12 = .ok (.ireturn, 1) := by decide +kernel
set_option maxRecDepth 20000 in
theorem ggX7_kindOfDay_X7_gustNow : GoodIn wsX7_kindOfDay wsX7_gustNow := goodIn_r _ [6, 1, 7, 8, 9, 5, 10, 11, 12, 13, 14, 15, 16, 17, 18, 19, 20, 21, 22] (by decide +kernel) (by decide +kernel)
set_option maxRecDepth 20000 in
theorem gX7_kindOfDay_X7_gustNow : GoodIn wsX7_kindOfDay (wsV RX7 33 RX7 yX7_gustNow wsX7_gustNow) := goodIn_app (goodIn_of _ (by decide +kernel)) ggX7_kindOfDay_X7_gustNow
theorem dX7_kindOfDay_0 : decode cX7_kindOfDay 0 = .ok (.aload_n 0, 1) := by decide +kernel
theorem dX7_kindOfDay_1 : decode cX7_kindOfDay 1 = .ok (.invokevirtual 33, 3) := by decide +kernel
theorem dX7_kindOfDay_4 : decode cX7_kindOfDay 4 = .ok (.aload_n 0, 1) := by decide +kernel
theorem dX7_kindOfDay_5 : decode cX7_kindOfDay 5 = .ok (.getfield 7, 3) := by decide +kernel
theorem dX7_kindOfDay_8 : decode cX7_kindOfDay 8 = .ok (.iconst 3, 1) := by decide +kernel
theorem dX7_kindOfDay_9 : decode cX7_kindOfDay 9 = .ok (.iaload, 1) := by decide +kernel
theorem dX7_kindOfDay_10 : decode cX7_kindOfDay 10 = .ok (.if_icmp .lt 7, 3) := by decide +kernel
theorem dX7_kindOfDay_13 : decode cX7_kindOfDay 13 = .ok (.iconst 0, 1) := by decide +kernel
theorem dX7_kindOfDay_14 : decode cX7_kindOfDay 14 = .ok (.goto 21, 3) := by decide +kernel
theorem dX7_kindOfDay_17 : decode cX7_kindOfDay 17 = .ok (.aload_n 0, 1) := by decide +kernel
theorem dX7_kindOfDay_18 : decode cX7_kindOfDay 18 = .ok (.invokevirtual 33, 3) := by decide +kernel
theorem dX7_kindOfDay_21 : decode cX7_kindOfDay 21 = .ok (.aload_n 0, 1) := by decide +kernel
theorem dX7_kindOfDay_22 : decode cX7_kindOfDay 22 = .ok (.getfield 7, 3) := by decide +kernel
theorem dX7_kindOfDay_25 : decode cX7_kindOfDay 25 = .ok (.iconst 2, 1) := by decide +kernel
theorem dX7_kindOfDay_26 : decode cX7_kindOfDay 26 = .ok (.iaload, 1) := by decide +kernel
theorem dX7_kindOfDay_27 : decode cX7_kindOfDay 27 = .ok (.if_icmp .lt 7, 3) := by decide +kernel
theorem dX7_kindOfDay_30 : decode cX7_kindOfDay 30 = .ok (.iconst 1, 1) := by decide +kernel
theorem dX7_kindOfDay_31 : decode cX7_kindOfDay 31 = .ok (.goto 4, 3) := by decide +kernel
theorem dX7_kindOfDay_34 : decode cX7_kindOfDay 34 = .ok (.iconst 2, 1) := by decide +kernel
theorem dX7_kindOfDay_35 : decode cX7_kindOfDay 35 = .ok (.ireturn, 1) := by decide +kernel
set_option maxRecDepth 20000 in
theorem ggX7_stands_X7_ofAxis : GoodIn wsX7_stands wsX7_ofAxis := goodIn_r _ [5, 6, 7, 8, 9, 10, 11, 12, 13, 14, 15, 16, 17, 18] (by decide +kernel) (by decide +kernel)
set_option maxRecDepth 20000 in
theorem gX7_stands_X7_ofAxis : GoodIn wsX7_stands (wsV RX7 36 RX7 yX7_ofAxis wsX7_ofAxis) := goodIn_app (goodIn_of _ (by decide +kernel)) ggX7_stands_X7_ofAxis
theorem dX7_stands_0 : decode cX7_stands 0 = .ok (.aload_n 0, 1) := by decide +kernel
theorem dX7_stands_1 : decode cX7_stands 1 = .ok (.iload_n 1, 1) := by decide +kernel
theorem dX7_stands_2 : decode cX7_stands 2 = .ok (.iconst 3, 1) := by decide +kernel
theorem dX7_stands_3 : decode cX7_stands 3 = .ok (.invokevirtual 36, 3) := by decide +kernel
theorem dX7_stands_6 : decode cX7_stands 6 = .ok (.aload_n 0, 1) := by decide +kernel
theorem dX7_stands_7 : decode cX7_stands 7 = .ok (.iload_n 1, 1) := by decide +kernel
theorem dX7_stands_8 : decode cX7_stands 8 = .ok (.iconst 4, 1) := by decide +kernel
theorem dX7_stands_9 : decode cX7_stands 9 = .ok (.invokevirtual 36, 3) := by decide +kernel
theorem dX7_stands_12 : decode cX7_stands 12 = .ok (.isub, 1) := by decide +kernel
theorem dX7_stands_13 : decode cX7_stands 13 = .ok (.ireturn, 1) := by decide +kernel
set_option maxRecDepth 20000 in
theorem ggX7_finds_X7_stands : GoodIn wsX7_finds wsX7_stands := goodIn_r _ [9, 10, 11, 12, 8, 13, 4, 14, 15, 16, 17, 18, 19, 20, 21, 22, 23, 24, 25] (by decide +kernel) (by decide +kernel)
set_option maxRecDepth 20000 in
theorem gX7_finds_X7_stands : GoodIn wsX7_finds (wsV RX7 40 RX7 yX7_stands wsX7_stands) := goodIn_app (goodIn_of _ (by decide +kernel)) ggX7_finds_X7_stands
set_option maxRecDepth 20000 in
theorem ggX7_finds_X7_ofAxis : GoodIn wsX7_finds wsX7_ofAxis := goodIn_r _ [13, 4, 14, 15, 16, 17, 18, 19, 20, 21, 22, 23, 24, 25] (by decide +kernel) (by decide +kernel)
set_option maxRecDepth 20000 in
theorem gX7_finds_X7_ofAxis : GoodIn wsX7_finds (wsV RX7 36 RX7 yX7_ofAxis wsX7_ofAxis) := goodIn_app (goodIn_of _ (by decide +kernel)) ggX7_finds_X7_ofAxis
theorem dX7_finds_0 : decode cX7_finds 0 = .ok (.aload_n 0, 1) := by decide +kernel
theorem dX7_finds_1 : decode cX7_finds 1 = .ok (.iload_n 1, 1) := by decide +kernel
theorem dX7_finds_2 : decode cX7_finds 2 = .ok (.invokevirtual 40, 3) := by decide +kernel
theorem dX7_finds_5 : decode cX7_finds 5 = .ok (.istore_n 3, 1) := by decide +kernel
theorem dX7_finds_6 : decode cX7_finds 6 = .ok (.aload_n 0, 1) := by decide +kernel
theorem dX7_finds_7 : decode cX7_finds 7 = .ok (.iload_n 1, 1) := by decide +kernel
theorem dX7_finds_8 : decode cX7_finds 8 = .ok (.iconst 0, 1) := by decide +kernel
theorem dX7_finds_9 : decode cX7_finds 9 = .ok (.invokevirtual 36, 3) := by decide +kernel
theorem dX7_finds_12 : decode cX7_finds 12 = .ok (.istore 4, 2) := by decide +kernel
theorem dX7_finds_14 : decode cX7_finds 14 = .ok (.aload_n 0, 1) := by decide +kernel
theorem dX7_finds_15 : decode cX7_finds 15 = .ok (.iload_n 1, 1) := by decide +kernel
theorem dX7_finds_16 : decode cX7_finds 16 = .ok (.iconst 4, 1) := by decide +kernel
theorem dX7_finds_17 : decode cX7_finds 17 = .ok (.invokevirtual 36, 3) := by decide +kernel
theorem dX7_finds_20 : decode cX7_finds 20 = .ok (.istore 5, 2) := by decide +kernel
theorem dX7_finds_22 : decode cX7_finds 22 = .ok (.aload_n 0, 1) := by decide +kernel
theorem dX7_finds_23 : decode cX7_finds 23 = .ok (.iload_n 1, 1) := by decide +kernel
theorem dX7_finds_24 : decode cX7_finds 24 = .ok (.iconst 1, 1) := by decide +kernel
theorem dX7_finds_25 : decode cX7_finds 25 = .ok (.invokevirtual 36, 3) := by decide +kernel
theorem dX7_finds_28 : decode cX7_finds 28 = .ok (.istore 6, 2) := by decide +kernel
theorem dX7_finds_30 : decode cX7_finds 30 = .ok (.aload_n 0, 1) := by decide +kernel
theorem dX7_finds_31 : decode cX7_finds 31 = .ok (.iconst 0, 1) := by decide +kernel
theorem dX7_finds_32 : decode cX7_finds 32 = .ok (.putfield 44, 3) := by decide +kernel
theorem dX7_finds_35 : decode cX7_finds 35 = .ok (.aload_n 0, 1) := by decide +kernel
theorem dX7_finds_36 : decode cX7_finds 36 = .ok (.aload_n 0, 1) := by decide +kernel
theorem dX7_finds_37 : decode cX7_finds 37 = .ok (.iload_n 1, 1) := by decide +kernel
theorem dX7_finds_38 : decode cX7_finds 38 = .ok (.iconst 3, 1) := by decide +kernel
theorem dX7_finds_39 : decode cX7_finds 39 = .ok (.invokevirtual 36, 3) := by decide +kernel
theorem dX7_finds_42 : decode cX7_finds 42 = .ok (.putfield 48, 3) := by decide +kernel
theorem dX7_finds_45 : decode cX7_finds 45 = .ok (.aload_n 0, 1) := by decide +kernel
theorem dX7_finds_46 : decode cX7_finds 46 = .ok (.aload_n 0, 1) := by decide +kernel
theorem dX7_finds_47 : decode cX7_finds 47 = .ok (.getfield 48, 3) := by decide +kernel
theorem dX7_finds_50 : decode cX7_finds 50 = .ok (.putfield 51, 3) := by decide +kernel
theorem dX7_finds_53 : decode cX7_finds 53 = .ok (.iload 6, 2) := by decide +kernel
theorem dX7_finds_55 : decode cX7_finds 55 = .ok (.iconst 2, 1) := by decide +kernel
theorem dX7_finds_56 : decode cX7_finds 56 = .ok (.if_icmp .ne 54, 3) := by decide +kernel
theorem dX7_finds_59 : decode cX7_finds 59 = .ok (.iload_n 3, 1) := by decide +kernel
theorem dX7_finds_60 : decode cX7_finds 60 = .ok (.iload_n 2, 1) := by decide +kernel
theorem dX7_finds_61 : decode cX7_finds 61 = .ok (.if_icmp .le 11, 3) := by decide +kernel
theorem dX7_finds_64 : decode cX7_finds 64 = .ok (.aload_n 0, 1) := by decide +kernel
theorem dX7_finds_65 : decode cX7_finds 65 = .ok (.iload_n 2, 1) := by decide +kernel
theorem dX7_finds_66 : decode cX7_finds 66 = .ok (.putfield 48, 3) := by decide +kernel
theorem dX7_finds_69 : decode cX7_finds 69 = .ok (.goto 119, 3) := by decide +kernel
theorem dX7_finds_72 : decode cX7_finds 72 = .ok (.iload_n 3, 1) := by decide +kernel
theorem dX7_finds_73 : decode cX7_finds 73 = .ok (.iload_n 2, 1) := by decide +kernel
theorem dX7_finds_74 : decode cX7_finds 74 = .ok (.if_icmp .lt 8, 3) := by decide +kernel
theorem dX7_finds_77 : decode cX7_finds 77 = .ok (.iload 5, 2) := by decide +kernel
theorem dX7_finds_79 : decode cX7_finds 79 = .ok (.ifCond .le 109, 3) := by decide +kernel
theorem dX7_finds_82 : decode cX7_finds 82 = .ok (.aload_n 0, 1) := by decide +kernel
theorem dX7_finds_83 : decode cX7_finds 83 = .ok (.iconst 1, 1) := by decide +kernel
theorem dX7_finds_84 : decode cX7_finds 84 = .ok (.putfield 44, 3) := by decide +kernel
theorem dX7_finds_87 : decode cX7_finds 87 = .ok (.aload_n 0, 1) := by decide +kernel
theorem dX7_finds_88 : decode cX7_finds 88 = .ok (.iload_n 2, 1) := by decide +kernel
theorem dX7_finds_89 : decode cX7_finds 89 = .ok (.iload 4, 2) := by decide +kernel
theorem dX7_finds_91 : decode cX7_finds 91 = .ok (.iadd, 1) := by decide +kernel
theorem dX7_finds_92 : decode cX7_finds 92 = .ok (.aload_n 0, 1) := by decide +kernel
theorem dX7_finds_93 : decode cX7_finds 93 = .ok (.getfield 7, 3) := by decide +kernel
theorem dX7_finds_96 : decode cX7_finds 96 = .ok (.iconst 0, 1) := by decide +kernel
theorem dX7_finds_97 : decode cX7_finds 97 = .ok (.iaload, 1) := by decide +kernel
theorem dX7_finds_98 : decode cX7_finds 98 = .ok (.iadd, 1) := by decide +kernel
theorem dX7_finds_99 : decode cX7_finds 99 = .ok (.putfield 51, 3) := by decide +kernel
theorem dX7_finds_102 : decode cX7_finds 102 = .ok (.aload_n 0, 1) := by decide +kernel
theorem dX7_finds_103 : decode cX7_finds 103 = .ok (.iload_n 2, 1) := by decide +kernel
theorem dX7_finds_104 : decode cX7_finds 104 = .ok (.putfield 48, 3) := by decide +kernel
theorem dX7_finds_107 : decode cX7_finds 107 = .ok (.goto 81, 3) := by decide +kernel
theorem dX7_finds_110 : decode cX7_finds 110 = .ok (.iload_n 3, 1) := by decide +kernel
theorem dX7_finds_111 : decode cX7_finds 111 = .ok (.iload_n 2, 1) := by decide +kernel
theorem dX7_finds_112 : decode cX7_finds 112 = .ok (.if_icmp .ge 14, 3) := by decide +kernel
theorem dX7_finds_115 : decode cX7_finds 115 = .ok (.aload_n 0, 1) := by decide +kernel
theorem dX7_finds_116 : decode cX7_finds 116 = .ok (.iload_n 2, 1) := by decide +kernel
theorem dX7_finds_117 : decode cX7_finds 117 = .ok (.iload 4, 2) := by decide +kernel
theorem dX7_finds_119 : decode cX7_finds 119 = .ok (.iadd, 1) := by decide +kernel
theorem dX7_finds_120 : decode cX7_finds 120 = .ok (.putfield 48, 3) := by decide +kernel
theorem dX7_finds_123 : decode cX7_finds 123 = .ok (.goto 65, 3) := by decide +kernel
theorem dX7_finds_126 : decode cX7_finds 126 = .ok (.iload 6, 2) := by decide +kernel
theorem dX7_finds_128 : decode cX7_finds 128 = .ok (.ifCond .ne 23, 3) := by decide +kernel
theorem dX7_finds_131 : decode cX7_finds 131 = .ok (.aload_n 0, 1) := by decide +kernel
theorem dX7_finds_132 : decode cX7_finds 132 = .ok (.iload_n 3, 1) := by decide +kernel
theorem dX7_finds_133 : decode cX7_finds 133 = .ok (.iload_n 2, 1) := by decide +kernel
theorem dX7_finds_134 : decode cX7_finds 134 = .ok (.if_icmp .le 7, 3) := by decide +kernel
theorem dX7_finds_137 : decode cX7_finds 137 = .ok (.iload_n 2, 1) := by decide +kernel
theorem dX7_finds_138 : decode cX7_finds 138 = .ok (.goto 7, 3) := by decide +kernel
theorem dX7_finds_141 : decode cX7_finds 141 = .ok (.aload_n 0, 1) := by decide +kernel
theorem dX7_finds_142 : decode cX7_finds 142 = .ok (.getfield 48, 3) := by decide +kernel
theorem dX7_finds_145 : decode cX7_finds 145 = .ok (.putfield 48, 3) := by decide +kernel
theorem dX7_finds_148 : decode cX7_finds 148 = .ok (.goto 40, 3) := by decide +kernel
theorem dX7_finds_151 : decode cX7_finds 151 = .ok (.iload_n 3, 1) := by decide +kernel
theorem dX7_finds_152 : decode cX7_finds 152 = .ok (.iload_n 2, 1) := by decide +kernel
theorem dX7_finds_153 : decode cX7_finds 153 = .ok (.if_icmp .gt 10, 3) := by decide +kernel
theorem dX7_finds_156 : decode cX7_finds 156 = .ok (.iload 5, 2) := by decide +kernel
theorem dX7_finds_158 : decode cX7_finds 158 = .ok (.iload 4, 2) := by decide +kernel
theorem dX7_finds_160 : decode cX7_finds 160 = .ok (.if_icmp .ge 28, 3) := by decide +kernel
theorem dX7_finds_163 : decode cX7_finds 163 = .ok (.aload_n 0, 1) := by decide +kernel
theorem dX7_finds_164 : decode cX7_finds 164 = .ok (.iconst 1, 1) := by decide +kernel
theorem dX7_finds_165 : decode cX7_finds 165 = .ok (.putfield 44, 3) := by decide +kernel
theorem dX7_finds_168 : decode cX7_finds 168 = .ok (.aload_n 0, 1) := by decide +kernel
theorem dX7_finds_169 : decode cX7_finds 169 = .ok (.iload_n 2, 1) := by decide +kernel
theorem dX7_finds_170 : decode cX7_finds 170 = .ok (.aload_n 0, 1) := by decide +kernel
theorem dX7_finds_171 : decode cX7_finds 171 = .ok (.getfield 7, 3) := by decide +kernel
theorem dX7_finds_174 : decode cX7_finds 174 = .ok (.iconst 0, 1) := by decide +kernel
theorem dX7_finds_175 : decode cX7_finds 175 = .ok (.iaload, 1) := by decide +kernel
theorem dX7_finds_176 : decode cX7_finds 176 = .ok (.isub, 1) := by decide +kernel
theorem dX7_finds_177 : decode cX7_finds 177 = .ok (.putfield 51, 3) := by decide +kernel
theorem dX7_finds_180 : decode cX7_finds 180 = .ok (.aload_n 0, 1) := by decide +kernel
theorem dX7_finds_181 : decode cX7_finds 181 = .ok (.iload_n 2, 1) := by decide +kernel
theorem dX7_finds_182 : decode cX7_finds 182 = .ok (.iload 4, 2) := by decide +kernel
theorem dX7_finds_184 : decode cX7_finds 184 = .ok (.iadd, 1) := by decide +kernel
theorem dX7_finds_185 : decode cX7_finds 185 = .ok (.putfield 48, 3) := by decide +kernel
theorem dX7_finds_188 : decode cX7_finds 188 = .ok (.return_, 1) := by decide +kernel
set_option maxRecDepth 20000 in
theorem ggX7_isInRange_X7_in : GoodIn wsX7_isInRange wsX7_in := goodIn_r _ [4] (by decide +kernel) (by decide +kernel)
set_option maxRecDepth 20000 in
theorem gX7_isInRange_X7_in : GoodIn wsX7_isInRange (va_wsS RX7 54 yX7_in wsX7_in) := goodIn_app (goodIn_of _ (by decide +kernel)) ggX7_isInRange_X7_in
theorem dX7_isInRange_0 : decode cX7_isInRange 0 = .ok (.iload_n 1, 1) := by decide +kernel
theorem dX7_isInRange_1 : decode cX7_isInRange 1 = .ok (.ifCond .ne 16, 3) := by decide +kernel
theorem dX7_isInRange_4 : decode cX7_isInRange 4 = .ok (.iload_n 2, 1) := by decide +kernel
theorem dX7_isInRange_5 : decode cX7_isInRange 5 = .ok (.sipush (-27000), 3) := by decide +kernel
theorem dX7_isInRange_8 : decode cX7_isInRange 8 = .ok (.sipush 27000, 3) := by decide +kernel
theorem dX7_isInRange_11 : decode cX7_isInRange 11 = .ok (.invokestatic 54, 3) := by decide +kernel
theorem dX7_isInRange_14 : decode cX7_isInRange 14 = .ok (.goto 13, 3) := by decide +kernel
theorem dX7_isInRange_17 : decode cX7_isInRange 17 = .ok (.iload_n 2, 1) := by decide +kernel
theorem dX7_isInRange_18 : decode cX7_isInRange 18 = .ok (.sipush 500, 3) := by decide +kernel
theorem dX7_isInRange_21 : decode cX7_isInRange 21 = .ok (.sipush 9000, 3) := by decide +kernel
theorem dX7_isInRange_24 : decode cX7_isInRange 24 = .ok (.invokestatic 54, 3) := by decide +kernel
theorem dX7_isInRange_27 : decode cX7_isInRange 27 = .ok (.ireturn, 1) := by decide +kernel
set_option maxRecDepth 20000 in
theorem ggX7_isPossible_X7_finds : GoodIn wsX7_isPossible wsX7_finds := goodIn_r _ [8, 2, 1, 3, 9, 10, 11, 12, 7, 13, 14, 15, 16, 17, 25, 26, 27, 28, 29, 30, 31, 32, 33, 34, 35, 36] (by decide +kernel) (by decide +kernel)
set_option maxRecDepth 20000 in
theorem gX7_isPossible_X7_finds : GoodIn wsX7_isPossible (wsV RX7 58 RX7 yX7_finds wsX7_finds) := goodIn_app (goodIn_of _ (by decide +kernel)) ggX7_isPossible_X7_finds
set_option maxRecDepth 20000 in
theorem ggX7_isPossible_X7_isInRange : GoodIn wsX7_isPossible wsX7_isInRange := goodIn_r _ [21, 22, 23, 7, 24] (by decide +kernel) (by decide +kernel)
set_option maxRecDepth 20000 in
theorem gX7_isPossible_X7_isInRange : GoodIn wsX7_isPossible (wsV RX7 62 RX7 yX7_isInRange wsX7_isInRange) := goodIn_app (goodIn_of _ (by decide +kernel)) ggX7_isPossible_X7_isInRange
theorem dX7_isPossible_0 : decode cX7_isPossible 0 = .ok (.aload_n 0, 1) := by decide +kernel
theorem dX7_isPossible_1 : decode cX7_isPossible 1 = .ok (.iload_n 1, 1) := by decide +kernel
theorem dX7_isPossible_2 : decode cX7_isPossible 2 = .ok (.iload_n 2, 1) := by decide +kernel
theorem dX7_isPossible_3 : decode cX7_isPossible 3 = .ok (.invokevirtual 58, 3) := by decide +kernel
theorem dX7_isPossible_6 : decode cX7_isPossible 6 = .ok (.aload_n 0, 1) := by decide +kernel
theorem dX7_isPossible_7 : decode cX7_isPossible 7 = .ok (.iload_n 1, 1) := by decide +kernel
theorem dX7_isPossible_8 : decode cX7_isPossible 8 = .ok (.aload_n 0, 1) := by decide +kernel
theorem dX7_isPossible_9 : decode cX7_isPossible 9 = .ok (.getfield 48, 3) := by decide +kernel
theorem dX7_isPossible_12 : decode cX7_isPossible 12 = .ok (.invokevirtual 62, 3) := by decide +kernel
theorem dX7_isPossible_15 : decode cX7_isPossible 15 = .ok (.ifCond .eq 26, 3) := by decide +kernel
theorem dX7_isPossible_18 : decode cX7_isPossible 18 = .ok (.aload_n 0, 1) := by decide +kernel
theorem dX7_isPossible_19 : decode cX7_isPossible 19 = .ok (.getfield 44, 3) := by decide +kernel
theorem dX7_isPossible_22 : decode cX7_isPossible 22 = .ok (.ifCond .eq 15, 3) := by decide +kernel
theorem dX7_isPossible_25 : decode cX7_isPossible 25 = .ok (.aload_n 0, 1) := by decide +kernel
theorem dX7_isPossible_26 : decode cX7_isPossible 26 = .ok (.iload_n 1, 1) := by decide +kernel
theorem dX7_isPossible_27 : decode cX7_isPossible 27 = .ok (.aload_n 0, 1) := by decide +kernel
theorem dX7_isPossible_28 : decode cX7_isPossible 28 = .ok (.getfield 51, 3) := by decide +kernel
theorem dX7_isPossible_31 : decode cX7_isPossible 31 = .ok (.invokevirtual 62, 3) := by decide +kernel
theorem dX7_isPossible_34 : decode cX7_isPossible 34 = .ok (.ifCond .eq 7, 3) := by decide +kernel
theorem dX7_isPossible_37 : decode cX7_isPossible 37 = .ok (.iconst 1, 1) := by decide +kernel
theorem dX7_isPossible_38 : decode cX7_isPossible 38 = .ok (.goto 4, 3) := by decide +kernel
theorem dX7_isPossible_41 : decode cX7_isPossible 41 = .ok (.iconst 0, 1) := by decide +kernel
theorem dX7_isPossible_42 : decode cX7_isPossible 42 = .ok (.ireturn, 1) := by decide +kernel
theorem dX7_apart_0 : decode cX7_apart 0 = .ok (.iload_n 0, 1) := by decide +kernel
theorem dX7_apart_1 : decode cX7_apart 1 = .ok (.iload_n 1, 1) := by decide +kernel
theorem dX7_apart_2 : decode cX7_apart 2 = .ok (.if_icmp .ge 9, 3) := by decide +kernel
theorem dX7_apart_5 : decode cX7_apart 5 = .ok (.iload_n 1, 1) := by decide +kernel
theorem dX7_apart_6 : decode cX7_apart 6 = .ok (.iload_n 0, 1) := by decide +kernel
theorem dX7_apart_7 : decode cX7_apart 7 = .ok (.isub, 1) := by decide +kernel
theorem dX7_apart_8 : decode cX7_apart 8 = .ok (.goto 6, 3) := by decide +kernel
theorem dX7_apart_11 : decode cX7_apart 11 = .ok (.iload_n 0, 1) := by decide +kernel
theorem dX7_apart_12 : decode cX7_apart 12 = .ok (.iload_n 1, 1) := by decide +kernel
theorem dX7_apart_13 : decode cX7_apart 13 = .ok (.isub, 1) := by decide +kernel
theorem dX7_apart_14 : decode cX7_apart 14 = .ok (.ireturn, 1) := by decide +kernel
set_option maxRecDepth 20000 in
theorem ggX7_lengthOf_X7_finds : GoodIn wsX7_lengthOf wsX7_finds := goodIn_r _ [8, 1, 3, 2, 9, 10, 11, 12, 7, 13, 14, 15, 16, 17, 21, 22, 23, 24, 25, 26, 27, 28, 29, 30, 31, 32] (by decide +kernel) (by decide +kernel)
set_option maxRecDepth 20000 in
theorem gX7_lengthOf_X7_finds : GoodIn wsX7_lengthOf (wsV RX7 58 RX7 yX7_finds wsX7_finds) := goodIn_app (goodIn_of _ (by decide +kernel)) ggX7_lengthOf_X7_finds
set_option maxRecDepth 20000 in
theorem ggX7_lengthOf_X7_ofAxis : GoodIn wsX7_lengthOf wsX7_ofAxis := goodIn_r _ [17, 9, 21, 22, 23, 24, 25, 26, 27, 28, 29, 30, 31, 32] (by decide +kernel) (by decide +kernel)
set_option maxRecDepth 20000 in
theorem gX7_lengthOf_X7_ofAxis : GoodIn wsX7_lengthOf (wsV RX7 36 RX7 yX7_ofAxis wsX7_ofAxis) := goodIn_app (goodIn_of _ (by decide +kernel)) ggX7_lengthOf_X7_ofAxis
set_option maxRecDepth 20000 in
theorem ggX7_lengthOf_X7_apart : GoodIn wsX7_lengthOf wsX7_apart := goodIn_r _ [20] (by decide +kernel) (by decide +kernel)
set_option maxRecDepth 20000 in
theorem gX7_lengthOf_X7_apart : GoodIn wsX7_lengthOf (va_wsS RX7 66 yX7_apart wsX7_apart) := goodIn_app (goodIn_of _ (by decide +kernel)) ggX7_lengthOf_X7_apart
theorem dX7_lengthOf_0 : decode cX7_lengthOf 0 = .ok (.aload_n 0, 1) := by decide +kernel
theorem dX7_lengthOf_1 : decode cX7_lengthOf 1 = .ok (.iload_n 1, 1) := by decide +kernel
theorem dX7_lengthOf_2 : decode cX7_lengthOf 2 = .ok (.iload_n 2, 1) := by decide +kernel
theorem dX7_lengthOf_3 : decode cX7_lengthOf 3 = .ok (.invokevirtual 58, 3) := by decide +kernel
theorem dX7_lengthOf_6 : decode cX7_lengthOf 6 = .ok (.aload_n 0, 1) := by decide +kernel
theorem dX7_lengthOf_7 : decode cX7_lengthOf 7 = .ok (.iload_n 1, 1) := by decide +kernel
theorem dX7_lengthOf_8 : decode cX7_lengthOf 8 = .ok (.iconst 3, 1) := by decide +kernel
theorem dX7_lengthOf_9 : decode cX7_lengthOf 9 = .ok (.invokevirtual 36, 3) := by decide +kernel
theorem dX7_lengthOf_12 : decode cX7_lengthOf 12 = .ok (.istore_n 3, 1) := by decide +kernel
theorem dX7_lengthOf_13 : decode cX7_lengthOf 13 = .ok (.aload_n 0, 1) := by decide +kernel
theorem dX7_lengthOf_14 : decode cX7_lengthOf 14 = .ok (.getfield 44, 3) := by decide +kernel
theorem dX7_lengthOf_17 : decode cX7_lengthOf 17 = .ok (.ifCond .eq 26, 3) := by decide +kernel
theorem dX7_lengthOf_20 : decode cX7_lengthOf 20 = .ok (.iload_n 3, 1) := by decide +kernel
theorem dX7_lengthOf_21 : decode cX7_lengthOf 21 = .ok (.aload_n 0, 1) := by decide +kernel
theorem dX7_lengthOf_22 : decode cX7_lengthOf 22 = .ok (.getfield 51, 3) := by decide +kernel
theorem dX7_lengthOf_25 : decode cX7_lengthOf 25 = .ok (.invokestatic 66, 3) := by decide +kernel
theorem dX7_lengthOf_28 : decode cX7_lengthOf 28 = .ok (.aload_n 0, 1) := by decide +kernel
theorem dX7_lengthOf_29 : decode cX7_lengthOf 29 = .ok (.getfield 51, 3) := by decide +kernel
theorem dX7_lengthOf_32 : decode cX7_lengthOf 32 = .ok (.aload_n 0, 1) := by decide +kernel
theorem dX7_lengthOf_33 : decode cX7_lengthOf 33 = .ok (.getfield 48, 3) := by decide +kernel
theorem dX7_lengthOf_36 : decode cX7_lengthOf 36 = .ok (.invokestatic 66, 3) := by decide +kernel
theorem dX7_lengthOf_39 : decode cX7_lengthOf 39 = .ok (.iadd, 1) := by decide +kernel
theorem dX7_lengthOf_40 : decode cX7_lengthOf 40 = .ok (.goto 11, 3) := by decide +kernel
theorem dX7_lengthOf_43 : decode cX7_lengthOf 43 = .ok (.iload_n 3, 1) := by decide +kernel
theorem dX7_lengthOf_44 : decode cX7_lengthOf 44 = .ok (.aload_n 0, 1) := by decide +kernel
theorem dX7_lengthOf_45 : decode cX7_lengthOf 45 = .ok (.getfield 48, 3) := by decide +kernel
theorem dX7_lengthOf_48 : decode cX7_lengthOf 48 = .ok (.invokestatic 66, 3) := by decide +kernel
theorem dX7_lengthOf_51 : decode cX7_lengthOf 51 = .ok (.ireturn, 1) := by decide +kernel
set_option maxRecDepth 20000 in
theorem ggX7_timeOf_X7_ofAxis : GoodIn wsX7_timeOf wsX7_ofAxis := goodIn_r _ [5, 6, 25, 26, 27, 28, 29, 30, 31, 32, 33, 34, 35, 36] (by decide +kernel) (by decide +kernel)
set_option maxRecDepth 20000 in
theorem gX7_timeOf_X7_ofAxis : GoodIn wsX7_timeOf (wsV RX7 36 RX7 yX7_ofAxis wsX7_ofAxis) := goodIn_app (goodIn_of _ (by decide +kernel)) ggX7_timeOf_X7_ofAxis
set_option maxRecDepth 20000 in
theorem ggX7_timeOf_X7_lengthOf : GoodIn wsX7_timeOf wsX7_lengthOf := goodIn_r _ [10, 11, 12, 13, 14, 15, 16, 4, 17, 6, 18, 19, 20, 21, 1, 2, 3, 5, 22, 23, 24, 25, 26, 27, 28, 29, 30, 31, 32, 33, 34, 35, 36] (by decide +kernel) (by decide +kernel)
set_option maxRecDepth 20000 in
theorem gX7_timeOf_X7_lengthOf : GoodIn wsX7_timeOf (wsV RX7 69 RX7 yX7_lengthOf wsX7_lengthOf) := goodIn_app (goodIn_of _ (by decide +kernel)) ggX7_timeOf_X7_lengthOf
theorem dX7_timeOf_0 : decode cX7_timeOf 0 = .ok (.aload_n 0, 1) := by decide +kernel
theorem dX7_timeOf_1 : decode cX7_timeOf 1 = .ok (.iload_n 1, 1) := by decide +kernel
theorem dX7_timeOf_2 : decode cX7_timeOf 2 = .ok (.iconst 2, 1) := by decide +kernel
theorem dX7_timeOf_3 : decode cX7_timeOf 3 = .ok (.invokevirtual 36, 3) := by decide +kernel
theorem dX7_timeOf_6 : decode cX7_timeOf 6 = .ok (.istore_n 3, 1) := by decide +kernel
theorem dX7_timeOf_7 : decode cX7_timeOf 7 = .ok (.aload_n 0, 1) := by decide +kernel
theorem dX7_timeOf_8 : decode cX7_timeOf 8 = .ok (.iload_n 1, 1) := by decide +kernel
theorem dX7_timeOf_9 : decode cX7_timeOf 9 = .ok (.iload_n 2, 1) := by decide +kernel
theorem dX7_timeOf_10 : decode cX7_timeOf 10 = .ok (.invokevirtual 69, 3) := by decide +kernel
theorem dX7_timeOf_13 : decode cX7_timeOf 13 = .ok (.iload_n 3, 1) := by decide +kernel
theorem dX7_timeOf_14 : decode cX7_timeOf 14 = .ok (.iadd, 1) := by decide +kernel
theorem dX7_timeOf_15 : decode cX7_timeOf 15 = .ok (.iconst 1, 1) := by decide +kernel
theorem dX7_timeOf_16 : decode cX7_timeOf 16 = .ok (.isub, 1) := by decide +kernel
theorem dX7_timeOf_17 : decode cX7_timeOf 17 = .ok (.iload_n 3, 1) := by decide +kernel
theorem dX7_timeOf_18 : decode cX7_timeOf 18 = .ok (.idiv, 1) := by decide +kernel
theorem dX7_timeOf_19 : decode cX7_timeOf 19 = .ok (.ireturn, 1) := by decide +kernel
set_option maxRecDepth 20000 in
theorem ggX7_isCalm_X7_in : GoodIn wsX7_isCalm wsX7_in := goodIn_r _ [5] (by decide +kernel) (by decide +kernel)
set_option maxRecDepth 20000 in
theorem gX7_isCalm_X7_in : GoodIn wsX7_isCalm (va_wsS RX7 54 yX7_in wsX7_in) := goodIn_app (goodIn_of _ (by decide +kernel)) ggX7_isCalm_X7_in
theorem dX7_isCalm_0 : decode cX7_isCalm 0 = .ok (.iload_n 1, 1) := by decide +kernel
theorem dX7_isCalm_1 : decode cX7_isCalm 1 = .ok (.aload_n 0, 1) := by decide +kernel
theorem dX7_isCalm_2 : decode cX7_isCalm 2 = .ok (.getfield 7, 3) := by decide +kernel
theorem dX7_isCalm_5 : decode cX7_isCalm 5 = .ok (.iconst 1, 1) := by decide +kernel
theorem dX7_isCalm_6 : decode cX7_isCalm 6 = .ok (.iaload, 1) := by decide +kernel
theorem dX7_isCalm_7 : decode cX7_isCalm 7 = .ok (.ineg, 1) := by decide +kernel
theorem dX7_isCalm_8 : decode cX7_isCalm 8 = .ok (.aload_n 0, 1) := by decide +kernel
theorem dX7_isCalm_9 : decode cX7_isCalm 9 = .ok (.getfield 7, 3) := by decide +kernel
theorem dX7_isCalm_12 : decode cX7_isCalm 12 = .ok (.iconst 1, 1) := by decide +kernel
theorem dX7_isCalm_13 : decode cX7_isCalm 13 = .ok (.iaload, 1) := by decide +kernel
theorem dX7_isCalm_14 : decode cX7_isCalm 14 = .ok (.invokestatic 54, 3) := by decide +kernel
theorem dX7_isCalm_17 : decode cX7_isCalm 17 = .ok (.ireturn, 1) := by decide +kernel
set_option maxRecDepth 20000 in
theorem ggX7_isBetter_X7_isCalm : GoodIn wsX7_isBetter wsX7_isCalm := goodIn_r _ [5, 6, 7, 8, 4, 9, 32, 33, 34, 35, 36, 37, 38, 39, 40, 41, 42, 43] (by decide +kernel) (by decide +kernel)
set_option maxRecDepth 20000 in
theorem gX7_isBetter_X7_isCalm : GoodIn wsX7_isBetter (wsV RX7 72 RX7 yX7_isCalm wsX7_isCalm) := goodIn_app (goodIn_of _ (by decide +kernel)) ggX7_isBetter_X7_isCalm
set_option maxRecDepth 20000 in
theorem ggX7_isBetter_X7_lengthOf : GoodIn wsX7_isBetter wsX7_lengthOf := goodIn_r _ [13, 14, 15, 16, 17, 18, 19, 4, 20, 6, 21, 22, 23, 24, 25, 26, 27, 28, 29, 30, 31, 32, 33, 34, 35, 36, 37, 38, 39, 40, 41, 42, 43] (by decide +kernel) (by decide +kernel)
set_option maxRecDepth 20000 in
theorem gX7_isBetter_X7_lengthOf : GoodIn wsX7_isBetter (wsV RX7 69 RX7 yX7_lengthOf wsX7_lengthOf) := goodIn_app (goodIn_of _ (by decide +kernel)) ggX7_isBetter_X7_lengthOf
set_option maxRecDepth 20000 in
theorem ggX7_isBetter_X7_apart : GoodIn wsX7_isBetter wsX7_apart := goodIn_r _ [31] (by decide +kernel) (by decide +kernel)
set_option maxRecDepth 20000 in
theorem gX7_isBetter_X7_apart : GoodIn wsX7_isBetter (va_wsS RX7 66 yX7_apart wsX7_apart) := goodIn_app (goodIn_of _ (by decide +kernel)) ggX7_isBetter_X7_apart
theorem dX7_isBetter_0 : decode cX7_isBetter 0 = .ok (.aload_n 0, 1) := by decide +kernel
theorem dX7_isBetter_1 : decode cX7_isBetter 1 = .ok (.iload_n 1, 1) := by decide +kernel
theorem dX7_isBetter_2 : decode cX7_isBetter 2 = .ok (.invokevirtual 72, 3) := by decide +kernel
theorem dX7_isBetter_5 : decode cX7_isBetter 5 = .ok (.aload_n 0, 1) := by decide +kernel
theorem dX7_isBetter_6 : decode cX7_isBetter 6 = .ok (.iload_n 2, 1) := by decide +kernel
theorem dX7_isBetter_7 : decode cX7_isBetter 7 = .ok (.invokevirtual 72, 3) := by decide +kernel
theorem dX7_isBetter_10 : decode cX7_isBetter 10 = .ok (.if_icmp .eq 9, 3) := by decide +kernel
theorem dX7_isBetter_13 : decode cX7_isBetter 13 = .ok (.aload_n 0, 1) := by decide +kernel
theorem dX7_isBetter_14 : decode cX7_isBetter 14 = .ok (.iload_n 1, 1) := by decide +kernel
theorem dX7_isBetter_15 : decode cX7_isBetter 15 = .ok (.invokevirtual 72, 3) := by decide +kernel
theorem dX7_isBetter_18 : decode cX7_isBetter 18 = .ok (.ireturn, 1) := by decide +kernel
theorem dX7_isBetter_19 : decode cX7_isBetter 19 = .ok (.aload_n 0, 1) := by decide +kernel
theorem dX7_isBetter_20 : decode cX7_isBetter 20 = .ok (.iconst 0, 1) := by decide +kernel
theorem dX7_isBetter_21 : decode cX7_isBetter 21 = .ok (.iload_n 1, 1) := by decide +kernel
theorem dX7_isBetter_22 : decode cX7_isBetter 22 = .ok (.invokevirtual 69, 3) := by decide +kernel
theorem dX7_isBetter_25 : decode cX7_isBetter 25 = .ok (.istore_n 3, 1) := by decide +kernel
theorem dX7_isBetter_26 : decode cX7_isBetter 26 = .ok (.aload_n 0, 1) := by decide +kernel
theorem dX7_isBetter_27 : decode cX7_isBetter 27 = .ok (.iconst 0, 1) := by decide +kernel
theorem dX7_isBetter_28 : decode cX7_isBetter 28 = .ok (.iload_n 2, 1) := by decide +kernel
theorem dX7_isBetter_29 : decode cX7_isBetter 29 = .ok (.invokevirtual 69, 3) := by decide +kernel
theorem dX7_isBetter_32 : decode cX7_isBetter 32 = .ok (.istore 4, 2) := by decide +kernel
theorem dX7_isBetter_34 : decode cX7_isBetter 34 = .ok (.iload_n 3, 1) := by decide +kernel
theorem dX7_isBetter_35 : decode cX7_isBetter 35 = .ok (.iload 4, 2) := by decide +kernel
theorem dX7_isBetter_37 : decode cX7_isBetter 37 = .ok (.if_icmp .eq 15, 3) := by decide +kernel
theorem dX7_isBetter_40 : decode cX7_isBetter 40 = .ok (.iload_n 3, 1) := by decide +kernel
theorem dX7_isBetter_41 : decode cX7_isBetter 41 = .ok (.iload 4, 2) := by decide +kernel
theorem dX7_isBetter_43 : decode cX7_isBetter 43 = .ok (.if_icmp .ge 7, 3) := by decide +kernel
theorem dX7_isBetter_46 : decode cX7_isBetter 46 = .ok (.iconst 1, 1) := by decide +kernel
theorem dX7_isBetter_47 : decode cX7_isBetter 47 = .ok (.goto 4, 3) := by decide +kernel
theorem dX7_isBetter_50 : decode cX7_isBetter 50 = .ok (.iconst 0, 1) := by decide +kernel
theorem dX7_isBetter_51 : decode cX7_isBetter 51 = .ok (.ireturn, 1) := by decide +kernel
theorem dX7_isBetter_52 : decode cX7_isBetter 52 = .ok (.iload_n 1, 1) := by decide +kernel
theorem dX7_isBetter_53 : decode cX7_isBetter 53 = .ok (.iconst 0, 1) := by decide +kernel
theorem dX7_isBetter_54 : decode cX7_isBetter 54 = .ok (.invokestatic 66, 3) := by decide +kernel
theorem dX7_isBetter_57 : decode cX7_isBetter 57 = .ok (.istore 5, 2) := by decide +kernel
theorem dX7_isBetter_59 : decode cX7_isBetter 59 = .ok (.iload_n 2, 1) := by decide +kernel
theorem dX7_isBetter_60 : decode cX7_isBetter 60 = .ok (.iconst 0, 1) := by decide +kernel
theorem dX7_isBetter_61 : decode cX7_isBetter 61 = .ok (.invokestatic 66, 3) := by decide +kernel
theorem dX7_isBetter_64 : decode cX7_isBetter 64 = .ok (.istore 6, 2) := by decide +kernel
theorem dX7_isBetter_66 : decode cX7_isBetter 66 = .ok (.iload 5, 2) := by decide +kernel
theorem dX7_isBetter_68 : decode cX7_isBetter 68 = .ok (.iload 6, 2) := by decide +kernel
theorem dX7_isBetter_70 : decode cX7_isBetter 70 = .ok (.if_icmp .lt 15, 3) := by decide +kernel
theorem dX7_isBetter_73 : decode cX7_isBetter 73 = .ok (.iload 5, 2) := by decide +kernel
theorem dX7_isBetter_75 : decode cX7_isBetter 75 = .ok (.iload 6, 2) := by decide +kernel
theorem dX7_isBetter_77 : decode cX7_isBetter 77 = .ok (.if_icmp .ne 12, 3) := by decide +kernel
theorem dX7_isBetter_80 : decode cX7_isBetter 80 = .ok (.iload_n 1, 1) := by decide +kernel
theorem dX7_isBetter_81 : decode cX7_isBetter 81 = .ok (.iload_n 2, 1) := by decide +kernel
theorem dX7_isBetter_82 : decode cX7_isBetter 82 = .ok (.if_icmp .ge 7, 3) := by decide +kernel
theorem dX7_isBetter_85 : decode cX7_isBetter 85 = .ok (.iconst 1, 1) := by decide +kernel
theorem dX7_isBetter_86 : decode cX7_isBetter 86 = .ok (.goto 4, 3) := by decide +kernel
theorem dX7_isBetter_89 : decode cX7_isBetter 89 = .ok (.iconst 0, 1) := by decide +kernel
theorem dX7_isBetter_90 : decode cX7_isBetter 90 = .ok (.ireturn, 1) := by decide +kernel
set_option maxRecDepth 20000 in
theorem ggX7_placeOf_X7_isPossible : GoodIn wsX7_placeOf wsX7_isPossible := goodIn_r _ [7, 8, 9, 10, 11, 12, 13, 6, 14, 15, 16, 17, 18, 19, 20, 21, 22, 23, 24, 25, 26, 27, 28, 29, 30, 46, 47, 48, 49, 50, 51, 52, 53, 54, 55, 56, 57] (by decide +kernel) (by decide +kernel)
set_option maxRecDepth 20000 in
theorem gX7_placeOf_X7_isPossible : GoodIn wsX7_placeOf (wsV RX7 77 RX7 yX7_isPossible wsX7_isPossible) := goodIn_app (goodIn_of _ (by decide +kernel)) ggX7_placeOf_X7_isPossible
set_option maxRecDepth 20000 in
theorem ggX7_placeOf_X7_isBetter : GoodIn wsX7_placeOf wsX7_isBetter := goodIn_r _ [34, 35, 36, 37, 6, 38, 15, 28, 29, 30, 39, 40, 41, 42, 9, 10, 8, 11, 12, 13, 14, 16, 17, 18, 19, 20, 21, 22, 23, 43, 44, 45, 46, 47, 48, 49, 50, 51, 52, 53, 54, 55, 56, 57] (by decide +kernel) (by decide +kernel)
set_option maxRecDepth 20000 in
theorem gX7_placeOf_X7_isBetter : GoodIn wsX7_placeOf (wsV RX7 81 RX7 yX7_isBetter wsX7_isBetter) := goodIn_app (goodIn_of _ (by decide +kernel)) ggX7_placeOf_X7_isBetter
theorem dX7_placeOf_0 : decode cX7_placeOf 0 = .ok (.iload_n 1, 1) := by decide +kernel
theorem dX7_placeOf_1 : decode cX7_placeOf 1 = .ok (.ldc 76, 2) := by decide +kernel
theorem dX7_placeOf_3 : decode cX7_placeOf 3 = .ok (.isub, 1) := by decide +kernel
theorem dX7_placeOf_4 : decode cX7_placeOf 4 = .ok (.istore_n 2, 1) := by decide +kernel
theorem dX7_placeOf_5 : decode cX7_placeOf 5 = .ok (.aload_n 0, 1) := by decide +kernel
theorem dX7_placeOf_6 : decode cX7_placeOf 6 = .ok (.iconst 0, 1) := by decide +kernel
theorem dX7_placeOf_7 : decode cX7_placeOf 7 = .ok (.iload_n 2, 1) := by decide +kernel
theorem dX7_placeOf_8 : decode cX7_placeOf 8 = .ok (.invokevirtual 77, 3) := by decide +kernel
theorem dX7_placeOf_11 : decode cX7_placeOf 11 = .ok (.istore_n 3, 1) := by decide +kernel
theorem dX7_placeOf_12 : decode cX7_placeOf 12 = .ok (.aload_n 0, 1) := by decide +kernel
theorem dX7_placeOf_13 : decode cX7_placeOf 13 = .ok (.iconst 0, 1) := by decide +kernel
theorem dX7_placeOf_14 : decode cX7_placeOf 14 = .ok (.iload_n 1, 1) := by decide +kernel
theorem dX7_placeOf_15 : decode cX7_placeOf 15 = .ok (.invokevirtual 77, 3) := by decide +kernel
theorem dX7_placeOf_18 : decode cX7_placeOf 18 = .ok (.istore 4, 2) := by decide +kernel
theorem dX7_placeOf_20 : decode cX7_placeOf 20 = .ok (.iload_n 3, 1) := by decide +kernel
theorem dX7_placeOf_21 : decode cX7_placeOf 21 = .ok (.ifCond .eq 8, 3) := by decide +kernel
theorem dX7_placeOf_24 : decode cX7_placeOf 24 = .ok (.iload 4, 2) := by decide +kernel
theorem dX7_placeOf_26 : decode cX7_placeOf 26 = .ok (.ifCond .ne 23, 3) := by decide +kernel
theorem dX7_placeOf_29 : decode cX7_placeOf 29 = .ok (.iload_n 3, 1) := by decide +kernel
theorem dX7_placeOf_30 : decode cX7_placeOf 30 = .ok (.ifCond .eq 7, 3) := by decide +kernel
theorem dX7_placeOf_33 : decode cX7_placeOf 33 = .ok (.iload_n 2, 1) := by decide +kernel
theorem dX7_placeOf_34 : decode cX7_placeOf 34 = .ok (.goto 14, 3) := by decide +kernel
theorem dX7_placeOf_37 : decode cX7_placeOf 37 = .ok (.iload 4, 2) := by decide +kernel
theorem dX7_placeOf_39 : decode cX7_placeOf 39 = .ok (.ifCond .eq 7, 3) := by decide +kernel
theorem dX7_placeOf_42 : decode cX7_placeOf 42 = .ok (.iload_n 1, 1) := by decide +kernel
theorem dX7_placeOf_43 : decode cX7_placeOf 43 = .ok (.goto 5, 3) := by decide +kernel
theorem dX7_placeOf_46 : decode cX7_placeOf 46 = .ok (.ldc 80, 2) := by decide +kernel
theorem dX7_placeOf_48 : decode cX7_placeOf 48 = .ok (.ireturn, 1) := by decide +kernel
theorem dX7_placeOf_49 : decode cX7_placeOf 49 = .ok (.aload_n 0, 1) := by decide +kernel
theorem dX7_placeOf_50 : decode cX7_placeOf 50 = .ok (.iload_n 2, 1) := by decide +kernel
theorem dX7_placeOf_51 : decode cX7_placeOf 51 = .ok (.iload_n 1, 1) := by decide +kernel
theorem dX7_placeOf_52 : decode cX7_placeOf 52 = .ok (.invokevirtual 81, 3) := by decide +kernel
theorem dX7_placeOf_55 : decode cX7_placeOf 55 = .ok (.ifCond .eq 7, 3) := by decide +kernel
theorem dX7_placeOf_58 : decode cX7_placeOf 58 = .ok (.iload_n 2, 1) := by decide +kernel
theorem dX7_placeOf_59 : decode cX7_placeOf 59 = .ok (.goto 4, 3) := by decide +kernel
theorem dX7_placeOf_62 : decode cX7_placeOf 62 = .ok (.iload_n 1, 1) := by decide +kernel
theorem dX7_placeOf_63 : decode cX7_placeOf 63 = .ok (.ireturn, 1) := by decide +kernel
theorem dX7_goes_0 : decode cX7_goes 0 = .ok (.bipush 39, 2) := by decide +kernel
theorem dX7_goes_2 : decode cX7_goes 2 = .ok (.bipush 7, 2) := by decide +kernel
theorem dX7_goes_4 : decode cX7_goes 4 = .ok (.iload_n 1, 1) := by decide +kernel
theorem dX7_goes_5 : decode cX7_goes 5 = .ok (.imul, 1) := by decide +kernel
theorem dX7_goes_6 : decode cX7_goes 6 = .ok (.iadd, 1) := by decide +kernel
theorem dX7_goes_7 : decode cX7_goes 7 = .ok (.istore_n 3, 1) := by decide +kernel
theorem dX7_goes_8 : decode cX7_goes 8 = .ok (.iload_n 2, 1) := by decide +kernel
theorem dX7_goes_9 : decode cX7_goes 9 = .ok (.aload_n 0, 1) := by decide +kernel
theorem dX7_goes_10 : decode cX7_goes 10 = .ok (.getfield 7, 3) := by decide +kernel
theorem dX7_goes_13 : decode cX7_goes 13 = .ok (.iload_n 3, 1) := by decide +kernel
theorem dX7_goes_14 : decode cX7_goes 14 = .ok (.iconst 3, 1) := by decide +kernel
theorem dX7_goes_15 : decode cX7_goes 15 = .ok (.iadd, 1) := by decide +kernel
theorem dX7_goes_16 : decode cX7_goes 16 = .ok (.iaload, 1) := by decide +kernel
theorem dX7_goes_17 : decode cX7_goes 17 = .ok (.isub, 1) := by decide +kernel
theorem dX7_goes_18 : decode cX7_goes 18 = .ok (.istore 4, 2) := by decide +kernel
theorem dX7_goes_20 : decode cX7_goes 20 = .ok (.aload_n 0, 1) := by decide +kernel
theorem dX7_goes_21 : decode cX7_goes 21 = .ok (.getfield 7, 3) := by decide +kernel
theorem dX7_goes_24 : decode cX7_goes 24 = .ok (.iload_n 3, 1) := by decide +kernel
theorem dX7_goes_25 : decode cX7_goes 25 = .ok (.iconst 4, 1) := by decide +kernel
theorem dX7_goes_26 : decode cX7_goes 26 = .ok (.iadd, 1) := by decide +kernel
theorem dX7_goes_27 : decode cX7_goes 27 = .ok (.iaload, 1) := by decide +kernel
theorem dX7_goes_28 : decode cX7_goes 28 = .ok (.iload 4, 2) := by decide +kernel
theorem dX7_goes_30 : decode cX7_goes 30 = .ok (.iadd, 1) := by decide +kernel
theorem dX7_goes_31 : decode cX7_goes 31 = .ok (.istore 5, 2) := by decide +kernel
theorem dX7_goes_33 : decode cX7_goes 33 = .ok (.aload_n 0, 1) := by decide +kernel
theorem dX7_goes_34 : decode cX7_goes 34 = .ok (.getfield 7, 3) := by decide +kernel
theorem dX7_goes_37 : decode cX7_goes 37 = .ok (.iload_n 3, 1) := by decide +kernel
theorem dX7_goes_38 : decode cX7_goes 38 = .ok (.iconst 4, 1) := by decide +kernel
theorem dX7_goes_39 : decode cX7_goes 39 = .ok (.iadd, 1) := by decide +kernel
theorem dX7_goes_40 : decode cX7_goes 40 = .ok (.iload 5, 2) := by decide +kernel
theorem dX7_goes_42 : decode cX7_goes 42 = .ok (.ifCond .ge 7, 3) := by decide +kernel
theorem dX7_goes_45 : decode cX7_goes 45 = .ok (.iconst 0, 1) := by decide +kernel
theorem dX7_goes_46 : decode cX7_goes 46 = .ok (.goto 29, 3) := by decide +kernel
theorem dX7_goes_49 : decode cX7_goes 49 = .ok (.iload 5, 2) := by decide +kernel
theorem dX7_goes_51 : decode cX7_goes 51 = .ok (.aload_n 0, 1) := by decide +kernel
theorem dX7_goes_52 : decode cX7_goes 52 = .ok (.getfield 7, 3) := by decide +kernel
theorem dX7_goes_55 : decode cX7_goes 55 = .ok (.iload_n 3, 1) := by decide +kernel
theorem dX7_goes_56 : decode cX7_goes 56 = .ok (.iconst 0, 1) := by decide +kernel
theorem dX7_goes_57 : decode cX7_goes 57 = .ok (.iadd, 1) := by decide +kernel
theorem dX7_goes_58 : decode cX7_goes 58 = .ok (.iaload, 1) := by decide +kernel
theorem dX7_goes_59 : decode cX7_goes 59 = .ok (.if_icmp .le 14, 3) := by decide +kernel
theorem dX7_goes_62 : decode cX7_goes 62 = .ok (.aload_n 0, 1) := by decide +kernel
theorem dX7_goes_63 : decode cX7_goes 63 = .ok (.getfield 7, 3) := by decide +kernel
theorem dX7_goes_66 : decode cX7_goes 66 = .ok (.iload_n 3, 1) := by decide +kernel
theorem dX7_goes_67 : decode cX7_goes 67 = .ok (.iconst 0, 1) := by decide +kernel
theorem dX7_goes_68 : decode cX7_goes 68 = .ok (.iadd, 1) := by decide +kernel
theorem dX7_goes_69 : decode cX7_goes 69 = .ok (.iaload, 1) := by decide +kernel
theorem dX7_goes_70 : decode cX7_goes 70 = .ok (.goto 5, 3) := by decide +kernel
theorem dX7_goes_73 : decode cX7_goes 73 = .ok (.iload 5, 2) := by decide +kernel
theorem dX7_goes_75 : decode cX7_goes 75 = .ok (.iastore, 1) := by decide +kernel
theorem dX7_goes_76 : decode cX7_goes 76 = .ok (.aload_n 0, 1) := by decide +kernel
theorem dX7_goes_77 : decode cX7_goes 77 = .ok (.getfield 7, 3) := by decide +kernel
theorem dX7_goes_80 : decode cX7_goes 80 = .ok (.iload_n 3, 1) := by decide +kernel
theorem dX7_goes_81 : decode cX7_goes 81 = .ok (.iconst 5, 1) := by decide +kernel
theorem dX7_goes_82 : decode cX7_goes 82 = .ok (.iadd, 1) := by decide +kernel
theorem dX7_goes_83 : decode cX7_goes 83 = .ok (.dup2, 1) := by decide +kernel
theorem dX7_goes_84 : decode cX7_goes 84 = .ok (.iaload, 1) := by decide +kernel
theorem dX7_goes_85 : decode cX7_goes 85 = .ok (.iload 4, 2) := by decide +kernel
theorem dX7_goes_87 : decode cX7_goes 87 = .ok (.ifCond .le 8, 3) := by decide +kernel
theorem dX7_goes_90 : decode cX7_goes 90 = .ok (.iload 4, 2) := by decide +kernel
theorem dX7_goes_92 : decode cX7_goes 92 = .ok (.goto 4, 3) := by decide +kernel
theorem dX7_goes_95 : decode cX7_goes 95 = .ok (.iconst 0, 1) := by decide +kernel
theorem dX7_goes_96 : decode cX7_goes 96 = .ok (.iadd, 1) := by decide +kernel
theorem dX7_goes_97 : decode cX7_goes 97 = .ok (.iastore, 1) := by decide +kernel
theorem dX7_goes_98 : decode cX7_goes 98 = .ok (.aload_n 0, 1) := by decide +kernel
theorem dX7_goes_99 : decode cX7_goes 99 = .ok (.getfield 7, 3) := by decide +kernel
theorem dX7_goes_102 : decode cX7_goes 102 = .ok (.iload_n 3, 1) := by decide +kernel
theorem dX7_goes_103 : decode cX7_goes 103 = .ok (.bipush 6, 2) := by decide +kernel
theorem dX7_goes_105 : decode cX7_goes 105 = .ok (.iadd, 1) := by decide +kernel
theorem dX7_goes_106 : decode cX7_goes 106 = .ok (.dup2, 1) := by decide +kernel
theorem dX7_goes_107 : decode cX7_goes 107 = .ok (.iaload, 1) := by decide +kernel
theorem dX7_goes_108 : decode cX7_goes 108 = .ok (.iload 4, 2) := by decide +kernel
theorem dX7_goes_110 : decode cX7_goes 110 = .ok (.ifCond .ge 9, 3) := by decide +kernel
theorem dX7_goes_113 : decode cX7_goes 113 = .ok (.iload 4, 2) := by decide +kernel
theorem dX7_goes_115 : decode cX7_goes 115 = .ok (.ineg, 1) := by decide +kernel
theorem dX7_goes_116 : decode cX7_goes 116 = .ok (.goto 4, 3) := by decide +kernel
theorem dX7_goes_119 : decode cX7_goes 119 = .ok (.iconst 0, 1) := by decide +kernel
theorem dX7_goes_120 : decode cX7_goes 120 = .ok (.iadd, 1) := by decide +kernel
theorem dX7_goes_121 : decode cX7_goes 121 = .ok (.iastore, 1) := by decide +kernel
theorem dX7_goes_122 : decode cX7_goes 122 = .ok (.aload_n 0, 1) := by decide +kernel
theorem dX7_goes_123 : decode cX7_goes 123 = .ok (.getfield 7, 3) := by decide +kernel
theorem dX7_goes_126 : decode cX7_goes 126 = .ok (.iload_n 3, 1) := by decide +kernel
theorem dX7_goes_127 : decode cX7_goes 127 = .ok (.iconst 3, 1) := by decide +kernel
theorem dX7_goes_128 : decode cX7_goes 128 = .ok (.iadd, 1) := by decide +kernel
theorem dX7_goes_129 : decode cX7_goes 129 = .ok (.iload_n 2, 1) := by decide +kernel
theorem dX7_goes_130 : decode cX7_goes 130 = .ok (.iastore, 1) := by decide +kernel
theorem dX7_goes_131 : decode cX7_goes 131 = .ok (.return_, 1) := by decide +kernel
set_option maxRecDepth 20000 in
theorem ggX7_leads_X7_finds : GoodIn wsX7_leads wsX7_finds := goodIn_r _ [8, 2, 1, 3, 9, 10, 11, 12, 7, 13, 14, 15, 16, 17, 22, 23, 24, 25, 26, 27, 28, 29, 30, 31, 32, 33] (by decide +kernel) (by decide +kernel)
set_option maxRecDepth 20000 in
theorem gX7_leads_X7_finds : GoodIn wsX7_leads (wsV RX7 58 RX7 yX7_finds wsX7_finds) := goodIn_app (goodIn_of _ (by decide +kernel)) ggX7_leads_X7_finds
set_option maxRecDepth 20000 in
theorem ggX7_leads_X7_goes : GoodIn wsX7_leads wsX7_goes := goodIn_r _ [21, 9, 22, 23, 24, 25, 26, 27, 28, 29, 30, 31, 32, 33] (by decide +kernel) (by decide +kernel)
set_option maxRecDepth 20000 in
theorem gX7_leads_X7_goes : GoodIn wsX7_leads (wsV RX7 84 RX7 yX7_goes wsX7_goes) := goodIn_app (goodIn_of _ (by decide +kernel)) ggX7_leads_X7_goes
theorem dX7_leads_0 : decode cX7_leads 0 = .ok (.aload_n 0, 1) := by decide +kernel
theorem dX7_leads_1 : decode cX7_leads 1 = .ok (.iload_n 1, 1) := by decide +kernel
theorem dX7_leads_2 : decode cX7_leads 2 = .ok (.iload_n 2, 1) := by decide +kernel
theorem dX7_leads_3 : decode cX7_leads 3 = .ok (.invokevirtual 58, 3) := by decide +kernel
theorem dX7_leads_6 : decode cX7_leads 6 = .ok (.aload_n 0, 1) := by decide +kernel
theorem dX7_leads_7 : decode cX7_leads 7 = .ok (.getfield 48, 3) := by decide +kernel
theorem dX7_leads_10 : decode cX7_leads 10 = .ok (.istore_n 3, 1) := by decide +kernel
theorem dX7_leads_11 : decode cX7_leads 11 = .ok (.aload_n 0, 1) := by decide +kernel
theorem dX7_leads_12 : decode cX7_leads 12 = .ok (.getfield 44, 3) := by decide +kernel
theorem dX7_leads_15 : decode cX7_leads 15 = .ok (.ifCond .eq 12, 3) := by decide +kernel
theorem dX7_leads_18 : decode cX7_leads 18 = .ok (.aload_n 0, 1) := by decide +kernel
theorem dX7_leads_19 : decode cX7_leads 19 = .ok (.iload_n 1, 1) := by decide +kernel
theorem dX7_leads_20 : decode cX7_leads 20 = .ok (.aload_n 0, 1) := by decide +kernel
theorem dX7_leads_21 : decode cX7_leads 21 = .ok (.getfield 51, 3) := by decide +kernel
theorem dX7_leads_24 : decode cX7_leads 24 = .ok (.invokevirtual 84, 3) := by decide +kernel
theorem dX7_leads_27 : decode cX7_leads 27 = .ok (.aload_n 0, 1) := by decide +kernel
theorem dX7_leads_28 : decode cX7_leads 28 = .ok (.iload_n 1, 1) := by decide +kernel
theorem dX7_leads_29 : decode cX7_leads 29 = .ok (.iload_n 3, 1) := by decide +kernel
theorem dX7_leads_30 : decode cX7_leads 30 = .ok (.invokevirtual 84, 3) := by decide +kernel
theorem dX7_leads_33 : decode cX7_leads 33 = .ok (.return_, 1) := by decide +kernel
set_option maxRecDepth 20000 in
theorem ggX7_slews_X7_timeOf : GoodIn wsX7_slews wsX7_timeOf := goodIn_r _ [6, 7, 8, 9, 5, 10, 1, 11, 12, 13, 14, 15, 16, 17, 18, 19, 20, 21, 22, 23, 24, 25, 26, 27, 28, 37, 38, 39, 40, 41, 42, 43, 44, 45, 46, 47, 48] (by decide +kernel) (by decide +kernel)
set_option maxRecDepth 20000 in
theorem gX7_slews_X7_timeOf : GoodIn wsX7_slews (wsV RX7 87 RX7 yX7_timeOf wsX7_timeOf) := goodIn_app (goodIn_of _ (by decide +kernel)) ggX7_slews_X7_timeOf
set_option maxRecDepth 20000 in
theorem ggX7_slews_X7_leads : GoodIn wsX7_slews wsX7_leads := goodIn_r _ [32, 17, 15, 16, 18, 19, 20, 5, 21, 1, 22, 23, 24, 25, 7, 8, 9, 10, 33, 34, 35, 36, 37, 38, 39, 40, 41, 42, 43, 44, 45, 46, 47, 48] (by decide +kernel) (by decide +kernel)
set_option maxRecDepth 20000 in
theorem gX7_slews_X7_leads : GoodIn wsX7_slews (wsV RX7 90 RX7 yX7_leads wsX7_leads) := goodIn_app (goodIn_of _ (by decide +kernel)) ggX7_slews_X7_leads
theorem dX7_slews_0 : decode cX7_slews 0 = .ok (.aload_n 0, 1) := by decide +kernel
theorem dX7_slews_1 : decode cX7_slews 1 = .ok (.iconst 0, 1) := by decide +kernel
theorem dX7_slews_2 : decode cX7_slews 2 = .ok (.iload_n 1, 1) := by decide +kernel
theorem dX7_slews_3 : decode cX7_slews 3 = .ok (.invokevirtual 87, 3) := by decide +kernel
theorem dX7_slews_6 : decode cX7_slews 6 = .ok (.istore_n 3, 1) := by decide +kernel
theorem dX7_slews_7 : decode cX7_slews 7 = .ok (.aload_n 0, 1) := by decide +kernel
theorem dX7_slews_8 : decode cX7_slews 8 = .ok (.iconst 1, 1) := by decide +kernel
theorem dX7_slews_9 : decode cX7_slews 9 = .ok (.iload_n 2, 1) := by decide +kernel
theorem dX7_slews_10 : decode cX7_slews 10 = .ok (.invokevirtual 87, 3) := by decide +kernel
theorem dX7_slews_13 : decode cX7_slews 13 = .ok (.istore 4, 2) := by decide +kernel
theorem dX7_slews_15 : decode cX7_slews 15 = .ok (.aload_n 0, 1) := by decide +kernel
theorem dX7_slews_16 : decode cX7_slews 16 = .ok (.iconst 0, 1) := by decide +kernel
theorem dX7_slews_17 : decode cX7_slews 17 = .ok (.iload_n 1, 1) := by decide +kernel
theorem dX7_slews_18 : decode cX7_slews 18 = .ok (.invokevirtual 90, 3) := by decide +kernel
theorem dX7_slews_21 : decode cX7_slews 21 = .ok (.aload_n 0, 1) := by decide +kernel
theorem dX7_slews_22 : decode cX7_slews 22 = .ok (.iconst 1, 1) := by decide +kernel
theorem dX7_slews_23 : decode cX7_slews 23 = .ok (.iload_n 2, 1) := by decide +kernel
theorem dX7_slews_24 : decode cX7_slews 24 = .ok (.invokevirtual 90, 3) := by decide +kernel
theorem dX7_slews_27 : decode cX7_slews 27 = .ok (.aload_n 0, 1) := by decide +kernel
theorem dX7_slews_28 : decode cX7_slews 28 = .ok (.getfield 7, 3) := by decide +kernel
theorem dX7_slews_31 : decode cX7_slews 31 = .ok (.iconst 5, 1) := by decide +kernel
theorem dX7_slews_32 : decode cX7_slews 32 = .ok (.dup2, 1) := by decide +kernel
theorem dX7_slews_33 : decode cX7_slews 33 = .ok (.iaload, 1) := by decide +kernel
theorem dX7_slews_34 : decode cX7_slews 34 = .ok (.iconst 1, 1) := by decide +kernel
theorem dX7_slews_35 : decode cX7_slews 35 = .ok (.iadd, 1) := by decide +kernel
theorem dX7_slews_36 : decode cX7_slews 36 = .ok (.iastore, 1) := by decide +kernel
theorem dX7_slews_37 : decode cX7_slews 37 = .ok (.iload_n 3, 1) := by decide +kernel
theorem dX7_slews_38 : decode cX7_slews 38 = .ok (.iload 4, 2) := by decide +kernel
theorem dX7_slews_40 : decode cX7_slews 40 = .ok (.if_icmp .le 7, 3) := by decide +kernel
theorem dX7_slews_43 : decode cX7_slews 43 = .ok (.iload_n 3, 1) := by decide +kernel
theorem dX7_slews_44 : decode cX7_slews 44 = .ok (.goto 5, 3) := by decide +kernel
theorem dX7_slews_47 : decode cX7_slews 47 = .ok (.iload 4, 2) := by decide +kernel
theorem dX7_slews_49 : decode cX7_slews 49 = .ok (.ireturn, 1) := by decide +kernel
theorem dX7_mostOf_0 : decode cX7_mostOf 0 = .ok (.iload_n 0, 1) := by decide +kernel
theorem dX7_mostOf_1 : decode cX7_mostOf 1 = .ok (.ifCond .ne 9, 3) := by decide +kernel
theorem dX7_mostOf_4 : decode cX7_mostOf 4 = .ok (.sipush 500, 3) := by decide +kernel
theorem dX7_mostOf_7 : decode cX7_mostOf 7 = .ok (.goto 16, 3) := by decide +kernel
theorem dX7_mostOf_10 : decode cX7_mostOf 10 = .ok (.iload_n 0, 1) := by decide +kernel
theorem dX7_mostOf_11 : decode cX7_mostOf 11 = .ok (.iconst 1, 1) := by decide +kernel
theorem dX7_mostOf_12 : decode cX7_mostOf 12 = .ok (.if_icmp .ne 9, 3) := by decide +kernel
theorem dX7_mostOf_15 : decode cX7_mostOf 15 = .ok (.sipush 27000, 3) := by decide +kernel
theorem dX7_mostOf_18 : decode cX7_mostOf 18 = .ok (.goto 5, 3) := by decide +kernel
theorem dX7_mostOf_21 : decode cX7_mostOf 21 = .ok (.bipush 100, 2) := by decide +kernel
theorem dX7_mostOf_23 : decode cX7_mostOf 23 = .ok (.ireturn, 1) := by decide +kernel
set_option maxRecDepth 20000 in
theorem ggX7_set_X7_in : GoodIn wsX7_set wsX7_in := goodIn_r _ [6] (by decide +kernel) (by decide +kernel)
set_option maxRecDepth 20000 in
theorem gX7_set_X7_in : GoodIn wsX7_set (va_wsS RX7 54 yX7_in wsX7_in) := goodIn_app (goodIn_of _ (by decide +kernel)) ggX7_set_X7_in
set_option maxRecDepth 20000 in
theorem ggX7_set_X7_mostOf : GoodIn wsX7_set wsX7_mostOf := goodIn_r _ [9] (by decide +kernel) (by decide +kernel)
set_option maxRecDepth 20000 in
theorem gX7_set_X7_mostOf : GoodIn wsX7_set (va_wsS RX7 93 yX7_mostOf wsX7_mostOf) := goodIn_app (goodIn_of _ (by decide +kernel)) ggX7_set_X7_mostOf
set_option maxRecDepth 20000 in
theorem ggX7_set_X7_records : GoodIn wsX7_set wsX7_records := goodIn_r _ [13, 14, 15, 2, 16, 17, 18, 19, 20, 21, 22, 23, 24, 25, 26, 27] (by decide +kernel) (by decide +kernel)
set_option maxRecDepth 20000 in
theorem gX7_set_X7_records : GoodIn wsX7_set (wsV RX7 97 RX7 yX7_records wsX7_records) := goodIn_app (goodIn_of _ (by decide +kernel)) ggX7_set_X7_records
theorem dX7_set_0 : decode cX7_set 0 = .ok (.iload_n 1, 1) := by decide +kernel
theorem dX7_set_1 : decode cX7_set 1 = .ok (.iconst 0, 1) := by decide +kernel
theorem dX7_set_2 : decode cX7_set 2 = .ok (.iconst 3, 1) := by decide +kernel
theorem dX7_set_3 : decode cX7_set 3 = .ok (.invokestatic 54, 3) := by decide +kernel
theorem dX7_set_6 : decode cX7_set 6 = .ok (.ifCond .eq 15, 3) := by decide +kernel
theorem dX7_set_9 : decode cX7_set 9 = .ok (.iload_n 2, 1) := by decide +kernel
theorem dX7_set_10 : decode cX7_set 10 = .ok (.iconst 0, 1) := by decide +kernel
theorem dX7_set_11 : decode cX7_set 11 = .ok (.iload_n 1, 1) := by decide +kernel
theorem dX7_set_12 : decode cX7_set 12 = .ok (.invokestatic 93, 3) := by decide +kernel
theorem dX7_set_15 : decode cX7_set 15 = .ok (.invokestatic 54, 3) := by decide +kernel
theorem dX7_set_18 : decode cX7_set 18 = .ok (.ifCond .ne 6, 3) := by decide +kernel
theorem dX7_set_21 : decode cX7_set 21 = .ok (.ldc 96, 2) := by decide +kernel
theorem dX7_set_23 : decode cX7_set 23 = .ok (.ireturn, 1) := by decide +kernel
theorem dX7_set_24 : decode cX7_set 24 = .ok (.aload_n 0, 1) := by decide +kernel
theorem dX7_set_25 : decode cX7_set 25 = .ok (.invokevirtual 97, 3) := by decide +kernel
theorem dX7_set_28 : decode cX7_set 28 = .ok (.aload_n 0, 1) := by decide +kernel
theorem dX7_set_29 : decode cX7_set 29 = .ok (.getfield 7, 3) := by decide +kernel
theorem dX7_set_32 : decode cX7_set 32 = .ok (.iload_n 1, 1) := by decide +kernel
theorem dX7_set_33 : decode cX7_set 33 = .ok (.iaload, 1) := by decide +kernel
theorem dX7_set_34 : decode cX7_set 34 = .ok (.istore_n 3, 1) := by decide +kernel
theorem dX7_set_35 : decode cX7_set 35 = .ok (.aload_n 0, 1) := by decide +kernel
theorem dX7_set_36 : decode cX7_set 36 = .ok (.getfield 7, 3) := by decide +kernel
theorem dX7_set_39 : decode cX7_set 39 = .ok (.iload_n 1, 1) := by decide +kernel
theorem dX7_set_40 : decode cX7_set 40 = .ok (.iload_n 2, 1) := by decide +kernel
theorem dX7_set_41 : decode cX7_set 41 = .ok (.iastore, 1) := by decide +kernel
theorem dX7_set_42 : decode cX7_set 42 = .ok (.iload_n 3, 1) := by decide +kernel
theorem dX7_set_43 : decode cX7_set 43 = .ok (.ireturn, 1) := by decide +kernel
set_option maxRecDepth 20000 in
theorem ggX7_isOfAxis_X7_in : GoodIn wsX7_isOfAxis wsX7_in := goodIn_r _ [4] (by decide +kernel) (by decide +kernel)
set_option maxRecDepth 20000 in
theorem gX7_isOfAxis_X7_in : GoodIn wsX7_isOfAxis (va_wsS RX7 54 yX7_in wsX7_in) := goodIn_app (goodIn_of _ (by decide +kernel)) ggX7_isOfAxis_X7_in
theorem dX7_isOfAxis_0 : decode cX7_isOfAxis 0 = .ok (.iload_n 0, 1) := by decide +kernel
theorem dX7_isOfAxis_1 : decode cX7_isOfAxis 1 = .ok (.tableswitch 52 0 2 #[27, 36, 43], 27) := by decide +kernel
theorem dX7_isOfAxis_28 : decode cX7_isOfAxis 28 = .ok (.iload_n 1, 1) := by decide +kernel
theorem dX7_isOfAxis_29 : decode cX7_isOfAxis 29 = .ok (.iconst 0, 1) := by decide +kernel
theorem dX7_isOfAxis_30 : decode cX7_isOfAxis 30 = .ok (.sipush 300, 3) := by decide +kernel
theorem dX7_isOfAxis_33 : decode cX7_isOfAxis 33 = .ok (.invokestatic 54, 3) := by decide +kernel
theorem dX7_isOfAxis_36 : decode cX7_isOfAxis 36 = .ok (.ireturn, 1) := by decide +kernel
theorem dX7_isOfAxis_37 : decode cX7_isOfAxis 37 = .ok (.iload_n 1, 1) := by decide +kernel
theorem dX7_isOfAxis_38 : decode cX7_isOfAxis 38 = .ok (.iconst 0, 1) := by decide +kernel
theorem dX7_isOfAxis_39 : decode cX7_isOfAxis 39 = .ok (.iconst 2, 1) := by decide +kernel
theorem dX7_isOfAxis_40 : decode cX7_isOfAxis 40 = .ok (.invokestatic 54, 3) := by decide +kernel
theorem dX7_isOfAxis_43 : decode cX7_isOfAxis 43 = .ok (.ireturn, 1) := by decide +kernel
theorem dX7_isOfAxis_44 : decode cX7_isOfAxis 44 = .ok (.iload_n 1, 1) := by decide +kernel
theorem dX7_isOfAxis_45 : decode cX7_isOfAxis 45 = .ok (.iconst 1, 1) := by decide +kernel
theorem dX7_isOfAxis_46 : decode cX7_isOfAxis 46 = .ok (.sipush 2000, 3) := by decide +kernel
theorem dX7_isOfAxis_49 : decode cX7_isOfAxis 49 = .ok (.invokestatic 54, 3) := by decide +kernel
theorem dX7_isOfAxis_52 : decode cX7_isOfAxis 52 = .ok (.ireturn, 1) := by decide +kernel
theorem dX7_isOfAxis_53 : decode cX7_isOfAxis 53 = .ok (.iconst 0, 1) := by decide +kernel
theorem dX7_isOfAxis_54 : decode cX7_isOfAxis 54 = .ok (.ireturn, 1) := by decide +kernel
set_option maxRecDepth 20000 in
theorem ggX7_setAxis_X7_in : GoodIn wsX7_setAxis wsX7_in := goodIn_r _ [6] (by decide +kernel) (by decide +kernel)
set_option maxRecDepth 20000 in
theorem gX7_setAxis_X7_in : GoodIn wsX7_setAxis (va_wsS RX7 54 yX7_in wsX7_in) := goodIn_app (goodIn_of _ (by decide +kernel)) ggX7_setAxis_X7_in
set_option maxRecDepth 20000 in
theorem ggX7_setAxis_X7_isOfAxis : GoodIn wsX7_setAxis wsX7_isOfAxis := goodIn_r _ [9, 3, 4, 5, 6] (by decide +kernel) (by decide +kernel)
set_option maxRecDepth 20000 in
theorem gX7_setAxis_X7_isOfAxis : GoodIn wsX7_setAxis (va_wsS RX7 100 yX7_isOfAxis wsX7_isOfAxis) := goodIn_app (goodIn_of _ (by decide +kernel)) ggX7_setAxis_X7_isOfAxis
set_option maxRecDepth 20000 in
theorem ggX7_setAxis_X7_records : GoodIn wsX7_setAxis wsX7_records := goodIn_r _ [13, 14, 15, 2, 16, 17, 18, 19, 20, 21, 22, 23, 24, 25, 26, 27] (by decide +kernel) (by decide +kernel)
set_option maxRecDepth 20000 in
theorem gX7_setAxis_X7_records : GoodIn wsX7_setAxis (wsV RX7 97 RX7 yX7_records wsX7_records) := goodIn_app (goodIn_of _ (by decide +kernel)) ggX7_setAxis_X7_records
theorem dX7_setAxis_0 : decode cX7_setAxis 0 = .ok (.iload_n 1, 1) := by decide +kernel
theorem dX7_setAxis_1 : decode cX7_setAxis 1 = .ok (.iconst 0, 1) := by decide +kernel
theorem dX7_setAxis_2 : decode cX7_setAxis 2 = .ok (.iconst 1, 1) := by decide +kernel
theorem dX7_setAxis_3 : decode cX7_setAxis 3 = .ok (.invokestatic 54, 3) := by decide +kernel
theorem dX7_setAxis_6 : decode cX7_setAxis 6 = .ok (.ifCond .eq 11, 3) := by decide +kernel
theorem dX7_setAxis_9 : decode cX7_setAxis 9 = .ok (.iload_n 2, 1) := by decide +kernel
theorem dX7_setAxis_10 : decode cX7_setAxis 10 = .ok (.iload_n 3, 1) := by decide +kernel
theorem dX7_setAxis_11 : decode cX7_setAxis 11 = .ok (.invokestatic 100, 3) := by decide +kernel
theorem dX7_setAxis_14 : decode cX7_setAxis 14 = .ok (.ifCond .ne 6, 3) := by decide +kernel
theorem dX7_setAxis_17 : decode cX7_setAxis 17 = .ok (.ldc 96, 2) := by decide +kernel
theorem dX7_setAxis_19 : decode cX7_setAxis 19 = .ok (.ireturn, 1) := by decide +kernel
theorem dX7_setAxis_20 : decode cX7_setAxis 20 = .ok (.aload_n 0, 1) := by decide +kernel
theorem dX7_setAxis_21 : decode cX7_setAxis 21 = .ok (.invokevirtual 97, 3) := by decide +kernel
theorem dX7_setAxis_24 : decode cX7_setAxis 24 = .ok (.bipush 39, 2) := by decide +kernel
theorem dX7_setAxis_26 : decode cX7_setAxis 26 = .ok (.bipush 7, 2) := by decide +kernel
theorem dX7_setAxis_28 : decode cX7_setAxis 28 = .ok (.iload_n 1, 1) := by decide +kernel
theorem dX7_setAxis_29 : decode cX7_setAxis 29 = .ok (.imul, 1) := by decide +kernel
theorem dX7_setAxis_30 : decode cX7_setAxis 30 = .ok (.iadd, 1) := by decide +kernel
theorem dX7_setAxis_31 : decode cX7_setAxis 31 = .ok (.istore 4, 2) := by decide +kernel
theorem dX7_setAxis_33 : decode cX7_setAxis 33 = .ok (.aload_n 0, 1) := by decide +kernel
theorem dX7_setAxis_34 : decode cX7_setAxis 34 = .ok (.getfield 7, 3) := by decide +kernel
theorem dX7_setAxis_37 : decode cX7_setAxis 37 = .ok (.iload 4, 2) := by decide +kernel
theorem dX7_setAxis_39 : decode cX7_setAxis 39 = .ok (.iload_n 2, 1) := by decide +kernel
theorem dX7_setAxis_40 : decode cX7_setAxis 40 = .ok (.iadd, 1) := by decide +kernel
theorem dX7_setAxis_41 : decode cX7_setAxis 41 = .ok (.iaload, 1) := by decide +kernel
theorem dX7_setAxis_42 : decode cX7_setAxis 42 = .ok (.istore 5, 2) := by decide +kernel
theorem dX7_setAxis_44 : decode cX7_setAxis 44 = .ok (.aload_n 0, 1) := by decide +kernel
theorem dX7_setAxis_45 : decode cX7_setAxis 45 = .ok (.getfield 7, 3) := by decide +kernel
theorem dX7_setAxis_48 : decode cX7_setAxis 48 = .ok (.iload 4, 2) := by decide +kernel
theorem dX7_setAxis_50 : decode cX7_setAxis 50 = .ok (.iload_n 2, 1) := by decide +kernel
theorem dX7_setAxis_51 : decode cX7_setAxis 51 = .ok (.iadd, 1) := by decide +kernel
theorem dX7_setAxis_52 : decode cX7_setAxis 52 = .ok (.iload_n 3, 1) := by decide +kernel
theorem dX7_setAxis_53 : decode cX7_setAxis 53 = .ok (.iastore, 1) := by decide +kernel
theorem dX7_setAxis_54 : decode cX7_setAxis 54 = .ok (.aload_n 0, 1) := by decide +kernel
theorem dX7_setAxis_55 : decode cX7_setAxis 55 = .ok (.getfield 7, 3) := by decide +kernel
theorem dX7_setAxis_58 : decode cX7_setAxis 58 = .ok (.iload 4, 2) := by decide +kernel
theorem dX7_setAxis_60 : decode cX7_setAxis 60 = .ok (.iconst 4, 1) := by decide +kernel
theorem dX7_setAxis_61 : decode cX7_setAxis 61 = .ok (.iadd, 1) := by decide +kernel
theorem dX7_setAxis_62 : decode cX7_setAxis 62 = .ok (.aload_n 0, 1) := by decide +kernel
theorem dX7_setAxis_63 : decode cX7_setAxis 63 = .ok (.getfield 7, 3) := by decide +kernel
theorem dX7_setAxis_66 : decode cX7_setAxis 66 = .ok (.iload 4, 2) := by decide +kernel
theorem dX7_setAxis_68 : decode cX7_setAxis 68 = .ok (.iconst 4, 1) := by decide +kernel
theorem dX7_setAxis_69 : decode cX7_setAxis 69 = .ok (.iadd, 1) := by decide +kernel
theorem dX7_setAxis_70 : decode cX7_setAxis 70 = .ok (.iaload, 1) := by decide +kernel
theorem dX7_setAxis_71 : decode cX7_setAxis 71 = .ok (.aload_n 0, 1) := by decide +kernel
theorem dX7_setAxis_72 : decode cX7_setAxis 72 = .ok (.getfield 7, 3) := by decide +kernel
theorem dX7_setAxis_75 : decode cX7_setAxis 75 = .ok (.iload 4, 2) := by decide +kernel
theorem dX7_setAxis_77 : decode cX7_setAxis 77 = .ok (.iconst 0, 1) := by decide +kernel
theorem dX7_setAxis_78 : decode cX7_setAxis 78 = .ok (.iadd, 1) := by decide +kernel
theorem dX7_setAxis_79 : decode cX7_setAxis 79 = .ok (.iaload, 1) := by decide +kernel
theorem dX7_setAxis_80 : decode cX7_setAxis 80 = .ok (.if_icmp .le 15, 3) := by decide +kernel
theorem dX7_setAxis_83 : decode cX7_setAxis 83 = .ok (.aload_n 0, 1) := by decide +kernel
theorem dX7_setAxis_84 : decode cX7_setAxis 84 = .ok (.getfield 7, 3) := by decide +kernel
theorem dX7_setAxis_87 : decode cX7_setAxis 87 = .ok (.iload 4, 2) := by decide +kernel
theorem dX7_setAxis_89 : decode cX7_setAxis 89 = .ok (.iconst 0, 1) := by decide +kernel
theorem dX7_setAxis_90 : decode cX7_setAxis 90 = .ok (.iadd, 1) := by decide +kernel
theorem dX7_setAxis_91 : decode cX7_setAxis 91 = .ok (.iaload, 1) := by decide +kernel
theorem dX7_setAxis_92 : decode cX7_setAxis 92 = .ok (.goto 12, 3) := by decide +kernel
theorem dX7_setAxis_95 : decode cX7_setAxis 95 = .ok (.aload_n 0, 1) := by decide +kernel
theorem dX7_setAxis_96 : decode cX7_setAxis 96 = .ok (.getfield 7, 3) := by decide +kernel
theorem dX7_setAxis_99 : decode cX7_setAxis 99 = .ok (.iload 4, 2) := by decide +kernel
theorem dX7_setAxis_101 : decode cX7_setAxis 101 = .ok (.iconst 4, 1) := by decide +kernel
theorem dX7_setAxis_102 : decode cX7_setAxis 102 = .ok (.iadd, 1) := by decide +kernel
theorem dX7_setAxis_103 : decode cX7_setAxis 103 = .ok (.iaload, 1) := by decide +kernel
theorem dX7_setAxis_104 : decode cX7_setAxis 104 = .ok (.iastore, 1) := by decide +kernel
theorem dX7_setAxis_105 : decode cX7_setAxis 105 = .ok (.iload 5, 2) := by decide +kernel
theorem dX7_setAxis_107 : decode cX7_setAxis 107 = .ok (.ireturn, 1) := by decide +kernel
set_option maxRecDepth 20000 in
theorem ggX7_gust_X7_in : GoodIn wsX7_gust wsX7_in := goodIn_r _ [7] (by decide +kernel) (by decide +kernel)
set_option maxRecDepth 20000 in
theorem gX7_gust_X7_in : GoodIn wsX7_gust (va_wsS RX7 54 yX7_in wsX7_in) := goodIn_app (goodIn_of _ (by decide +kernel)) ggX7_gust_X7_in
set_option maxRecDepth 20000 in
theorem ggX7_gust_X7_records : GoodIn wsX7_gust wsX7_records := goodIn_r _ [11, 12, 13, 2, 14, 15, 16, 17, 18, 19, 20, 21, 22, 23, 24, 25] (by decide +kernel) (by decide +kernel)
set_option maxRecDepth 20000 in
theorem gX7_gust_X7_records : GoodIn wsX7_gust (wsV RX7 97 RX7 yX7_records wsX7_records) := goodIn_app (goodIn_of _ (by decide +kernel)) ggX7_gust_X7_records
theorem dX7_gust_0 : decode cX7_gust 0 = .ok (.iload_n 1, 1) := by decide +kernel
theorem dX7_gust_1 : decode cX7_gust 1 = .ok (.iconst 0, 1) := by decide +kernel
theorem dX7_gust_2 : decode cX7_gust 2 = .ok (.bipush 29, 2) := by decide +kernel
theorem dX7_gust_4 : decode cX7_gust 4 = .ok (.invokestatic 54, 3) := by decide +kernel
theorem dX7_gust_7 : decode cX7_gust 7 = .ok (.ifCond .eq 13, 3) := by decide +kernel
theorem dX7_gust_10 : decode cX7_gust 10 = .ok (.iload_n 2, 1) := by decide +kernel
theorem dX7_gust_11 : decode cX7_gust 11 = .ok (.iconst 0, 1) := by decide +kernel
theorem dX7_gust_12 : decode cX7_gust 12 = .ok (.bipush 99, 2) := by decide +kernel
theorem dX7_gust_14 : decode cX7_gust 14 = .ok (.invokestatic 54, 3) := by decide +kernel
theorem dX7_gust_17 : decode cX7_gust 17 = .ok (.ifCond .ne 6, 3) := by decide +kernel
theorem dX7_gust_20 : decode cX7_gust 20 = .ok (.ldc 96, 2) := by decide +kernel
theorem dX7_gust_22 : decode cX7_gust 22 = .ok (.ireturn, 1) := by decide +kernel
theorem dX7_gust_23 : decode cX7_gust 23 = .ok (.sipush 1440, 3) := by decide +kernel
theorem dX7_gust_26 : decode cX7_gust 26 = .ok (.iload_n 1, 1) := by decide +kernel
theorem dX7_gust_27 : decode cX7_gust 27 = .ok (.imul, 1) := by decide +kernel
theorem dX7_gust_28 : decode cX7_gust 28 = .ok (.aload_n 0, 1) := by decide +kernel
theorem dX7_gust_29 : decode cX7_gust 29 = .ok (.getfield 7, 3) := by decide +kernel
theorem dX7_gust_32 : decode cX7_gust 32 = .ok (.iconst 4, 1) := by decide +kernel
theorem dX7_gust_33 : decode cX7_gust 33 = .ok (.iaload, 1) := by decide +kernel
theorem dX7_gust_34 : decode cX7_gust 34 = .ok (.if_icmp .ge 6, 3) := by decide +kernel
theorem dX7_gust_37 : decode cX7_gust 37 = .ok (.ldc 103, 2) := by decide +kernel
theorem dX7_gust_39 : decode cX7_gust 39 = .ok (.ireturn, 1) := by decide +kernel
theorem dX7_gust_40 : decode cX7_gust 40 = .ok (.aload_n 0, 1) := by decide +kernel
theorem dX7_gust_41 : decode cX7_gust 41 = .ok (.invokevirtual 97, 3) := by decide +kernel
theorem dX7_gust_44 : decode cX7_gust 44 = .ok (.aload_n 0, 1) := by decide +kernel
theorem dX7_gust_45 : decode cX7_gust 45 = .ok (.getfield 7, 3) := by decide +kernel
theorem dX7_gust_48 : decode cX7_gust 48 = .ok (.bipush 8, 2) := by decide +kernel
theorem dX7_gust_50 : decode cX7_gust 50 = .ok (.iload_n 1, 1) := by decide +kernel
theorem dX7_gust_51 : decode cX7_gust 51 = .ok (.iadd, 1) := by decide +kernel
theorem dX7_gust_52 : decode cX7_gust 52 = .ok (.iaload, 1) := by decide +kernel
theorem dX7_gust_53 : decode cX7_gust 53 = .ok (.istore_n 3, 1) := by decide +kernel
theorem dX7_gust_54 : decode cX7_gust 54 = .ok (.aload_n 0, 1) := by decide +kernel
theorem dX7_gust_55 : decode cX7_gust 55 = .ok (.getfield 7, 3) := by decide +kernel
theorem dX7_gust_58 : decode cX7_gust 58 = .ok (.bipush 8, 2) := by decide +kernel
theorem dX7_gust_60 : decode cX7_gust 60 = .ok (.iload_n 1, 1) := by decide +kernel
theorem dX7_gust_61 : decode cX7_gust 61 = .ok (.iadd, 1) := by decide +kernel
theorem dX7_gust_62 : decode cX7_gust 62 = .ok (.iload_n 2, 1) := by decide +kernel
theorem dX7_gust_63 : decode cX7_gust 63 = .ok (.iastore, 1) := by decide +kernel
theorem dX7_gust_64 : decode cX7_gust 64 = .ok (.iload_n 3, 1) := by decide +kernel
theorem dX7_gust_65 : decode cX7_gust 65 = .ok (.ireturn, 1) := by decide +kernel
set_option maxRecDepth 20000 in
theorem ggX7_underWay_X7_of : GoodIn wsX7_underWay wsX7_of := goodIn_r _ [7, 1, 8, 9, 10, 11, 12, 13, 14, 15, 16, 17, 18, 19] (by decide +kernel) (by decide +kernel)
set_option maxRecDepth 20000 in
theorem gX7_underWay_X7_of : GoodIn wsX7_underWay (wsV RX7 104 RX7 yX7_of wsX7_of) := goodIn_app (goodIn_of _ (by decide +kernel)) ggX7_underWay_X7_of
theorem dX7_underWay_0 : decode cX7_underWay 0 = .ok (.iconst 0, 1) := by decide +kernel
theorem dX7_underWay_1 : decode cX7_underWay 1 = .ok (.istore_n 1, 1) := by decide +kernel
theorem dX7_underWay_2 : decode cX7_underWay 2 = .ok (.iload_n 1, 1) := by decide +kernel
theorem dX7_underWay_3 : decode cX7_underWay 3 = .ok (.aload_n 0, 1) := by decide +kernel
theorem dX7_underWay_4 : decode cX7_underWay 4 = .ok (.getfield 7, 3) := by decide +kernel
theorem dX7_underWay_7 : decode cX7_underWay 7 = .ok (.bipush 7, 2) := by decide +kernel
theorem dX7_underWay_9 : decode cX7_underWay 9 = .ok (.iaload, 1) := by decide +kernel
theorem dX7_underWay_10 : decode cX7_underWay 10 = .ok (.if_icmp .ge 22, 3) := by decide +kernel
theorem dX7_underWay_13 : decode cX7_underWay 13 = .ok (.aload_n 0, 1) := by decide +kernel
theorem dX7_underWay_14 : decode cX7_underWay 14 = .ok (.iload_n 1, 1) := by decide +kernel
theorem dX7_underWay_15 : decode cX7_underWay 15 = .ok (.bipush 6, 2) := by decide +kernel
theorem dX7_underWay_17 : decode cX7_underWay 17 = .ok (.invokevirtual 104, 3) := by decide +kernel
theorem dX7_underWay_20 : decode cX7_underWay 20 = .ok (.iconst 1, 1) := by decide +kernel
theorem dX7_underWay_21 : decode cX7_underWay 21 = .ok (.if_icmp .ne 5, 3) := by decide +kernel
theorem dX7_underWay_24 : decode cX7_underWay 24 = .ok (.iload_n 1, 1) := by decide +kernel
theorem dX7_underWay_25 : decode cX7_underWay 25 = .ok (.ireturn, 1) := by decide +kernel
theorem dX7_underWay_26 : decode cX7_underWay 26 = .ok (.iinc 1 1, 3) := by decide +kernel
theorem dX7_underWay_29 : decode cX7_underWay 29 = .ok (.goto (-27), 3) := by decide +kernel
theorem dX7_underWay_32 : decode cX7_underWay 32 = .ok (.ldc 80, 2) := by decide +kernel
theorem dX7_underWay_34 : decode cX7_underWay 34 = .ok (.ireturn, 1) := by decide +kernel
set_option maxRecDepth 20000 in
theorem ggX7_manyIn_X7_of : GoodIn wsX7_manyIn wsX7_of := goodIn_r _ [6, 1, 7, 8, 9, 10, 11, 12, 13, 14, 15, 16, 17, 18] (by decide +kernel) (by decide +kernel)
set_option maxRecDepth 20000 in
theorem gX7_manyIn_X7_of : GoodIn wsX7_manyIn (wsV RX7 104 RX7 yX7_of wsX7_of) := goodIn_app (goodIn_of _ (by decide +kernel)) ggX7_manyIn_X7_of
theorem dX7_manyIn_0 : decode cX7_manyIn 0 = .ok (.iconst 0, 1) := by decide +kernel
theorem dX7_manyIn_1 : decode cX7_manyIn 1 = .ok (.istore_n 2, 1) := by decide +kernel
theorem dX7_manyIn_2 : decode cX7_manyIn 2 = .ok (.iconst 0, 1) := by decide +kernel
theorem dX7_manyIn_3 : decode cX7_manyIn 3 = .ok (.istore_n 3, 1) := by decide +kernel
theorem dX7_manyIn_4 : decode cX7_manyIn 4 = .ok (.iload_n 3, 1) := by decide +kernel
theorem dX7_manyIn_5 : decode cX7_manyIn 5 = .ok (.aload_n 0, 1) := by decide +kernel
theorem dX7_manyIn_6 : decode cX7_manyIn 6 = .ok (.getfield 7, 3) := by decide +kernel
theorem dX7_manyIn_9 : decode cX7_manyIn 9 = .ok (.bipush 7, 2) := by decide +kernel
theorem dX7_manyIn_11 : decode cX7_manyIn 11 = .ok (.iaload, 1) := by decide +kernel
theorem dX7_manyIn_12 : decode cX7_manyIn 12 = .ok (.if_icmp .ge 28, 3) := by decide +kernel
theorem dX7_manyIn_15 : decode cX7_manyIn 15 = .ok (.iload_n 2, 1) := by decide +kernel
theorem dX7_manyIn_16 : decode cX7_manyIn 16 = .ok (.aload_n 0, 1) := by decide +kernel
theorem dX7_manyIn_17 : decode cX7_manyIn 17 = .ok (.iload_n 3, 1) := by decide +kernel
theorem dX7_manyIn_18 : decode cX7_manyIn 18 = .ok (.bipush 6, 2) := by decide +kernel
theorem dX7_manyIn_20 : decode cX7_manyIn 20 = .ok (.invokevirtual 104, 3) := by decide +kernel
theorem dX7_manyIn_23 : decode cX7_manyIn 23 = .ok (.iload_n 1, 1) := by decide +kernel
theorem dX7_manyIn_24 : decode cX7_manyIn 24 = .ok (.if_icmp .ne 7, 3) := by decide +kernel
theorem dX7_manyIn_27 : decode cX7_manyIn 27 = .ok (.iconst 1, 1) := by decide +kernel
theorem dX7_manyIn_28 : decode cX7_manyIn 28 = .ok (.goto 4, 3) := by decide +kernel
theorem dX7_manyIn_31 : decode cX7_manyIn 31 = .ok (.iconst 0, 1) := by decide +kernel
theorem dX7_manyIn_32 : decode cX7_manyIn 32 = .ok (.iadd, 1) := by decide +kernel
theorem dX7_manyIn_33 : decode cX7_manyIn 33 = .ok (.istore_n 2, 1) := by decide +kernel
theorem dX7_manyIn_34 : decode cX7_manyIn 34 = .ok (.iinc 3 1, 3) := by decide +kernel
theorem dX7_manyIn_37 : decode cX7_manyIn 37 = .ok (.goto (-33), 3) := by decide +kernel
theorem dX7_manyIn_40 : decode cX7_manyIn 40 = .ok (.iload_n 2, 1) := by decide +kernel
theorem dX7_manyIn_41 : decode cX7_manyIn 41 = .ok (.ireturn, 1) := by decide +kernel
set_option maxRecDepth 20000 in
theorem ggX7_minutesLeft_X7_underWay : GoodIn wsX7_minutesLeft wsX7_underWay := goodIn_r _ [7, 2, 1, 8, 9, 10, 6, 11, 12, 13, 14, 15, 16, 17, 18, 19, 20, 21, 22, 23] (by decide +kernel) (by decide +kernel)
set_option maxRecDepth 20000 in
theorem gX7_minutesLeft_X7_underWay : GoodIn wsX7_minutesLeft (wsV RX7 107 RX7 yX7_underWay wsX7_underWay) := goodIn_app (goodIn_of _ (by decide +kernel)) ggX7_minutesLeft_X7_underWay
set_option maxRecDepth 20000 in
theorem ggX7_minutesLeft_X7_of : GoodIn wsX7_minutesLeft wsX7_of := goodIn_r _ [11, 2, 12, 13, 14, 15, 16, 17, 18, 19, 20, 21, 22, 23] (by decide +kernel) (by decide +kernel)
set_option maxRecDepth 20000 in
theorem gX7_minutesLeft_X7_of : GoodIn wsX7_minutesLeft (wsV RX7 104 RX7 yX7_of wsX7_of) := goodIn_app (goodIn_of _ (by decide +kernel)) ggX7_minutesLeft_X7_of
theorem dX7_minutesLeft_0 : decode cX7_minutesLeft 0 = .ok (.aload_n 0, 1) := by decide +kernel
theorem dX7_minutesLeft_1 : decode cX7_minutesLeft 1 = .ok (.invokevirtual 107, 3) := by decide +kernel
theorem dX7_minutesLeft_4 : decode cX7_minutesLeft 4 = .ok (.istore_n 1, 1) := by decide +kernel
theorem dX7_minutesLeft_5 : decode cX7_minutesLeft 5 = .ok (.iload_n 1, 1) := by decide +kernel
theorem dX7_minutesLeft_6 : decode cX7_minutesLeft 6 = .ok (.ldc 80, 2) := by decide +kernel
theorem dX7_minutesLeft_8 : decode cX7_minutesLeft 8 = .ok (.if_icmp .ne 8, 3) := by decide +kernel
theorem dX7_minutesLeft_11 : decode cX7_minutesLeft 11 = .ok (.ldc 80, 2) := by decide +kernel
theorem dX7_minutesLeft_13 : decode cX7_minutesLeft 13 = .ok (.goto 17, 3) := by decide +kernel
theorem dX7_minutesLeft_16 : decode cX7_minutesLeft 16 = .ok (.aload_n 0, 1) := by decide +kernel
theorem dX7_minutesLeft_17 : decode cX7_minutesLeft 17 = .ok (.iload_n 1, 1) := by decide +kernel
theorem dX7_minutesLeft_18 : decode cX7_minutesLeft 18 = .ok (.bipush 9, 2) := by decide +kernel
theorem dX7_minutesLeft_20 : decode cX7_minutesLeft 20 = .ok (.invokevirtual 104, 3) := by decide +kernel
theorem dX7_minutesLeft_23 : decode cX7_minutesLeft 23 = .ok (.aload_n 0, 1) := by decide +kernel
theorem dX7_minutesLeft_24 : decode cX7_minutesLeft 24 = .ok (.getfield 7, 3) := by decide +kernel
theorem dX7_minutesLeft_27 : decode cX7_minutesLeft 27 = .ok (.iconst 4, 1) := by decide +kernel
theorem dX7_minutesLeft_28 : decode cX7_minutesLeft 28 = .ok (.iaload, 1) := by decide +kernel
theorem dX7_minutesLeft_29 : decode cX7_minutesLeft 29 = .ok (.isub, 1) := by decide +kernel
theorem dX7_minutesLeft_30 : decode cX7_minutesLeft 30 = .ok (.ireturn, 1) := by decide +kernel
set_option maxRecDepth 20000 in
theorem ggX7_count_X7_day : GoodIn wsX7_count wsX7_day := goodIn_r _ [10, 1, 44, 45, 46, 47, 48, 49, 50, 51, 52, 53, 54, 55] (by decide +kernel) (by decide +kernel)
set_option maxRecDepth 20000 in
theorem gX7_count_X7_day : GoodIn wsX7_count (wsV RX7 29 RX7 yX7_day wsX7_day) := goodIn_app (goodIn_of _ (by decide +kernel)) ggX7_count_X7_day
set_option maxRecDepth 20000 in
theorem ggX7_count_X7_gustNow : GoodIn wsX7_count wsX7_gustNow := goodIn_r _ [14, 1, 6, 7, 8, 9, 10, 44, 45, 46, 47, 48, 49, 50, 51, 52, 53, 54, 55] (by decide +kernel) (by decide +kernel)
set_option maxRecDepth 20000 in
theorem gX7_count_X7_gustNow : GoodIn wsX7_count (wsV RX7 33 RX7 yX7_gustNow wsX7_gustNow) := goodIn_app (goodIn_of _ (by decide +kernel)) ggX7_count_X7_gustNow
set_option maxRecDepth 20000 in
theorem ggX7_count_X7_kindOfDay : GoodIn wsX7_count wsX7_kindOfDay := goodIn_r _ [18, 1, 11, 12, 13, 9, 14, 6, 7, 8, 10, 44, 45, 46, 47, 48, 49, 50, 51, 52, 53, 54, 55] (by decide +kernel) (by decide +kernel)
set_option maxRecDepth 20000 in
theorem gX7_count_X7_kindOfDay : GoodIn wsX7_count (wsV RX7 110 RX7 yX7_kindOfDay wsX7_kindOfDay) := goodIn_app (goodIn_of _ (by decide +kernel)) ggX7_count_X7_kindOfDay
set_option maxRecDepth 20000 in
theorem ggX7_count_X7_manyIn : GoodIn wsX7_count wsX7_manyIn := goodIn_r _ [22, 1, 23, 24, 25, 9, 26, 44, 45, 46, 47, 48, 49, 50, 51, 52, 53, 54, 55] (by decide +kernel) (by decide +kernel)
set_option maxRecDepth 20000 in
theorem gX7_count_X7_manyIn : GoodIn wsX7_count (wsV RX7 113 RX7 yX7_manyIn wsX7_manyIn) := goodIn_app (goodIn_of _ (by decide +kernel)) ggX7_count_X7_manyIn
set_option maxRecDepth 20000 in
theorem ggX7_count_X7_underWay : GoodIn wsX7_count wsX7_underWay := goodIn_r _ [30, 1, 31, 23, 24, 25, 9, 26, 44, 45, 46, 47, 48, 49, 50, 51, 52, 53, 54, 55] (by decide +kernel) (by decide +kernel)
set_option maxRecDepth 20000 in
theorem gX7_count_X7_underWay : GoodIn wsX7_count (wsV RX7 107 RX7 yX7_underWay wsX7_underWay) := goodIn_app (goodIn_of _ (by decide +kernel)) ggX7_count_X7_underWay
set_option maxRecDepth 20000 in
theorem ggX7_count_X7_minutesLeft : GoodIn wsX7_count wsX7_minutesLeft := goodIn_r _ [35, 31, 1, 27, 28, 29, 9, 30, 23, 24, 25, 26, 44, 45, 46, 47, 48, 49, 50, 51, 52, 53, 54, 55] (by decide +kernel) (by decide +kernel)
set_option maxRecDepth 20000 in
theorem gX7_count_X7_minutesLeft : GoodIn wsX7_count (wsV RX7 116 RX7 yX7_minutesLeft wsX7_minutesLeft) := goodIn_app (goodIn_of _ (by decide +kernel)) ggX7_count_X7_minutesLeft
set_option maxRecDepth 20000 in
theorem ggX7_count_X7_stands : GoodIn wsX7_count wsX7_stands := goodIn_r _ [39, 40, 41, 42, 9, 43, 1, 44, 45, 46, 47, 48, 49, 50, 51, 52, 53, 54, 55] (by decide +kernel) (by decide +kernel)
set_option maxRecDepth 20000 in
theorem gX7_count_X7_stands : GoodIn wsX7_count (wsV RX7 40 RX7 yX7_stands wsX7_stands) := goodIn_app (goodIn_of _ (by decide +kernel)) ggX7_count_X7_stands
theorem dX7_count_0 : decode cX7_count 0 = .ok (.iload_n 1, 1) := by decide +kernel
theorem dX7_count_1 : decode cX7_count 1 = .ok (.tableswitch 189 0 18 #[91, 98, 103, 108, 113, 121, 127, 127, 135, 140, 145, 150, 155, 155, 155, 155, 165, 165, 177], 91) := by decide +kernel
theorem dX7_count_92 : decode cX7_count 92 = .ok (.aload_n 0, 1) := by decide +kernel
theorem dX7_count_93 : decode cX7_count 93 = .ok (.getfield 7, 3) := by decide +kernel
theorem dX7_count_96 : decode cX7_count 96 = .ok (.iconst 4, 1) := by decide +kernel
theorem dX7_count_97 : decode cX7_count 97 = .ok (.iaload, 1) := by decide +kernel
theorem dX7_count_98 : decode cX7_count 98 = .ok (.ireturn, 1) := by decide +kernel
theorem dX7_count_99 : decode cX7_count 99 = .ok (.aload_n 0, 1) := by decide +kernel
theorem dX7_count_100 : decode cX7_count 100 = .ok (.invokevirtual 29, 3) := by decide +kernel
theorem dX7_count_103 : decode cX7_count 103 = .ok (.ireturn, 1) := by decide +kernel
theorem dX7_count_104 : decode cX7_count 104 = .ok (.aload_n 0, 1) := by decide +kernel
theorem dX7_count_105 : decode cX7_count 105 = .ok (.invokevirtual 33, 3) := by decide +kernel
theorem dX7_count_108 : decode cX7_count 108 = .ok (.ireturn, 1) := by decide +kernel
theorem dX7_count_109 : decode cX7_count 109 = .ok (.aload_n 0, 1) := by decide +kernel
theorem dX7_count_110 : decode cX7_count 110 = .ok (.invokevirtual 110, 3) := by decide +kernel
theorem dX7_count_113 : decode cX7_count 113 = .ok (.ireturn, 1) := by decide +kernel
theorem dX7_count_114 : decode cX7_count 114 = .ok (.aload_n 0, 1) := by decide +kernel
theorem dX7_count_115 : decode cX7_count 115 = .ok (.getfield 7, 3) := by decide +kernel
theorem dX7_count_118 : decode cX7_count 118 = .ok (.bipush 7, 2) := by decide +kernel
theorem dX7_count_120 : decode cX7_count 120 = .ok (.iaload, 1) := by decide +kernel
theorem dX7_count_121 : decode cX7_count 121 = .ok (.ireturn, 1) := by decide +kernel
theorem dX7_count_122 : decode cX7_count 122 = .ok (.aload_n 0, 1) := by decide +kernel
theorem dX7_count_123 : decode cX7_count 123 = .ok (.iconst 0, 1) := by decide +kernel
theorem dX7_count_124 : decode cX7_count 124 = .ok (.invokevirtual 113, 3) := by decide +kernel
theorem dX7_count_127 : decode cX7_count 127 = .ok (.ireturn, 1) := by decide +kernel
theorem dX7_count_128 : decode cX7_count 128 = .ok (.aload_n 0, 1) := by decide +kernel
theorem dX7_count_129 : decode cX7_count 129 = .ok (.iload_n 1, 1) := by decide +kernel
theorem dX7_count_130 : decode cX7_count 130 = .ok (.iconst 4, 1) := by decide +kernel
theorem dX7_count_131 : decode cX7_count 131 = .ok (.isub, 1) := by decide +kernel
theorem dX7_count_132 : decode cX7_count 132 = .ok (.invokevirtual 113, 3) := by decide +kernel
theorem dX7_count_135 : decode cX7_count 135 = .ok (.ireturn, 1) := by decide +kernel
theorem dX7_count_136 : decode cX7_count 136 = .ok (.aload_n 0, 1) := by decide +kernel
theorem dX7_count_137 : decode cX7_count 137 = .ok (.invokevirtual 107, 3) := by decide +kernel
theorem dX7_count_140 : decode cX7_count 140 = .ok (.ireturn, 1) := by decide +kernel
theorem dX7_count_141 : decode cX7_count 141 = .ok (.aload_n 0, 1) := by decide +kernel
theorem dX7_count_142 : decode cX7_count 142 = .ok (.invokevirtual 116, 3) := by decide +kernel
theorem dX7_count_145 : decode cX7_count 145 = .ok (.ireturn, 1) := by decide +kernel
theorem dX7_count_146 : decode cX7_count 146 = .ok (.aload_n 0, 1) := by decide +kernel
theorem dX7_count_147 : decode cX7_count 147 = .ok (.getfield 25, 3) := by decide +kernel
theorem dX7_count_150 : decode cX7_count 150 = .ok (.ireturn, 1) := by decide +kernel
theorem dX7_count_151 : decode cX7_count 151 = .ok (.aload_n 0, 1) := by decide +kernel
theorem dX7_count_152 : decode cX7_count 152 = .ok (.getfield 119, 3) := by decide +kernel
theorem dX7_count_155 : decode cX7_count 155 = .ok (.ireturn, 1) := by decide +kernel
theorem dX7_count_156 : decode cX7_count 156 = .ok (.aload_n 0, 1) := by decide +kernel
theorem dX7_count_157 : decode cX7_count 157 = .ok (.getfield 7, 3) := by decide +kernel
theorem dX7_count_160 : decode cX7_count 160 = .ok (.iload_n 1, 1) := by decide +kernel
theorem dX7_count_161 : decode cX7_count 161 = .ok (.bipush 12, 2) := by decide +kernel
theorem dX7_count_163 : decode cX7_count 163 = .ok (.isub, 1) := by decide +kernel
theorem dX7_count_164 : decode cX7_count 164 = .ok (.iaload, 1) := by decide +kernel
theorem dX7_count_165 : decode cX7_count 165 = .ok (.ireturn, 1) := by decide +kernel
theorem dX7_count_166 : decode cX7_count 166 = .ok (.aload_n 0, 1) := by decide +kernel
theorem dX7_count_167 : decode cX7_count 167 = .ok (.getfield 7, 3) := by decide +kernel
theorem dX7_count_170 : decode cX7_count 170 = .ok (.iconst 5, 1) := by decide +kernel
theorem dX7_count_171 : decode cX7_count 171 = .ok (.iload_n 1, 1) := by decide +kernel
theorem dX7_count_172 : decode cX7_count 172 = .ok (.iadd, 1) := by decide +kernel
theorem dX7_count_173 : decode cX7_count 173 = .ok (.bipush 16, 2) := by decide +kernel
theorem dX7_count_175 : decode cX7_count 175 = .ok (.isub, 1) := by decide +kernel
theorem dX7_count_176 : decode cX7_count 176 = .ok (.iaload, 1) := by decide +kernel
theorem dX7_count_177 : decode cX7_count 177 = .ok (.ireturn, 1) := by decide +kernel
theorem dX7_count_178 : decode cX7_count 178 = .ok (.aload_n 0, 1) := by decide +kernel
theorem dX7_count_179 : decode cX7_count 179 = .ok (.iconst 0, 1) := by decide +kernel
theorem dX7_count_180 : decode cX7_count 180 = .ok (.invokevirtual 40, 3) := by decide +kernel
theorem dX7_count_183 : decode cX7_count 183 = .ok (.ldc 76, 2) := by decide +kernel
theorem dX7_count_185 : decode cX7_count 185 = .ok (.iadd, 1) := by decide +kernel
theorem dX7_count_186 : decode cX7_count 186 = .ok (.ldc 76, 2) := by decide +kernel
theorem dX7_count_188 : decode cX7_count 188 = .ok (.irem, 1) := by decide +kernel
theorem dX7_count_189 : decode cX7_count 189 = .ok (.ireturn, 1) := by decide +kernel
theorem dX7_count_190 : decode cX7_count 190 = .ok (.ldc 96, 2) := by decide +kernel
theorem dX7_count_192 : decode cX7_count 192 = .ok (.ireturn, 1) := by decide +kernel
set_option maxRecDepth 20000 in
theorem ggX7_axis_X7_in : GoodIn wsX7_axis wsX7_in := goodIn_r _ [5] (by decide +kernel) (by decide +kernel)
set_option maxRecDepth 20000 in
theorem gX7_axis_X7_in : GoodIn wsX7_axis (va_wsS RX7 54 yX7_in wsX7_in) := goodIn_app (goodIn_of _ (by decide +kernel)) ggX7_axis_X7_in
set_option maxRecDepth 20000 in
theorem ggX7_axis_X7_ofAxis : GoodIn wsX7_axis wsX7_ofAxis := goodIn_r _ [9, 10, 15, 16, 17, 18, 19, 20, 21, 22, 23, 24, 25, 26] (by decide +kernel) (by decide +kernel)
set_option maxRecDepth 20000 in
theorem gX7_axis_X7_ofAxis : GoodIn wsX7_axis (wsV RX7 36 RX7 yX7_ofAxis wsX7_ofAxis) := goodIn_app (goodIn_of _ (by decide +kernel)) ggX7_axis_X7_ofAxis
set_option maxRecDepth 20000 in
theorem ggX7_axis_X7_stands : GoodIn wsX7_axis wsX7_stands := goodIn_r _ [14, 6, 7, 8, 4, 9, 10, 15, 16, 17, 18, 19, 20, 21, 22, 23, 24, 25, 26] (by decide +kernel) (by decide +kernel)
set_option maxRecDepth 20000 in
theorem gX7_axis_X7_stands : GoodIn wsX7_axis (wsV RX7 40 RX7 yX7_stands wsX7_stands) := goodIn_app (goodIn_of _ (by decide +kernel)) ggX7_axis_X7_stands
theorem dX7_axis_0 : decode cX7_axis 0 = .ok (.iload_n 1, 1) := by decide +kernel
theorem dX7_axis_1 : decode cX7_axis 1 = .ok (.iconst 0, 1) := by decide +kernel
theorem dX7_axis_2 : decode cX7_axis 2 = .ok (.iconst 1, 1) := by decide +kernel
theorem dX7_axis_3 : decode cX7_axis 3 = .ok (.invokestatic 54, 3) := by decide +kernel
theorem dX7_axis_6 : decode cX7_axis 6 = .ok (.ifCond .eq 13, 3) := by decide +kernel
theorem dX7_axis_9 : decode cX7_axis 9 = .ok (.iload_n 2, 1) := by decide +kernel
theorem dX7_axis_10 : decode cX7_axis 10 = .ok (.iconst 0, 1) := by decide +kernel
theorem dX7_axis_11 : decode cX7_axis 11 = .ok (.bipush 8, 2) := by decide +kernel
theorem dX7_axis_13 : decode cX7_axis 13 = .ok (.invokestatic 54, 3) := by decide +kernel
theorem dX7_axis_16 : decode cX7_axis 16 = .ok (.ifCond .ne 6, 3) := by decide +kernel
theorem dX7_axis_19 : decode cX7_axis 19 = .ok (.ldc 96, 2) := by decide +kernel
theorem dX7_axis_21 : decode cX7_axis 21 = .ok (.ireturn, 1) := by decide +kernel
theorem dX7_axis_22 : decode cX7_axis 22 = .ok (.iload_n 2, 1) := by decide +kernel
theorem dX7_axis_23 : decode cX7_axis 23 = .ok (.iconst 5, 1) := by decide +kernel
theorem dX7_axis_24 : decode cX7_axis 24 = .ok (.if_icmp .ge 10, 3) := by decide +kernel
theorem dX7_axis_27 : decode cX7_axis 27 = .ok (.aload_n 0, 1) := by decide +kernel
theorem dX7_axis_28 : decode cX7_axis 28 = .ok (.iload_n 1, 1) := by decide +kernel
theorem dX7_axis_29 : decode cX7_axis 29 = .ok (.iload_n 2, 1) := by decide +kernel
theorem dX7_axis_30 : decode cX7_axis 30 = .ok (.invokevirtual 36, 3) := by decide +kernel
theorem dX7_axis_33 : decode cX7_axis 33 = .ok (.ireturn, 1) := by decide +kernel
theorem dX7_axis_34 : decode cX7_axis 34 = .ok (.iload_n 2, 1) := by decide +kernel
theorem dX7_axis_35 : decode cX7_axis 35 = .ok (.iconst 5, 1) := by decide +kernel
theorem dX7_axis_36 : decode cX7_axis 36 = .ok (.if_icmp .ne 11, 3) := by decide +kernel
theorem dX7_axis_39 : decode cX7_axis 39 = .ok (.aload_n 0, 1) := by decide +kernel
theorem dX7_axis_40 : decode cX7_axis 40 = .ok (.iload_n 1, 1) := by decide +kernel
theorem dX7_axis_41 : decode cX7_axis 41 = .ok (.invokevirtual 40, 3) := by decide +kernel
theorem dX7_axis_44 : decode cX7_axis 44 = .ok (.goto 46, 3) := by decide +kernel
theorem dX7_axis_47 : decode cX7_axis 47 = .ok (.iload_n 2, 1) := by decide +kernel
theorem dX7_axis_48 : decode cX7_axis 48 = .ok (.bipush 8, 2) := by decide +kernel
theorem dX7_axis_50 : decode cX7_axis 50 = .ok (.if_icmp .ge 14, 3) := by decide +kernel
theorem dX7_axis_53 : decode cX7_axis 53 = .ok (.aload_n 0, 1) := by decide +kernel
theorem dX7_axis_54 : decode cX7_axis 54 = .ok (.iload_n 1, 1) := by decide +kernel
theorem dX7_axis_55 : decode cX7_axis 55 = .ok (.iload_n 2, 1) := by decide +kernel
theorem dX7_axis_56 : decode cX7_axis 56 = .ok (.iconst 1, 1) := by decide +kernel
theorem dX7_axis_57 : decode cX7_axis 57 = .ok (.isub, 1) := by decide +kernel
theorem dX7_axis_58 : decode cX7_axis 58 = .ok (.invokevirtual 36, 3) := by decide +kernel
theorem dX7_axis_61 : decode cX7_axis 61 = .ok (.goto 29, 3) := by decide +kernel
theorem dX7_axis_64 : decode cX7_axis 64 = .ok (.iload_n 1, 1) := by decide +kernel
theorem dX7_axis_65 : decode cX7_axis 65 = .ok (.ifCond .ne 7, 3) := by decide +kernel
theorem dX7_axis_68 : decode cX7_axis 68 = .ok (.iconst 0, 1) := by decide +kernel
theorem dX7_axis_69 : decode cX7_axis 69 = .ok (.goto 6, 3) := by decide +kernel
theorem dX7_axis_72 : decode cX7_axis 72 = .ok (.sipush 9000, 3) := by decide +kernel
theorem dX7_axis_75 : decode cX7_axis 75 = .ok (.aload_n 0, 1) := by decide +kernel
theorem dX7_axis_76 : decode cX7_axis 76 = .ok (.iload_n 1, 1) := by decide +kernel
theorem dX7_axis_77 : decode cX7_axis 77 = .ok (.iconst 5, 1) := by decide +kernel
theorem dX7_axis_78 : decode cX7_axis 78 = .ok (.invokevirtual 36, 3) := by decide +kernel
theorem dX7_axis_81 : decode cX7_axis 81 = .ok (.iadd, 1) := by decide +kernel
theorem dX7_axis_82 : decode cX7_axis 82 = .ok (.aload_n 0, 1) := by decide +kernel
theorem dX7_axis_83 : decode cX7_axis 83 = .ok (.iload_n 1, 1) := by decide +kernel
theorem dX7_axis_84 : decode cX7_axis 84 = .ok (.bipush 6, 2) := by decide +kernel
theorem dX7_axis_86 : decode cX7_axis 86 = .ok (.invokevirtual 36, 3) := by decide +kernel
theorem dX7_axis_89 : decode cX7_axis 89 = .ok (.isub, 1) := by decide +kernel
theorem dX7_axis_90 : decode cX7_axis 90 = .ok (.ireturn, 1) := by decide +kernel
set_option maxRecDepth 20000 in
theorem ggX7_way_X7_in : GoodIn wsX7_way wsX7_in := goodIn_r _ [9] (by decide +kernel) (by decide +kernel)
set_option maxRecDepth 20000 in
theorem gX7_way_X7_in : GoodIn wsX7_way (va_wsS RX7 54 yX7_in wsX7_in) := goodIn_app (goodIn_of _ (by decide +kernel)) ggX7_way_X7_in
set_option maxRecDepth 20000 in
theorem ggX7_way_X7_isPossible : GoodIn wsX7_way wsX7_isPossible := goodIn_r _ [13, 3, 4, 5, 14, 15, 16, 8, 17, 18, 19, 20, 21, 22, 23, 24, 25, 26, 27, 28, 29, 30, 6, 7, 9, 42, 43, 44, 45, 46, 47, 48, 49, 50, 51, 52, 53] (by decide +kernel) (by decide +kernel)
set_option maxRecDepth 20000 in
theorem gX7_way_X7_isPossible : GoodIn wsX7_way (wsV RX7 77 RX7 yX7_isPossible wsX7_isPossible) := goodIn_app (goodIn_of _ (by decide +kernel)) ggX7_way_X7_isPossible
set_option maxRecDepth 20000 in
theorem ggX7_way_X7_lengthOf : GoodIn wsX7_way wsX7_lengthOf := goodIn_r _ [34, 4, 5, 3, 14, 15, 16, 8, 17, 18, 19, 20, 21, 22, 23, 24, 25, 26, 35, 36, 37, 42, 43, 44, 45, 46, 47, 48, 49, 50, 51, 52, 53] (by decide +kernel) (by decide +kernel)
set_option maxRecDepth 20000 in
theorem gX7_way_X7_lengthOf : GoodIn wsX7_way (wsV RX7 69 RX7 yX7_lengthOf wsX7_lengthOf) := goodIn_app (goodIn_of _ (by decide +kernel)) ggX7_way_X7_lengthOf
set_option maxRecDepth 20000 in
theorem ggX7_way_X7_timeOf : GoodIn wsX7_way wsX7_timeOf := goodIn_r _ [41, 23, 24, 25, 8, 26, 18, 31, 32, 33, 34, 4, 5, 3, 14, 15, 16, 17, 19, 20, 21, 22, 35, 36, 37, 42, 43, 44, 45, 46, 47, 48, 49, 50, 51, 52, 53] (by decide +kernel) (by decide +kernel)
set_option maxRecDepth 20000 in
theorem gX7_way_X7_timeOf : GoodIn wsX7_way (wsV RX7 87 RX7 yX7_timeOf wsX7_timeOf) := goodIn_app (goodIn_of _ (by decide +kernel)) ggX7_way_X7_timeOf
theorem dX7_way_0 : decode cX7_way 0 = .ok (.iload_n 1, 1) := by decide +kernel
theorem dX7_way_1 : decode cX7_way 1 = .ok (.iconst 0, 1) := by decide +kernel
theorem dX7_way_2 : decode cX7_way 2 = .ok (.iconst 1, 1) := by decide +kernel
theorem dX7_way_3 : decode cX7_way 3 = .ok (.invokestatic 54, 3) := by decide +kernel
theorem dX7_way_6 : decode cX7_way 6 = .ok (.ifCond .eq 25, 3) := by decide +kernel
theorem dX7_way_9 : decode cX7_way 9 = .ok (.iload_n 2, 1) := by decide +kernel
theorem dX7_way_10 : decode cX7_way 10 = .ok (.sipush (-27000), 3) := by decide +kernel
theorem dX7_way_13 : decode cX7_way 13 = .ok (.sipush 27000, 3) := by decide +kernel
theorem dX7_way_16 : decode cX7_way 16 = .ok (.invokestatic 54, 3) := by decide +kernel
theorem dX7_way_19 : decode cX7_way 19 = .ok (.ifCond .eq 12, 3) := by decide +kernel
theorem dX7_way_22 : decode cX7_way 22 = .ok (.iload_n 3, 1) := by decide +kernel
theorem dX7_way_23 : decode cX7_way 23 = .ok (.iconst 0, 1) := by decide +kernel
theorem dX7_way_24 : decode cX7_way 24 = .ok (.iconst 3, 1) := by decide +kernel
theorem dX7_way_25 : decode cX7_way 25 = .ok (.invokestatic 54, 3) := by decide +kernel
theorem dX7_way_28 : decode cX7_way 28 = .ok (.ifCond .ne 6, 3) := by decide +kernel
theorem dX7_way_31 : decode cX7_way 31 = .ok (.ldc 96, 2) := by decide +kernel
theorem dX7_way_33 : decode cX7_way 33 = .ok (.ireturn, 1) := by decide +kernel
theorem dX7_way_34 : decode cX7_way 34 = .ok (.aload_n 0, 1) := by decide +kernel
theorem dX7_way_35 : decode cX7_way 35 = .ok (.iload_n 1, 1) := by decide +kernel
theorem dX7_way_36 : decode cX7_way 36 = .ok (.iload_n 2, 1) := by decide +kernel
theorem dX7_way_37 : decode cX7_way 37 = .ok (.invokevirtual 77, 3) := by decide +kernel
theorem dX7_way_40 : decode cX7_way 40 = .ok (.ifCond .ne 6, 3) := by decide +kernel
theorem dX7_way_43 : decode cX7_way 43 = .ok (.ldc 80, 2) := by decide +kernel
theorem dX7_way_45 : decode cX7_way 45 = .ok (.ireturn, 1) := by decide +kernel
theorem dX7_way_46 : decode cX7_way 46 = .ok (.iload_n 3, 1) := by decide +kernel
theorem dX7_way_47 : decode cX7_way 47 = .ok (.ifCond .ne 8, 3) := by decide +kernel
theorem dX7_way_50 : decode cX7_way 50 = .ok (.aload_n 0, 1) := by decide +kernel
theorem dX7_way_51 : decode cX7_way 51 = .ok (.getfield 48, 3) := by decide +kernel
theorem dX7_way_54 : decode cX7_way 54 = .ok (.ireturn, 1) := by decide +kernel
theorem dX7_way_55 : decode cX7_way 55 = .ok (.iload_n 3, 1) := by decide +kernel
theorem dX7_way_56 : decode cX7_way 56 = .ok (.iconst 3, 1) := by decide +kernel
theorem dX7_way_57 : decode cX7_way 57 = .ok (.if_icmp .ne 20, 3) := by decide +kernel
theorem dX7_way_60 : decode cX7_way 60 = .ok (.aload_n 0, 1) := by decide +kernel
theorem dX7_way_61 : decode cX7_way 61 = .ok (.getfield 44, 3) := by decide +kernel
theorem dX7_way_64 : decode cX7_way 64 = .ok (.ifCond .eq 10, 3) := by decide +kernel
theorem dX7_way_67 : decode cX7_way 67 = .ok (.aload_n 0, 1) := by decide +kernel
theorem dX7_way_68 : decode cX7_way 68 = .ok (.getfield 51, 3) := by decide +kernel
theorem dX7_way_71 : decode cX7_way 71 = .ok (.goto 5, 3) := by decide +kernel
theorem dX7_way_74 : decode cX7_way 74 = .ok (.ldc 80, 2) := by decide +kernel
theorem dX7_way_76 : decode cX7_way 76 = .ok (.ireturn, 1) := by decide +kernel
theorem dX7_way_77 : decode cX7_way 77 = .ok (.iload_n 3, 1) := by decide +kernel
theorem dX7_way_78 : decode cX7_way 78 = .ok (.iconst 1, 1) := by decide +kernel
theorem dX7_way_79 : decode cX7_way 79 = .ok (.if_icmp .ne 12, 3) := by decide +kernel
theorem dX7_way_82 : decode cX7_way 82 = .ok (.aload_n 0, 1) := by decide +kernel
theorem dX7_way_83 : decode cX7_way 83 = .ok (.iload_n 1, 1) := by decide +kernel
theorem dX7_way_84 : decode cX7_way 84 = .ok (.iload_n 2, 1) := by decide +kernel
theorem dX7_way_85 : decode cX7_way 85 = .ok (.invokevirtual 69, 3) := by decide +kernel
theorem dX7_way_88 : decode cX7_way 88 = .ok (.goto 9, 3) := by decide +kernel
theorem dX7_way_91 : decode cX7_way 91 = .ok (.aload_n 0, 1) := by decide +kernel
theorem dX7_way_92 : decode cX7_way 92 = .ok (.iload_n 1, 1) := by decide +kernel
theorem dX7_way_93 : decode cX7_way 93 = .ok (.iload_n 2, 1) := by decide +kernel
theorem dX7_way_94 : decode cX7_way 94 = .ok (.invokevirtual 87, 3) := by decide +kernel
theorem dX7_way_97 : decode cX7_way 97 = .ok (.ireturn, 1) := by decide +kernel
set_option maxRecDepth 20000 in
theorem ggX7_placeFor_X7_in : GoodIn wsX7_placeFor wsX7_in := goodIn_r _ [6] (by decide +kernel) (by decide +kernel)
set_option maxRecDepth 20000 in
theorem gX7_placeFor_X7_in : GoodIn wsX7_placeFor (va_wsS RX7 54 yX7_in wsX7_in) := goodIn_app (goodIn_of _ (by decide +kernel)) ggX7_placeFor_X7_in
set_option maxRecDepth 20000 in
theorem ggX7_placeFor_X7_placeOf : GoodIn wsX7_placeFor wsX7_placeOf := goodIn_r _ [10, 11, 12, 13, 14, 15, 5, 16, 17, 18, 19, 20, 21, 22, 23, 24, 25, 26, 27, 28, 29, 30, 31, 32, 33, 34, 35, 36, 3, 4, 6, 37, 38, 39, 40, 41, 42, 43, 44, 45, 46, 47, 48, 49, 50, 51, 52, 53, 54, 55, 56, 57, 58, 59, 60, 61, 62, 63] (by decide +kernel) (by decide +kernel)
set_option maxRecDepth 20000 in
theorem gX7_placeFor_X7_placeOf : GoodIn wsX7_placeFor (wsV RX7 123 RX7 yX7_placeOf wsX7_placeOf) := goodIn_app (goodIn_of _ (by decide +kernel)) ggX7_placeFor_X7_placeOf
theorem dX7_placeFor_0 : decode cX7_placeFor 0 = .ok (.iload_n 1, 1) := by decide +kernel
theorem dX7_placeFor_1 : decode cX7_placeFor 1 = .ok (.iconst 0, 1) := by decide +kernel
theorem dX7_placeFor_2 : decode cX7_placeFor 2 = .ok (.ldc 122, 2) := by decide +kernel
theorem dX7_placeFor_4 : decode cX7_placeFor 4 = .ok (.invokestatic 54, 3) := by decide +kernel
theorem dX7_placeFor_7 : decode cX7_placeFor 7 = .ok (.ifCond .eq 11, 3) := by decide +kernel
theorem dX7_placeFor_10 : decode cX7_placeFor 10 = .ok (.aload_n 0, 1) := by decide +kernel
theorem dX7_placeFor_11 : decode cX7_placeFor 11 = .ok (.iload_n 1, 1) := by decide +kernel
theorem dX7_placeFor_12 : decode cX7_placeFor 12 = .ok (.invokevirtual 123, 3) := by decide +kernel
theorem dX7_placeFor_15 : decode cX7_placeFor 15 = .ok (.goto 5, 3) := by decide +kernel
theorem dX7_placeFor_18 : decode cX7_placeFor 18 = .ok (.ldc 96, 2) := by decide +kernel
theorem dX7_placeFor_20 : decode cX7_placeFor 20 = .ok (.ireturn, 1) := by decide +kernel
set_option maxRecDepth 20000 in
theorem ggX7_slew_X7_in : GoodIn wsX7_slew wsX7_in := goodIn_r _ [8] (by decide +kernel) (by decide +kernel)
set_option maxRecDepth 20000 in
theorem gX7_slew_X7_in : GoodIn wsX7_slew (va_wsS RX7 54 yX7_in wsX7_in) := goodIn_app (goodIn_of _ (by decide +kernel)) ggX7_slew_X7_in
set_option maxRecDepth 20000 in
theorem ggX7_slew_X7_underWay : GoodIn wsX7_slew wsX7_underWay := goodIn_r _ [12, 13, 3, 14, 15, 16, 7, 17, 95, 96, 97, 98, 99, 100, 101, 102, 103, 104, 105, 106] (by decide +kernel) (by decide +kernel)
set_option maxRecDepth 20000 in
theorem gX7_slew_X7_underWay : GoodIn wsX7_slew (wsV RX7 107 RX7 yX7_underWay wsX7_underWay) := goodIn_app (goodIn_of _ (by decide +kernel)) ggX7_slew_X7_underWay
set_option maxRecDepth 20000 in
theorem ggX7_slew_X7_kindOfDay : GoodIn wsX7_slew wsX7_kindOfDay := goodIn_r _ [21, 13, 22, 23, 24, 7, 25, 26, 27, 28, 29, 95, 96, 97, 98, 99, 100, 101, 102, 103, 104, 105, 106] (by decide +kernel) (by decide +kernel)
set_option maxRecDepth 20000 in
theorem gX7_slew_X7_kindOfDay : GoodIn wsX7_slew (wsV RX7 110 RX7 yX7_kindOfDay wsX7_kindOfDay) := goodIn_app (goodIn_of _ (by decide +kernel)) ggX7_slew_X7_kindOfDay
set_option maxRecDepth 20000 in
theorem ggX7_slew_X7_isPossible : GoodIn wsX7_slew wsX7_isPossible := goodIn_r _ [33, 34, 35, 36, 37, 38, 39, 7, 40, 13, 41, 42, 43, 44, 45, 46, 47, 48, 49, 50, 51, 52, 5, 6, 8, 95, 96, 97, 98, 99, 100, 101, 102, 103, 104, 105, 106] (by decide +kernel) (by decide +kernel)
set_option maxRecDepth 20000 in
theorem gX7_slew_X7_isPossible : GoodIn wsX7_slew (wsV RX7 77 RX7 yX7_isPossible wsX7_isPossible) := goodIn_app (goodIn_of _ (by decide +kernel)) ggX7_slew_X7_isPossible
set_option maxRecDepth 20000 in
theorem ggX7_slew_X7_placeOf : GoodIn wsX7_slew wsX7_placeOf := goodIn_r _ [56, 57, 3, 30, 31, 32, 7, 33, 34, 35, 36, 37, 38, 39, 40, 13, 41, 42, 43, 44, 45, 46, 47, 48, 49, 50, 51, 52, 5, 6, 8, 58, 59, 60, 61, 62, 63, 64, 65, 66, 67, 68, 69, 70, 71, 72, 95, 96, 97, 98, 99, 100, 101, 102, 103, 104, 105, 106] (by decide +kernel) (by decide +kernel)
set_option maxRecDepth 20000 in
theorem gX7_slew_X7_placeOf : GoodIn wsX7_slew (wsV RX7 123 RX7 yX7_placeOf wsX7_placeOf) := goodIn_app (goodIn_of _ (by decide +kernel)) ggX7_slew_X7_placeOf
set_option maxRecDepth 20000 in
theorem ggX7_slew_X7_records : GoodIn wsX7_slew wsX7_records := goodIn_r _ [76, 77, 78, 13, 95, 96, 97, 98, 99, 100, 101, 102, 103, 104, 105, 106] (by decide +kernel) (by decide +kernel)
set_option maxRecDepth 20000 in
theorem gX7_slew_X7_records : GoodIn wsX7_slew (wsV RX7 97 RX7 yX7_records wsX7_records) := goodIn_app (goodIn_of _ (by decide +kernel)) ggX7_slew_X7_records
set_option maxRecDepth 20000 in
theorem ggX7_slew_X7_slews : GoodIn wsX7_slew wsX7_slews := goodIn_r _ [82, 13, 83, 84, 85, 7, 86, 45, 46, 47, 48, 66, 67, 68, 69, 35, 36, 34, 37, 38, 39, 40, 41, 42, 43, 44, 70, 71, 72, 87, 88, 89, 90, 91, 92, 93, 94, 95, 96, 97, 98, 99, 100, 101, 102, 103, 104, 105, 106] (by decide +kernel) (by decide +kernel)
set_option maxRecDepth 20000 in
theorem gX7_slew_X7_slews : GoodIn wsX7_slew (wsV RX7 126 RX7 yX7_slews wsX7_slews) := goodIn_app (goodIn_of _ (by decide +kernel)) ggX7_slew_X7_slews
theorem dX7_slew_0 : decode cX7_slew 0 = .ok (.iload_n 1, 1) := by decide +kernel
theorem dX7_slew_1 : decode cX7_slew 1 = .ok (.iconst 0, 1) := by decide +kernel
theorem dX7_slew_2 : decode cX7_slew 2 = .ok (.ldc 122, 2) := by decide +kernel
theorem dX7_slew_4 : decode cX7_slew 4 = .ok (.invokestatic 54, 3) := by decide +kernel
theorem dX7_slew_7 : decode cX7_slew 7 = .ok (.ifCond .eq 16, 3) := by decide +kernel
theorem dX7_slew_10 : decode cX7_slew 10 = .ok (.iload_n 2, 1) := by decide +kernel
theorem dX7_slew_11 : decode cX7_slew 11 = .ok (.sipush 500, 3) := by decide +kernel
theorem dX7_slew_14 : decode cX7_slew 14 = .ok (.sipush 9000, 3) := by decide +kernel
theorem dX7_slew_17 : decode cX7_slew 17 = .ok (.invokestatic 54, 3) := by decide +kernel
theorem dX7_slew_20 : decode cX7_slew 20 = .ok (.ifCond .ne 6, 3) := by decide +kernel
theorem dX7_slew_23 : decode cX7_slew 23 = .ok (.ldc 96, 2) := by decide +kernel
theorem dX7_slew_25 : decode cX7_slew 25 = .ok (.ireturn, 1) := by decide +kernel
theorem dX7_slew_26 : decode cX7_slew 26 = .ok (.aload_n 0, 1) := by decide +kernel
theorem dX7_slew_27 : decode cX7_slew 27 = .ok (.invokevirtual 107, 3) := by decide +kernel
theorem dX7_slew_30 : decode cX7_slew 30 = .ok (.ldc 80, 2) := by decide +kernel
theorem dX7_slew_32 : decode cX7_slew 32 = .ok (.if_icmp .ne 29, 3) := by decide +kernel
theorem dX7_slew_35 : decode cX7_slew 35 = .ok (.aload_n 0, 1) := by decide +kernel
theorem dX7_slew_36 : decode cX7_slew 36 = .ok (.invokevirtual 110, 3) := by decide +kernel
theorem dX7_slew_39 : decode cX7_slew 39 = .ok (.ifCond .eq 22, 3) := by decide +kernel
theorem dX7_slew_42 : decode cX7_slew 42 = .ok (.aload_n 0, 1) := by decide +kernel
theorem dX7_slew_43 : decode cX7_slew 43 = .ok (.iconst 1, 1) := by decide +kernel
theorem dX7_slew_44 : decode cX7_slew 44 = .ok (.iload_n 2, 1) := by decide +kernel
theorem dX7_slew_45 : decode cX7_slew 45 = .ok (.invokevirtual 77, 3) := by decide +kernel
theorem dX7_slew_48 : decode cX7_slew 48 = .ok (.ifCond .eq 13, 3) := by decide +kernel
theorem dX7_slew_51 : decode cX7_slew 51 = .ok (.aload_n 0, 1) := by decide +kernel
theorem dX7_slew_52 : decode cX7_slew 52 = .ok (.iload_n 1, 1) := by decide +kernel
theorem dX7_slew_53 : decode cX7_slew 53 = .ok (.invokevirtual 123, 3) := by decide +kernel
theorem dX7_slew_56 : decode cX7_slew 56 = .ok (.ldc 80, 2) := by decide +kernel
theorem dX7_slew_58 : decode cX7_slew 58 = .ok (.if_icmp .ne 6, 3) := by decide +kernel
theorem dX7_slew_61 : decode cX7_slew 61 = .ok (.ldc 103, 2) := by decide +kernel
theorem dX7_slew_63 : decode cX7_slew 63 = .ok (.ireturn, 1) := by decide +kernel
theorem dX7_slew_64 : decode cX7_slew 64 = .ok (.aload_n 0, 1) := by decide +kernel
theorem dX7_slew_65 : decode cX7_slew 65 = .ok (.invokevirtual 97, 3) := by decide +kernel
theorem dX7_slew_68 : decode cX7_slew 68 = .ok (.aload_n 0, 1) := by decide +kernel
theorem dX7_slew_69 : decode cX7_slew 69 = .ok (.aload_n 0, 1) := by decide +kernel
theorem dX7_slew_70 : decode cX7_slew 70 = .ok (.iload_n 1, 1) := by decide +kernel
theorem dX7_slew_71 : decode cX7_slew 71 = .ok (.invokevirtual 123, 3) := by decide +kernel
theorem dX7_slew_74 : decode cX7_slew 74 = .ok (.iload_n 2, 1) := by decide +kernel
theorem dX7_slew_75 : decode cX7_slew 75 = .ok (.invokevirtual 126, 3) := by decide +kernel
theorem dX7_slew_78 : decode cX7_slew 78 = .ok (.ireturn, 1) := by decide +kernel
set_option maxRecDepth 20000 in
theorem ggX7_isWound_X7_ofAxis : GoodIn wsX7_isWound wsX7_ofAxis := goodIn_r _ [5, 6, 14, 15, 16, 17, 18, 19, 20, 21, 22, 23, 24, 25] (by decide +kernel) (by decide +kernel)
set_option maxRecDepth 20000 in
theorem gX7_isWound_X7_ofAxis : GoodIn wsX7_isWound (wsV RX7 36 RX7 yX7_ofAxis wsX7_ofAxis) := goodIn_app (goodIn_of _ (by decide +kernel)) ggX7_isWound_X7_ofAxis
set_option maxRecDepth 20000 in
theorem ggX7_isWound_X7_isCalm : GoodIn wsX7_isWound wsX7_isCalm := goodIn_r _ [10, 6, 11, 12, 4, 13, 14, 15, 16, 17, 18, 19, 20, 21, 22, 23, 24, 25] (by decide +kernel) (by decide +kernel)
set_option maxRecDepth 20000 in
theorem gX7_isWound_X7_isCalm : GoodIn wsX7_isWound (wsV RX7 72 RX7 yX7_isCalm wsX7_isCalm) := goodIn_app (goodIn_of _ (by decide +kernel)) ggX7_isWound_X7_isCalm
theorem dX7_isWound_0 : decode cX7_isWound 0 = .ok (.aload_n 0, 1) := by decide +kernel
theorem dX7_isWound_1 : decode cX7_isWound 1 = .ok (.aload_n 0, 1) := by decide +kernel
theorem dX7_isWound_2 : decode cX7_isWound 2 = .ok (.iconst 0, 1) := by decide +kernel
theorem dX7_isWound_3 : decode cX7_isWound 3 = .ok (.iconst 3, 1) := by decide +kernel
theorem dX7_isWound_4 : decode cX7_isWound 4 = .ok (.invokevirtual 36, 3) := by decide +kernel
theorem dX7_isWound_7 : decode cX7_isWound 7 = .ok (.invokevirtual 72, 3) := by decide +kernel
theorem dX7_isWound_10 : decode cX7_isWound 10 = .ok (.ifCond .eq 7, 3) := by decide +kernel
theorem dX7_isWound_13 : decode cX7_isWound 13 = .ok (.iconst 0, 1) := by decide +kernel
theorem dX7_isWound_14 : decode cX7_isWound 14 = .ok (.goto 4, 3) := by decide +kernel
theorem dX7_isWound_17 : decode cX7_isWound 17 = .ok (.iconst 1, 1) := by decide +kernel
theorem dX7_isWound_18 : decode cX7_isWound 18 = .ok (.ireturn, 1) := by decide +kernel
set_option maxRecDepth 20000 in
theorem ggX7_isWindow_X7_in : GoodIn wsX7_isWindow wsX7_in := goodIn_r _ [5] (by decide +kernel) (by decide +kernel)
set_option maxRecDepth 20000 in
theorem gX7_isWindow_X7_in : GoodIn wsX7_isWindow (va_wsS RX7 54 yX7_in wsX7_in) := goodIn_app (goodIn_of _ (by decide +kernel)) ggX7_isWindow_X7_in
theorem dX7_isWindow_0 : decode cX7_isWindow 0 = .ok (.iload_n 0, 1) := by decide +kernel
theorem dX7_isWindow_1 : decode cX7_isWindow 1 = .ok (.iconst 0, 1) := by decide +kernel
theorem dX7_isWindow_2 : decode cX7_isWindow 2 = .ok (.ldc 129, 2) := by decide +kernel
theorem dX7_isWindow_4 : decode cX7_isWindow 4 = .ok (.invokestatic 54, 3) := by decide +kernel
theorem dX7_isWindow_7 : decode cX7_isWindow 7 = .ok (.ifCond .eq 22, 3) := by decide +kernel
theorem dX7_isWindow_10 : decode cX7_isWindow 10 = .ok (.iload_n 1, 1) := by decide +kernel
theorem dX7_isWindow_11 : decode cX7_isWindow 11 = .ok (.iconst 0, 1) := by decide +kernel
theorem dX7_isWindow_12 : decode cX7_isWindow 12 = .ok (.ldc 129, 2) := by decide +kernel
theorem dX7_isWindow_14 : decode cX7_isWindow 14 = .ok (.invokestatic 54, 3) := by decide +kernel
theorem dX7_isWindow_17 : decode cX7_isWindow 17 = .ok (.ifCond .eq 12, 3) := by decide +kernel
end
section
theorem dX7_isWindow_20 : decode cX7_isWindow 20 = .ok (.iload_n 1, 1) := by decide +kernel
theorem dX7_isWindow_21 : decode cX7_isWindow 21 = .ok (.iload_n 0, 1) := by decide +kernel
theorem dX7_isWindow_22 : decode cX7_isWindow 22 = .ok (.if_icmp .le 7, 3) := by decide +kernel
theorem dX7_isWindow_25 : decode cX7_isWindow 25 = .ok (.iconst 1, 1) := by decide +kernel
theorem dX7_isWindow_26 : decode cX7_isWindow 26 = .ok (.goto 4, 3) := by decide +kernel
theorem dX7_isWindow_29 : decode cX7_isWindow 29 = .ok (.iconst 0, 1) := by decide +kernel
theorem dX7_isWindow_30 : decode cX7_isWindow 30 = .ok (.ireturn, 1) := by decide +kernel
set_option maxRecDepth 20000 in
theorem ggX7_isGood_X7_in : GoodIn wsX7_isGood wsX7_in := goodIn_r _ [5] (by decide +kernel) (by decide +kernel)
set_option maxRecDepth 20000 in
theorem gX7_isGood_X7_in : GoodIn wsX7_isGood (va_wsS RX7 54 yX7_in wsX7_in) := goodIn_app (goodIn_of _ (by decide +kernel)) ggX7_isGood_X7_in
set_option maxRecDepth 20000 in
theorem ggX7_isGood_X7_isWindow : GoodIn wsX7_isGood wsX7_isWindow := goodIn_r _ [8, 9, 2, 3, 4, 5] (by decide +kernel) (by decide +kernel)
set_option maxRecDepth 20000 in
theorem gX7_isGood_X7_isWindow : GoodIn wsX7_isGood (va_wsS RX7 130 yX7_isWindow wsX7_isWindow) := goodIn_app (goodIn_of _ (by decide +kernel)) ggX7_isGood_X7_isWindow
theorem dX7_isGood_0 : decode cX7_isGood 0 = .ok (.iload_n 0, 1) := by decide +kernel
theorem dX7_isGood_1 : decode cX7_isGood 1 = .ok (.iconst 0, 1) := by decide +kernel
theorem dX7_isGood_2 : decode cX7_isGood 2 = .ok (.ldc 122, 2) := by decide +kernel
theorem dX7_isGood_4 : decode cX7_isGood 4 = .ok (.invokestatic 54, 3) := by decide +kernel
theorem dX7_isGood_7 : decode cX7_isGood 7 = .ok (.ifCond .eq 51, 3) := by decide +kernel
theorem dX7_isGood_10 : decode cX7_isGood 10 = .ok (.iload_n 1, 1) := by decide +kernel
theorem dX7_isGood_11 : decode cX7_isGood 11 = .ok (.sipush 500, 3) := by decide +kernel
theorem dX7_isGood_14 : decode cX7_isGood 14 = .ok (.sipush 8500, 3) := by decide +kernel
theorem dX7_isGood_17 : decode cX7_isGood 17 = .ok (.invokestatic 54, 3) := by decide +kernel
theorem dX7_isGood_20 : decode cX7_isGood 20 = .ok (.ifCond .eq 38, 3) := by decide +kernel
theorem dX7_isGood_23 : decode cX7_isGood 23 = .ok (.iload_n 2, 1) := by decide +kernel
theorem dX7_isGood_24 : decode cX7_isGood 24 = .ok (.iload_n 3, 1) := by decide +kernel
theorem dX7_isGood_25 : decode cX7_isGood 25 = .ok (.invokestatic 130, 3) := by decide +kernel
theorem dX7_isGood_28 : decode cX7_isGood 28 = .ok (.ifCond .eq 30, 3) := by decide +kernel
theorem dX7_isGood_31 : decode cX7_isGood 31 = .ok (.iload 4, 2) := by decide +kernel
theorem dX7_isGood_33 : decode cX7_isGood 33 = .ok (.iconst 1, 1) := by decide +kernel
theorem dX7_isGood_34 : decode cX7_isGood 34 = .ok (.sipush 600, 3) := by decide +kernel
theorem dX7_isGood_37 : decode cX7_isGood 37 = .ok (.invokestatic 54, 3) := by decide +kernel
theorem dX7_isGood_40 : decode cX7_isGood 40 = .ok (.ifCond .eq 18, 3) := by decide +kernel
theorem dX7_isGood_43 : decode cX7_isGood 43 = .ok (.iload 5, 2) := by decide +kernel
theorem dX7_isGood_45 : decode cX7_isGood 45 = .ok (.iconst 0, 1) := by decide +kernel
theorem dX7_isGood_46 : decode cX7_isGood 46 = .ok (.bipush 9, 2) := by decide +kernel
theorem dX7_isGood_48 : decode cX7_isGood 48 = .ok (.invokestatic 54, 3) := by decide +kernel
theorem dX7_isGood_51 : decode cX7_isGood 51 = .ok (.ifCond .eq 7, 3) := by decide +kernel
theorem dX7_isGood_54 : decode cX7_isGood 54 = .ok (.iconst 1, 1) := by decide +kernel
theorem dX7_isGood_55 : decode cX7_isGood 55 = .ok (.goto 4, 3) := by decide +kernel
theorem dX7_isGood_58 : decode cX7_isGood 58 = .ok (.iconst 0, 1) := by decide +kernel
theorem dX7_isGood_59 : decode cX7_isGood 59 = .ok (.ireturn, 1) := by decide +kernel
set_option maxRecDepth 20000 in
theorem ggX7_adds_X7_puts : GoodIn wsX7_adds wsX7_puts := goodIn_r _ [6, 1, 7, 8, 9, 10, 11, 12, 13, 14, 15, 16, 17, 18] (by decide +kernel) (by decide +kernel)
set_option maxRecDepth 20000 in
theorem gX7_adds_X7_puts : GoodIn wsX7_adds (wsV RX7 133 RX7 yX7_puts wsX7_puts) := goodIn_app (goodIn_of _ (by decide +kernel)) ggX7_adds_X7_puts
theorem dX7_adds_0 : decode cX7_adds 0 = .ok (.aload_n 0, 1) := by decide +kernel
theorem dX7_adds_1 : decode cX7_adds 1 = .ok (.getfield 7, 3) := by decide +kernel
theorem dX7_adds_4 : decode cX7_adds 4 = .ok (.bipush 7, 2) := by decide +kernel
theorem dX7_adds_6 : decode cX7_adds 6 = .ok (.iaload, 1) := by decide +kernel
theorem dX7_adds_7 : decode cX7_adds 7 = .ok (.istore 7, 2) := by decide +kernel
theorem dX7_adds_9 : decode cX7_adds 9 = .ok (.iconst 0, 1) := by decide +kernel
theorem dX7_adds_10 : decode cX7_adds 10 = .ok (.istore 8, 2) := by decide +kernel
theorem dX7_adds_12 : decode cX7_adds 12 = .ok (.iload 8, 2) := by decide +kernel
theorem dX7_adds_14 : decode cX7_adds 14 = .ok (.bipush 14, 2) := by decide +kernel
theorem dX7_adds_16 : decode cX7_adds 16 = .ok (.if_icmp .ge 18, 3) := by decide +kernel
theorem dX7_adds_19 : decode cX7_adds 19 = .ok (.aload_n 0, 1) := by decide +kernel
theorem dX7_adds_20 : decode cX7_adds 20 = .ok (.iload 7, 2) := by decide +kernel
theorem dX7_adds_22 : decode cX7_adds 22 = .ok (.iload 8, 2) := by decide +kernel
theorem dX7_adds_24 : decode cX7_adds 24 = .ok (.iconst 0, 1) := by decide +kernel
theorem dX7_adds_25 : decode cX7_adds 25 = .ok (.invokevirtual 133, 3) := by decide +kernel
theorem dX7_adds_28 : decode cX7_adds 28 = .ok (.iinc 8 1, 3) := by decide +kernel
theorem dX7_adds_31 : decode cX7_adds 31 = .ok (.goto (-19), 3) := by decide +kernel
theorem dX7_adds_34 : decode cX7_adds 34 = .ok (.aload_n 0, 1) := by decide +kernel
theorem dX7_adds_35 : decode cX7_adds 35 = .ok (.iload 7, 2) := by decide +kernel
theorem dX7_adds_37 : decode cX7_adds 37 = .ok (.iconst 0, 1) := by decide +kernel
theorem dX7_adds_38 : decode cX7_adds 38 = .ok (.iload_n 1, 1) := by decide +kernel
theorem dX7_adds_39 : decode cX7_adds 39 = .ok (.invokevirtual 133, 3) := by decide +kernel
theorem dX7_adds_42 : decode cX7_adds 42 = .ok (.aload_n 0, 1) := by decide +kernel
theorem dX7_adds_43 : decode cX7_adds 43 = .ok (.iload 7, 2) := by decide +kernel
theorem dX7_adds_45 : decode cX7_adds 45 = .ok (.iconst 1, 1) := by decide +kernel
theorem dX7_adds_46 : decode cX7_adds 46 = .ok (.iload_n 2, 1) := by decide +kernel
theorem dX7_adds_47 : decode cX7_adds 47 = .ok (.invokevirtual 133, 3) := by decide +kernel
theorem dX7_adds_50 : decode cX7_adds 50 = .ok (.aload_n 0, 1) := by decide +kernel
theorem dX7_adds_51 : decode cX7_adds 51 = .ok (.iload 7, 2) := by decide +kernel
theorem dX7_adds_53 : decode cX7_adds 53 = .ok (.iconst 2, 1) := by decide +kernel
theorem dX7_adds_54 : decode cX7_adds 54 = .ok (.iload_n 3, 1) := by decide +kernel
theorem dX7_adds_55 : decode cX7_adds 55 = .ok (.invokevirtual 133, 3) := by decide +kernel
theorem dX7_adds_58 : decode cX7_adds 58 = .ok (.aload_n 0, 1) := by decide +kernel
theorem dX7_adds_59 : decode cX7_adds 59 = .ok (.iload 7, 2) := by decide +kernel
theorem dX7_adds_61 : decode cX7_adds 61 = .ok (.iconst 3, 1) := by decide +kernel
theorem dX7_adds_62 : decode cX7_adds 62 = .ok (.iload 4, 2) := by decide +kernel
theorem dX7_adds_64 : decode cX7_adds 64 = .ok (.invokevirtual 133, 3) := by decide +kernel
theorem dX7_adds_67 : decode cX7_adds 67 = .ok (.aload_n 0, 1) := by decide +kernel
theorem dX7_adds_68 : decode cX7_adds 68 = .ok (.iload 7, 2) := by decide +kernel
theorem dX7_adds_70 : decode cX7_adds 70 = .ok (.iconst 4, 1) := by decide +kernel
theorem dX7_adds_71 : decode cX7_adds 71 = .ok (.iload 5, 2) := by decide +kernel
theorem dX7_adds_73 : decode cX7_adds 73 = .ok (.invokevirtual 133, 3) := by decide +kernel
theorem dX7_adds_76 : decode cX7_adds 76 = .ok (.aload_n 0, 1) := by decide +kernel
theorem dX7_adds_77 : decode cX7_adds 77 = .ok (.iload 7, 2) := by decide +kernel
theorem dX7_adds_79 : decode cX7_adds 79 = .ok (.iconst 5, 1) := by decide +kernel
theorem dX7_adds_80 : decode cX7_adds 80 = .ok (.iload 6, 2) := by decide +kernel
theorem dX7_adds_82 : decode cX7_adds 82 = .ok (.invokevirtual 133, 3) := by decide +kernel
theorem dX7_adds_85 : decode cX7_adds 85 = .ok (.aload_n 0, 1) := by decide +kernel
theorem dX7_adds_86 : decode cX7_adds 86 = .ok (.getfield 7, 3) := by decide +kernel
theorem dX7_adds_89 : decode cX7_adds 89 = .ok (.bipush 7, 2) := by decide +kernel
theorem dX7_adds_91 : decode cX7_adds 91 = .ok (.dup2, 1) := by decide +kernel
theorem dX7_adds_92 : decode cX7_adds 92 = .ok (.iaload, 1) := by decide +kernel
theorem dX7_adds_93 : decode cX7_adds 93 = .ok (.iconst 1, 1) := by decide +kernel
theorem dX7_adds_94 : decode cX7_adds 94 = .ok (.iadd, 1) := by decide +kernel
theorem dX7_adds_95 : decode cX7_adds 95 = .ok (.iastore, 1) := by decide +kernel
theorem dX7_adds_96 : decode cX7_adds 96 = .ok (.return_, 1) := by decide +kernel
set_option maxRecDepth 20000 in
theorem ggX7_add_X7_isGood : GoodIn wsX7_add wsX7_isGood := goodIn_r _ [7, 8, 9, 10, 6, 11, 12, 13, 14, 15] (by decide +kernel) (by decide +kernel)
set_option maxRecDepth 20000 in
theorem gX7_add_X7_isGood : GoodIn wsX7_add (va_wsS RX7 137 yX7_isGood wsX7_isGood) := goodIn_app (goodIn_of _ (by decide +kernel)) ggX7_add_X7_isGood
set_option maxRecDepth 20000 in
theorem ggX7_add_X7_records : GoodIn wsX7_add wsX7_records := goodIn_r _ [19, 20, 21, 2, 30, 31, 32, 33, 34, 35, 36, 37, 38, 39, 40, 41] (by decide +kernel) (by decide +kernel)
set_option maxRecDepth 20000 in
theorem gX7_add_X7_records : GoodIn wsX7_add (wsV RX7 97 RX7 yX7_records wsX7_records) := goodIn_app (goodIn_of _ (by decide +kernel)) ggX7_add_X7_records
set_option maxRecDepth 20000 in
theorem ggX7_add_X7_adds : GoodIn wsX7_add wsX7_adds := goodIn_r _ [25, 2, 26, 27, 28, 6, 29, 30, 31, 32, 33, 34, 35, 36, 37, 38, 39, 40, 41] (by decide +kernel) (by decide +kernel)
set_option maxRecDepth 20000 in
theorem gX7_add_X7_adds : GoodIn wsX7_add (wsV RX7 142 RX7 yX7_adds wsX7_adds) := goodIn_app (goodIn_of _ (by decide +kernel)) ggX7_add_X7_adds
theorem dX7_add_0 : decode cX7_add 0 = .ok (.iload_n 1, 1) := by decide +kernel
theorem dX7_add_1 : decode cX7_add 1 = .ok (.iload_n 2, 1) := by decide +kernel
theorem dX7_add_2 : decode cX7_add 2 = .ok (.iload_n 3, 1) := by decide +kernel
theorem dX7_add_3 : decode cX7_add 3 = .ok (.iload 4, 2) := by decide +kernel
theorem dX7_add_5 : decode cX7_add 5 = .ok (.iload 5, 2) := by decide +kernel
theorem dX7_add_7 : decode cX7_add 7 = .ok (.iload 6, 2) := by decide +kernel
theorem dX7_add_9 : decode cX7_add 9 = .ok (.invokestatic 137, 3) := by decide +kernel
theorem dX7_add_12 : decode cX7_add 12 = .ok (.ifCond .ne 6, 3) := by decide +kernel
theorem dX7_add_15 : decode cX7_add 15 = .ok (.ldc 96, 2) := by decide +kernel
theorem dX7_add_17 : decode cX7_add 17 = .ok (.ireturn, 1) := by decide +kernel
theorem dX7_add_18 : decode cX7_add 18 = .ok (.aload_n 0, 1) := by decide +kernel
theorem dX7_add_19 : decode cX7_add 19 = .ok (.getfield 7, 3) := by decide +kernel
theorem dX7_add_22 : decode cX7_add 22 = .ok (.bipush 7, 2) := by decide +kernel
theorem dX7_add_24 : decode cX7_add 24 = .ok (.iaload, 1) := by decide +kernel
theorem dX7_add_25 : decode cX7_add 25 = .ok (.bipush 10, 2) := by decide +kernel
theorem dX7_add_27 : decode cX7_add 27 = .ok (.if_icmp .ne 6, 3) := by decide +kernel
theorem dX7_add_30 : decode cX7_add 30 = .ok (.ldc 141, 2) := by decide +kernel
theorem dX7_add_32 : decode cX7_add 32 = .ok (.ireturn, 1) := by decide +kernel
theorem dX7_add_33 : decode cX7_add 33 = .ok (.aload_n 0, 1) := by decide +kernel
theorem dX7_add_34 : decode cX7_add 34 = .ok (.invokevirtual 97, 3) := by decide +kernel
theorem dX7_add_37 : decode cX7_add 37 = .ok (.aload_n 0, 1) := by decide +kernel
theorem dX7_add_38 : decode cX7_add 38 = .ok (.iload_n 1, 1) := by decide +kernel
theorem dX7_add_39 : decode cX7_add 39 = .ok (.iload_n 2, 1) := by decide +kernel
theorem dX7_add_40 : decode cX7_add 40 = .ok (.iload_n 3, 1) := by decide +kernel
theorem dX7_add_41 : decode cX7_add 41 = .ok (.iload 4, 2) := by decide +kernel
theorem dX7_add_43 : decode cX7_add 43 = .ok (.iload 5, 2) := by decide +kernel
theorem dX7_add_45 : decode cX7_add 45 = .ok (.iload 6, 2) := by decide +kernel
theorem dX7_add_47 : decode cX7_add 47 = .ok (.invokevirtual 142, 3) := by decide +kernel
theorem dX7_add_50 : decode cX7_add 50 = .ok (.aload_n 0, 1) := by decide +kernel
theorem dX7_add_51 : decode cX7_add 51 = .ok (.getfield 7, 3) := by decide +kernel
theorem dX7_add_54 : decode cX7_add 54 = .ok (.bipush 7, 2) := by decide +kernel
theorem dX7_add_56 : decode cX7_add 56 = .ok (.iaload, 1) := by decide +kernel
theorem dX7_add_57 : decode cX7_add 57 = .ok (.iconst 1, 1) := by decide +kernel
theorem dX7_add_58 : decode cX7_add 58 = .ok (.isub, 1) := by decide +kernel
theorem dX7_add_59 : decode cX7_add 59 = .ok (.ireturn, 1) := by decide +kernel
set_option maxRecDepth 20000 in
theorem ggX7_drop_X7_isTarget : GoodIn wsX7_drop wsX7_isTarget := goodIn_r _ [8, 3, 19, 20, 21, 22, 23, 24, 25, 26, 27, 28, 29, 30] (by decide +kernel) (by decide +kernel)
set_option maxRecDepth 20000 in
theorem gX7_drop_X7_isTarget : GoodIn wsX7_drop (wsV RX7 146 RX7 yX7_isTarget wsX7_isTarget) := goodIn_app (goodIn_of _ (by decide +kernel)) ggX7_drop_X7_isTarget
set_option maxRecDepth 20000 in
theorem ggX7_drop_X7_of : GoodIn wsX7_drop wsX7_of := goodIn_r _ [12, 3, 19, 20, 21, 22, 23, 24, 25, 26, 27, 28, 29, 30] (by decide +kernel) (by decide +kernel)
set_option maxRecDepth 20000 in
theorem gX7_drop_X7_of : GoodIn wsX7_drop (wsV RX7 104 RX7 yX7_of wsX7_of) := goodIn_app (goodIn_of _ (by decide +kernel)) ggX7_drop_X7_of
set_option maxRecDepth 20000 in
theorem ggX7_drop_X7_records : GoodIn wsX7_drop wsX7_records := goodIn_r _ [16, 17, 18, 3, 19, 20, 21, 22, 23, 24, 25, 26, 27, 28, 29, 30] (by decide +kernel) (by decide +kernel)
set_option maxRecDepth 20000 in
theorem gX7_drop_X7_records : GoodIn wsX7_drop (wsV RX7 97 RX7 yX7_records wsX7_records) := goodIn_app (goodIn_of _ (by decide +kernel)) ggX7_drop_X7_records
theorem dX7_drop_0 : decode cX7_drop 0 = .ok (.aload_n 0, 1) := by decide +kernel
theorem dX7_drop_1 : decode cX7_drop 1 = .ok (.iload_n 1, 1) := by decide +kernel
theorem dX7_drop_2 : decode cX7_drop 2 = .ok (.invokevirtual 146, 3) := by decide +kernel
theorem dX7_drop_5 : decode cX7_drop 5 = .ok (.ifCond .ne 6, 3) := by decide +kernel
theorem dX7_drop_8 : decode cX7_drop 8 = .ok (.ldc 96, 2) := by decide +kernel
theorem dX7_drop_10 : decode cX7_drop 10 = .ok (.ireturn, 1) := by decide +kernel
theorem dX7_drop_11 : decode cX7_drop 11 = .ok (.aload_n 0, 1) := by decide +kernel
theorem dX7_drop_12 : decode cX7_drop 12 = .ok (.iload_n 1, 1) := by decide +kernel
theorem dX7_drop_13 : decode cX7_drop 13 = .ok (.bipush 6, 2) := by decide +kernel
theorem dX7_drop_15 : decode cX7_drop 15 = .ok (.invokevirtual 104, 3) := by decide +kernel
theorem dX7_drop_18 : decode cX7_drop 18 = .ok (.iconst 1, 1) := by decide +kernel
theorem dX7_drop_19 : decode cX7_drop 19 = .ok (.if_icmp .ne 6, 3) := by decide +kernel
theorem dX7_drop_22 : decode cX7_drop 22 = .ok (.ldc 103, 2) := by decide +kernel
theorem dX7_drop_24 : decode cX7_drop 24 = .ok (.ireturn, 1) := by decide +kernel
theorem dX7_drop_25 : decode cX7_drop 25 = .ok (.aload_n 0, 1) := by decide +kernel
theorem dX7_drop_26 : decode cX7_drop 26 = .ok (.invokevirtual 97, 3) := by decide +kernel
theorem dX7_drop_29 : decode cX7_drop 29 = .ok (.aload_n 0, 1) := by decide +kernel
theorem dX7_drop_30 : decode cX7_drop 30 = .ok (.getfield 7, 3) := by decide +kernel
theorem dX7_drop_33 : decode cX7_drop 33 = .ok (.bipush 7, 2) := by decide +kernel
theorem dX7_drop_35 : decode cX7_drop 35 = .ok (.dup2, 1) := by decide +kernel
theorem dX7_drop_36 : decode cX7_drop 36 = .ok (.iaload, 1) := by decide +kernel
theorem dX7_drop_37 : decode cX7_drop 37 = .ok (.iconst 1, 1) := by decide +kernel
theorem dX7_drop_38 : decode cX7_drop 38 = .ok (.isub, 1) := by decide +kernel
theorem dX7_drop_39 : decode cX7_drop 39 = .ok (.iastore, 1) := by decide +kernel
theorem dX7_drop_40 : decode cX7_drop 40 = .ok (.bipush 53, 2) := by decide +kernel
theorem dX7_drop_42 : decode cX7_drop 42 = .ok (.bipush 14, 2) := by decide +kernel
theorem dX7_drop_44 : decode cX7_drop 44 = .ok (.iload_n 1, 1) := by decide +kernel
theorem dX7_drop_45 : decode cX7_drop 45 = .ok (.imul, 1) := by decide +kernel
theorem dX7_drop_46 : decode cX7_drop 46 = .ok (.iadd, 1) := by decide +kernel
theorem dX7_drop_47 : decode cX7_drop 47 = .ok (.istore_n 2, 1) := by decide +kernel
theorem dX7_drop_48 : decode cX7_drop 48 = .ok (.iload_n 2, 1) := by decide +kernel
theorem dX7_drop_49 : decode cX7_drop 49 = .ok (.bipush 53, 2) := by decide +kernel
theorem dX7_drop_51 : decode cX7_drop 51 = .ok (.bipush 14, 2) := by decide +kernel
theorem dX7_drop_53 : decode cX7_drop 53 = .ok (.aload_n 0, 1) := by decide +kernel
theorem dX7_drop_54 : decode cX7_drop 54 = .ok (.getfield 7, 3) := by decide +kernel
theorem dX7_drop_57 : decode cX7_drop 57 = .ok (.bipush 7, 2) := by decide +kernel
theorem dX7_drop_59 : decode cX7_drop 59 = .ok (.iaload, 1) := by decide +kernel
theorem dX7_drop_60 : decode cX7_drop 60 = .ok (.imul, 1) := by decide +kernel
theorem dX7_drop_61 : decode cX7_drop 61 = .ok (.iadd, 1) := by decide +kernel
theorem dX7_drop_62 : decode cX7_drop 62 = .ok (.if_icmp .ge 24, 3) := by decide +kernel
theorem dX7_drop_65 : decode cX7_drop 65 = .ok (.aload_n 0, 1) := by decide +kernel
theorem dX7_drop_66 : decode cX7_drop 66 = .ok (.getfield 7, 3) := by decide +kernel
theorem dX7_drop_69 : decode cX7_drop 69 = .ok (.iload_n 2, 1) := by decide +kernel
theorem dX7_drop_70 : decode cX7_drop 70 = .ok (.aload_n 0, 1) := by decide +kernel
theorem dX7_drop_71 : decode cX7_drop 71 = .ok (.getfield 7, 3) := by decide +kernel
theorem dX7_drop_74 : decode cX7_drop 74 = .ok (.iload_n 2, 1) := by decide +kernel
theorem dX7_drop_75 : decode cX7_drop 75 = .ok (.bipush 14, 2) := by decide +kernel
theorem dX7_drop_77 : decode cX7_drop 77 = .ok (.iadd, 1) := by decide +kernel
theorem dX7_drop_78 : decode cX7_drop 78 = .ok (.iaload, 1) := by decide +kernel
theorem dX7_drop_79 : decode cX7_drop 79 = .ok (.iastore, 1) := by decide +kernel
theorem dX7_drop_80 : decode cX7_drop 80 = .ok (.iinc 2 1, 3) := by decide +kernel
theorem dX7_drop_83 : decode cX7_drop 83 = .ok (.goto (-35), 3) := by decide +kernel
theorem dX7_drop_86 : decode cX7_drop 86 = .ok (.aload_n 0, 1) := by decide +kernel
theorem dX7_drop_87 : decode cX7_drop 87 = .ok (.getfield 7, 3) := by decide +kernel
theorem dX7_drop_90 : decode cX7_drop 90 = .ok (.bipush 7, 2) := by decide +kernel
theorem dX7_drop_92 : decode cX7_drop 92 = .ok (.iaload, 1) := by decide +kernel
theorem dX7_drop_93 : decode cX7_drop 93 = .ok (.ireturn, 1) := by decide +kernel
set_option maxRecDepth 20000 in
theorem ggX7_target_X7_isTarget : GoodIn wsX7_target wsX7_isTarget := goodIn_r _ [7, 8, 16, 17, 18, 19, 20, 21, 22, 23, 24, 25, 26, 27] (by decide +kernel) (by decide +kernel)
set_option maxRecDepth 20000 in
theorem gX7_target_X7_isTarget : GoodIn wsX7_target (wsV RX7 146 RX7 yX7_isTarget wsX7_isTarget) := goodIn_app (goodIn_of _ (by decide +kernel)) ggX7_target_X7_isTarget
set_option maxRecDepth 20000 in
theorem ggX7_target_X7_in : GoodIn wsX7_target wsX7_in := goodIn_r _ [11] (by decide +kernel) (by decide +kernel)
set_option maxRecDepth 20000 in
theorem gX7_target_X7_in : GoodIn wsX7_target (va_wsS RX7 54 yX7_in wsX7_in) := goodIn_app (goodIn_of _ (by decide +kernel)) ggX7_target_X7_in
set_option maxRecDepth 20000 in
theorem ggX7_target_X7_of : GoodIn wsX7_target wsX7_of := goodIn_r _ [15, 8, 16, 17, 18, 19, 20, 21, 22, 23, 24, 25, 26, 27] (by decide +kernel) (by decide +kernel)
set_option maxRecDepth 20000 in
theorem gX7_target_X7_of : GoodIn wsX7_target (wsV RX7 104 RX7 yX7_of wsX7_of) := goodIn_app (goodIn_of _ (by decide +kernel)) ggX7_target_X7_of
theorem dX7_target_0 : decode cX7_target 0 = .ok (.aload_n 0, 1) := by decide +kernel
theorem dX7_target_1 : decode cX7_target 1 = .ok (.iload_n 1, 1) := by decide +kernel
theorem dX7_target_2 : decode cX7_target 2 = .ok (.invokevirtual 146, 3) := by decide +kernel
theorem dX7_target_5 : decode cX7_target 5 = .ok (.ifCond .eq 13, 3) := by decide +kernel
theorem dX7_target_8 : decode cX7_target 8 = .ok (.iload_n 2, 1) := by decide +kernel
theorem dX7_target_9 : decode cX7_target 9 = .ok (.iconst 0, 1) := by decide +kernel
theorem dX7_target_10 : decode cX7_target 10 = .ok (.bipush 12, 2) := by decide +kernel
theorem dX7_target_12 : decode cX7_target 12 = .ok (.invokestatic 54, 3) := by decide +kernel
theorem dX7_target_15 : decode cX7_target 15 = .ok (.ifCond .ne 6, 3) := by decide +kernel
theorem dX7_target_18 : decode cX7_target 18 = .ok (.ldc 96, 2) := by decide +kernel
theorem dX7_target_20 : decode cX7_target 20 = .ok (.ireturn, 1) := by decide +kernel
theorem dX7_target_21 : decode cX7_target 21 = .ok (.aload_n 0, 1) := by decide +kernel
theorem dX7_target_22 : decode cX7_target 22 = .ok (.iload_n 1, 1) := by decide +kernel
theorem dX7_target_23 : decode cX7_target 23 = .ok (.bipush 6, 2) := by decide +kernel
theorem dX7_target_25 : decode cX7_target 25 = .ok (.invokevirtual 104, 3) := by decide +kernel
theorem dX7_target_28 : decode cX7_target 28 = .ok (.istore_n 3, 1) := by decide +kernel
theorem dX7_target_29 : decode cX7_target 29 = .ok (.iload_n 2, 1) := by decide +kernel
theorem dX7_target_30 : decode cX7_target 30 = .ok (.bipush 7, 2) := by decide +kernel
theorem dX7_target_32 : decode cX7_target 32 = .ok (.if_icmp .lt 25, 3) := by decide +kernel
theorem dX7_target_35 : decode cX7_target 35 = .ok (.iload_n 2, 1) := by decide +kernel
theorem dX7_target_36 : decode cX7_target 36 = .ok (.bipush 11, 2) := by decide +kernel
theorem dX7_target_38 : decode cX7_target 38 = .ok (.if_icmp .eq 19, 3) := by decide +kernel
theorem dX7_target_41 : decode cX7_target 41 = .ok (.iload_n 3, 1) := by decide +kernel
theorem dX7_target_42 : decode cX7_target 42 = .ok (.iconst 2, 1) := by decide +kernel
theorem dX7_target_43 : decode cX7_target 43 = .ok (.if_icmp .eq 14, 3) := by decide +kernel
theorem dX7_target_46 : decode cX7_target 46 = .ok (.iload_n 3, 1) := by decide +kernel
theorem dX7_target_47 : decode cX7_target 47 = .ok (.iconst 1, 1) := by decide +kernel
theorem dX7_target_48 : decode cX7_target 48 = .ok (.if_icmp .ne 13, 3) := by decide +kernel
theorem dX7_target_51 : decode cX7_target 51 = .ok (.iload_n 2, 1) := by decide +kernel
theorem dX7_target_52 : decode cX7_target 52 = .ok (.bipush 10, 2) := by decide +kernel
theorem dX7_target_54 : decode cX7_target 54 = .ok (.if_icmp .eq 7, 3) := by decide +kernel
theorem dX7_target_57 : decode cX7_target 57 = .ok (.iconst 1, 1) := by decide +kernel
theorem dX7_target_58 : decode cX7_target 58 = .ok (.goto 4, 3) := by decide +kernel
theorem dX7_target_61 : decode cX7_target 61 = .ok (.iconst 0, 1) := by decide +kernel
theorem dX7_target_62 : decode cX7_target 62 = .ok (.istore 4, 2) := by decide +kernel
theorem dX7_target_64 : decode cX7_target 64 = .ok (.iload 4, 2) := by decide +kernel
theorem dX7_target_66 : decode cX7_target 66 = .ok (.ifCond .eq 12, 3) := by decide +kernel
theorem dX7_target_69 : decode cX7_target 69 = .ok (.aload_n 0, 1) := by decide +kernel
theorem dX7_target_70 : decode cX7_target 70 = .ok (.iload_n 1, 1) := by decide +kernel
theorem dX7_target_71 : decode cX7_target 71 = .ok (.iload_n 2, 1) := by decide +kernel
theorem dX7_target_72 : decode cX7_target 72 = .ok (.invokevirtual 104, 3) := by decide +kernel
theorem dX7_target_75 : decode cX7_target 75 = .ok (.goto 5, 3) := by decide +kernel
theorem dX7_target_78 : decode cX7_target 78 = .ok (.ldc 80, 2) := by decide +kernel
theorem dX7_target_80 : decode cX7_target 80 = .ok (.ireturn, 1) := by decide +kernel
set_option maxRecDepth 20000 in
theorem ggX7_whyNot_X7_of : GoodIn wsX7_whyNot wsX7_of := goodIn_r _ [7, 2, 74, 75, 76, 77, 78, 79, 80, 81, 82, 83, 84, 85] (by decide +kernel) (by decide +kernel)
set_option maxRecDepth 20000 in
theorem gX7_whyNot_X7_of : GoodIn wsX7_whyNot (wsV RX7 104 RX7 yX7_of wsX7_of) := goodIn_app (goodIn_of _ (by decide +kernel)) ggX7_whyNot_X7_of
set_option maxRecDepth 20000 in
theorem ggX7_whyNot_X7_underWay : GoodIn wsX7_whyNot wsX7_underWay := goodIn_r _ [11, 2, 1, 3, 4, 5, 6, 7, 74, 75, 76, 77, 78, 79, 80, 81, 82, 83, 84, 85] (by decide +kernel) (by decide +kernel)
set_option maxRecDepth 20000 in
theorem gX7_whyNot_X7_underWay : GoodIn wsX7_whyNot (wsV RX7 107 RX7 yX7_underWay wsX7_underWay) := goodIn_app (goodIn_of _ (by decide +kernel)) ggX7_whyNot_X7_underWay
set_option maxRecDepth 20000 in
theorem ggX7_whyNot_X7_kindOfDay : GoodIn wsX7_whyNot wsX7_kindOfDay := goodIn_r _ [15, 2, 16, 17, 18, 6, 19, 20, 21, 22, 23, 74, 75, 76, 77, 78, 79, 80, 81, 82, 83, 84, 85] (by decide +kernel) (by decide +kernel)
set_option maxRecDepth 20000 in
theorem gX7_whyNot_X7_kindOfDay : GoodIn wsX7_whyNot (wsV RX7 110 RX7 yX7_kindOfDay wsX7_kindOfDay) := goodIn_app (goodIn_of _ (by decide +kernel)) ggX7_whyNot_X7_kindOfDay
set_option maxRecDepth 20000 in
theorem ggX7_whyNot_X7_isPossible : GoodIn wsX7_whyNot wsX7_isPossible := goodIn_r _ [27, 28, 29, 30, 31, 32, 33, 6, 34, 2, 35, 36, 37, 38, 39, 40, 41, 42, 43, 44, 45, 46, 47, 48, 49, 74, 75, 76, 77, 78, 79, 80, 81, 82, 83, 84, 85] (by decide +kernel) (by decide +kernel)
set_option maxRecDepth 20000 in
theorem gX7_whyNot_X7_isPossible : GoodIn wsX7_whyNot (wsV RX7 77 RX7 yX7_isPossible wsX7_isPossible) := goodIn_app (goodIn_of _ (by decide +kernel)) ggX7_whyNot_X7_isPossible
set_option maxRecDepth 20000 in
theorem ggX7_whyNot_X7_placeOf : GoodIn wsX7_whyNot wsX7_placeOf := goodIn_r _ [53, 54, 1, 24, 25, 26, 6, 27, 28, 29, 30, 31, 32, 33, 34, 2, 35, 36, 37, 38, 39, 40, 41, 42, 43, 44, 45, 46, 47, 48, 49, 55, 56, 57, 58, 59, 60, 61, 62, 63, 64, 65, 66, 67, 68, 69, 74, 75, 76, 77, 78, 79, 80, 81, 82, 83, 84, 85] (by decide +kernel) (by decide +kernel)
set_option maxRecDepth 20000 in
theorem gX7_whyNot_X7_placeOf : GoodIn wsX7_whyNot (wsV RX7 123 RX7 yX7_placeOf wsX7_placeOf) := goodIn_app (goodIn_of _ (by decide +kernel)) ggX7_whyNot_X7_placeOf
set_option maxRecDepth 20000 in
theorem ggX7_whyNot_X7_timeOf : GoodIn wsX7_whyNot wsX7_timeOf := goodIn_r _ [73, 39, 40, 41, 6, 42, 2, 63, 64, 65, 66, 29, 30, 28, 31, 32, 33, 34, 35, 36, 37, 38, 67, 68, 69, 74, 75, 76, 77, 78, 79, 80, 81, 82, 83, 84, 85] (by decide +kernel) (by decide +kernel)
set_option maxRecDepth 20000 in
theorem gX7_whyNot_X7_timeOf : GoodIn wsX7_whyNot (wsV RX7 87 RX7 yX7_timeOf wsX7_timeOf) := goodIn_app (goodIn_of _ (by decide +kernel)) ggX7_whyNot_X7_timeOf
theorem dX7_whyNot_0 : decode cX7_whyNot 0 = .ok (.aload_n 0, 1) := by decide +kernel
theorem dX7_whyNot_1 : decode cX7_whyNot 1 = .ok (.iload_n 1, 1) := by decide +kernel
theorem dX7_whyNot_2 : decode cX7_whyNot 2 = .ok (.bipush 6, 2) := by decide +kernel
theorem dX7_whyNot_4 : decode cX7_whyNot 4 = .ok (.invokevirtual 104, 3) := by decide +kernel
theorem dX7_whyNot_7 : decode cX7_whyNot 7 = .ok (.ifCond .eq 5, 3) := by decide +kernel
theorem dX7_whyNot_10 : decode cX7_whyNot 10 = .ok (.iconst 1, 1) := by decide +kernel
theorem dX7_whyNot_11 : decode cX7_whyNot 11 = .ok (.ireturn, 1) := by decide +kernel
theorem dX7_whyNot_12 : decode cX7_whyNot 12 = .ok (.aload_n 0, 1) := by decide +kernel
theorem dX7_whyNot_13 : decode cX7_whyNot 13 = .ok (.invokevirtual 107, 3) := by decide +kernel
theorem dX7_whyNot_16 : decode cX7_whyNot 16 = .ok (.ldc 80, 2) := by decide +kernel
theorem dX7_whyNot_18 : decode cX7_whyNot 18 = .ok (.if_icmp .eq 5, 3) := by decide +kernel
theorem dX7_whyNot_21 : decode cX7_whyNot 21 = .ok (.iconst 2, 1) := by decide +kernel
theorem dX7_whyNot_22 : decode cX7_whyNot 22 = .ok (.ireturn, 1) := by decide +kernel
theorem dX7_whyNot_23 : decode cX7_whyNot 23 = .ok (.aload_n 0, 1) := by decide +kernel
theorem dX7_whyNot_24 : decode cX7_whyNot 24 = .ok (.invokevirtual 110, 3) := by decide +kernel
theorem dX7_whyNot_27 : decode cX7_whyNot 27 = .ok (.ifCond .ne 5, 3) := by decide +kernel
theorem dX7_whyNot_30 : decode cX7_whyNot 30 = .ok (.iconst 3, 1) := by decide +kernel
theorem dX7_whyNot_31 : decode cX7_whyNot 31 = .ok (.ireturn, 1) := by decide +kernel
theorem dX7_whyNot_32 : decode cX7_whyNot 32 = .ok (.aload_n 0, 1) := by decide +kernel
theorem dX7_whyNot_33 : decode cX7_whyNot 33 = .ok (.getfield 7, 3) := by decide +kernel
theorem dX7_whyNot_36 : decode cX7_whyNot 36 = .ok (.iconst 4, 1) := by decide +kernel
theorem dX7_whyNot_37 : decode cX7_whyNot 37 = .ok (.iaload, 1) := by decide +kernel
theorem dX7_whyNot_38 : decode cX7_whyNot 38 = .ok (.aload_n 0, 1) := by decide +kernel
theorem dX7_whyNot_39 : decode cX7_whyNot 39 = .ok (.iload_n 1, 1) := by decide +kernel
theorem dX7_whyNot_40 : decode cX7_whyNot 40 = .ok (.iconst 2, 1) := by decide +kernel
theorem dX7_whyNot_41 : decode cX7_whyNot 41 = .ok (.invokevirtual 104, 3) := by decide +kernel
theorem dX7_whyNot_44 : decode cX7_whyNot 44 = .ok (.if_icmp .ge 5, 3) := by decide +kernel
theorem dX7_whyNot_47 : decode cX7_whyNot 47 = .ok (.iconst 4, 1) := by decide +kernel
theorem dX7_whyNot_48 : decode cX7_whyNot 48 = .ok (.ireturn, 1) := by decide +kernel
theorem dX7_whyNot_49 : decode cX7_whyNot 49 = .ok (.aload_n 0, 1) := by decide +kernel
theorem dX7_whyNot_50 : decode cX7_whyNot 50 = .ok (.iconst 1, 1) := by decide +kernel
theorem dX7_whyNot_51 : decode cX7_whyNot 51 = .ok (.aload_n 0, 1) := by decide +kernel
theorem dX7_whyNot_52 : decode cX7_whyNot 52 = .ok (.iload_n 1, 1) := by decide +kernel
theorem dX7_whyNot_53 : decode cX7_whyNot 53 = .ok (.iconst 1, 1) := by decide +kernel
theorem dX7_whyNot_54 : decode cX7_whyNot 54 = .ok (.invokevirtual 104, 3) := by decide +kernel
theorem dX7_whyNot_57 : decode cX7_whyNot 57 = .ok (.invokevirtual 77, 3) := by decide +kernel
theorem dX7_whyNot_60 : decode cX7_whyNot 60 = .ok (.ifCond .ne 5, 3) := by decide +kernel
theorem dX7_whyNot_63 : decode cX7_whyNot 63 = .ok (.iconst 5, 1) := by decide +kernel
theorem dX7_whyNot_64 : decode cX7_whyNot 64 = .ok (.ireturn, 1) := by decide +kernel
theorem dX7_whyNot_65 : decode cX7_whyNot 65 = .ok (.aload_n 0, 1) := by decide +kernel
theorem dX7_whyNot_66 : decode cX7_whyNot 66 = .ok (.aload_n 0, 1) := by decide +kernel
theorem dX7_whyNot_67 : decode cX7_whyNot 67 = .ok (.iload_n 1, 1) := by decide +kernel
theorem dX7_whyNot_68 : decode cX7_whyNot 68 = .ok (.iconst 0, 1) := by decide +kernel
theorem dX7_whyNot_69 : decode cX7_whyNot 69 = .ok (.invokevirtual 104, 3) := by decide +kernel
theorem dX7_whyNot_72 : decode cX7_whyNot 72 = .ok (.invokevirtual 123, 3) := by decide +kernel
theorem dX7_whyNot_75 : decode cX7_whyNot 75 = .ok (.istore_n 2, 1) := by decide +kernel
theorem dX7_whyNot_76 : decode cX7_whyNot 76 = .ok (.iload_n 2, 1) := by decide +kernel
theorem dX7_whyNot_77 : decode cX7_whyNot 77 = .ok (.ldc 80, 2) := by decide +kernel
theorem dX7_whyNot_79 : decode cX7_whyNot 79 = .ok (.if_icmp .ne 6, 3) := by decide +kernel
theorem dX7_whyNot_82 : decode cX7_whyNot 82 = .ok (.bipush 6, 2) := by decide +kernel
theorem dX7_whyNot_84 : decode cX7_whyNot 84 = .ok (.ireturn, 1) := by decide +kernel
theorem dX7_whyNot_85 : decode cX7_whyNot 85 = .ok (.aload_n 0, 1) := by decide +kernel
theorem dX7_whyNot_86 : decode cX7_whyNot 86 = .ok (.iconst 0, 1) := by decide +kernel
theorem dX7_whyNot_87 : decode cX7_whyNot 87 = .ok (.iload_n 2, 1) := by decide +kernel
theorem dX7_whyNot_88 : decode cX7_whyNot 88 = .ok (.invokevirtual 87, 3) := by decide +kernel
theorem dX7_whyNot_91 : decode cX7_whyNot 91 = .ok (.istore_n 3, 1) := by decide +kernel
theorem dX7_whyNot_92 : decode cX7_whyNot 92 = .ok (.aload_n 0, 1) := by decide +kernel
theorem dX7_whyNot_93 : decode cX7_whyNot 93 = .ok (.iconst 1, 1) := by decide +kernel
theorem dX7_whyNot_94 : decode cX7_whyNot 94 = .ok (.aload_n 0, 1) := by decide +kernel
theorem dX7_whyNot_95 : decode cX7_whyNot 95 = .ok (.iload_n 1, 1) := by decide +kernel
theorem dX7_whyNot_96 : decode cX7_whyNot 96 = .ok (.iconst 1, 1) := by decide +kernel
theorem dX7_whyNot_97 : decode cX7_whyNot 97 = .ok (.invokevirtual 104, 3) := by decide +kernel
theorem dX7_whyNot_100 : decode cX7_whyNot 100 = .ok (.invokevirtual 87, 3) := by decide +kernel
theorem dX7_whyNot_103 : decode cX7_whyNot 103 = .ok (.istore 4, 2) := by decide +kernel
theorem dX7_whyNot_105 : decode cX7_whyNot 105 = .ok (.aload_n 0, 1) := by decide +kernel
theorem dX7_whyNot_106 : decode cX7_whyNot 106 = .ok (.getfield 7, 3) := by decide +kernel
theorem dX7_whyNot_109 : decode cX7_whyNot 109 = .ok (.iconst 4, 1) := by decide +kernel
theorem dX7_whyNot_110 : decode cX7_whyNot 110 = .ok (.iaload, 1) := by decide +kernel
theorem dX7_whyNot_111 : decode cX7_whyNot 111 = .ok (.iload_n 3, 1) := by decide +kernel
theorem dX7_whyNot_112 : decode cX7_whyNot 112 = .ok (.iload 4, 2) := by decide +kernel
theorem dX7_whyNot_114 : decode cX7_whyNot 114 = .ok (.if_icmp .le 7, 3) := by decide +kernel
theorem dX7_whyNot_117 : decode cX7_whyNot 117 = .ok (.iload_n 3, 1) := by decide +kernel
theorem dX7_whyNot_118 : decode cX7_whyNot 118 = .ok (.goto 5, 3) := by decide +kernel
theorem dX7_whyNot_121 : decode cX7_whyNot 121 = .ok (.iload 4, 2) := by decide +kernel
theorem dX7_whyNot_123 : decode cX7_whyNot 123 = .ok (.iadd, 1) := by decide +kernel
theorem dX7_whyNot_124 : decode cX7_whyNot 124 = .ok (.aload_n 0, 1) := by decide +kernel
theorem dX7_whyNot_125 : decode cX7_whyNot 125 = .ok (.iload_n 1, 1) := by decide +kernel
theorem dX7_whyNot_126 : decode cX7_whyNot 126 = .ok (.iconst 4, 1) := by decide +kernel
theorem dX7_whyNot_127 : decode cX7_whyNot 127 = .ok (.invokevirtual 104, 3) := by decide +kernel
theorem dX7_whyNot_130 : decode cX7_whyNot 130 = .ok (.iadd, 1) := by decide +kernel
theorem dX7_whyNot_131 : decode cX7_whyNot 131 = .ok (.aload_n 0, 1) := by decide +kernel
theorem dX7_whyNot_132 : decode cX7_whyNot 132 = .ok (.iload_n 1, 1) := by decide +kernel
theorem dX7_whyNot_133 : decode cX7_whyNot 133 = .ok (.iconst 3, 1) := by decide +kernel
theorem dX7_whyNot_134 : decode cX7_whyNot 134 = .ok (.invokevirtual 104, 3) := by decide +kernel
theorem dX7_whyNot_137 : decode cX7_whyNot 137 = .ok (.if_icmp .le 8, 3) := by decide +kernel
theorem dX7_whyNot_140 : decode cX7_whyNot 140 = .ok (.bipush 7, 2) := by decide +kernel
theorem dX7_whyNot_142 : decode cX7_whyNot 142 = .ok (.goto 4, 3) := by decide +kernel
theorem dX7_whyNot_145 : decode cX7_whyNot 145 = .ok (.iconst 0, 1) := by decide +kernel
theorem dX7_whyNot_146 : decode cX7_whyNot 146 = .ok (.ireturn, 1) := by decide +kernel
set_option maxRecDepth 20000 in
theorem ggX7_why_X7_isTarget : GoodIn wsX7_why wsX7_isTarget := goodIn_r _ [6, 7, 83, 84, 85, 86, 87, 88, 89, 90, 91, 92, 93, 94] (by decide +kernel) (by decide +kernel)
set_option maxRecDepth 20000 in
theorem gX7_why_X7_isTarget : GoodIn wsX7_why (wsV RX7 146 RX7 yX7_isTarget wsX7_isTarget) := goodIn_app (goodIn_of _ (by decide +kernel)) ggX7_why_X7_isTarget
set_option maxRecDepth 20000 in
theorem ggX7_why_X7_whyNot : GoodIn wsX7_why wsX7_whyNot := goodIn_r _ [11, 12, 7, 13, 14, 15, 5, 16, 17, 18, 19, 20, 21, 22, 23, 24, 25, 26, 27, 28, 29, 30, 31, 32, 33, 34, 35, 36, 37, 38, 39, 40, 41, 42, 43, 44, 45, 46, 47, 48, 49, 50, 51, 52, 53, 54, 55, 56, 57, 58, 59, 60, 61, 62, 63, 64, 65, 66, 67, 68, 69, 70, 71, 72, 73, 74, 75, 76, 77, 78, 79, 80, 81, 82, 83, 84, 85, 86, 87, 88, 89, 90, 91, 92, 93, 94] (by decide +kernel) (by decide +kernel)
set_option maxRecDepth 20000 in
theorem gX7_why_X7_whyNot : GoodIn wsX7_why (wsV RX7 149 RX7 yX7_whyNot wsX7_whyNot) := goodIn_app (goodIn_of _ (by decide +kernel)) ggX7_why_X7_whyNot
theorem dX7_why_0 : decode cX7_why 0 = .ok (.aload_n 0, 1) := by decide +kernel
theorem dX7_why_1 : decode cX7_why 1 = .ok (.iload_n 1, 1) := by decide +kernel
theorem dX7_why_2 : decode cX7_why 2 = .ok (.invokevirtual 146, 3) := by decide +kernel
theorem dX7_why_5 : decode cX7_why 5 = .ok (.ifCond .eq 11, 3) := by decide +kernel
theorem dX7_why_8 : decode cX7_why 8 = .ok (.aload_n 0, 1) := by decide +kernel
theorem dX7_why_9 : decode cX7_why 9 = .ok (.iload_n 1, 1) := by decide +kernel
theorem dX7_why_10 : decode cX7_why 10 = .ok (.invokevirtual 149, 3) := by decide +kernel
theorem dX7_why_13 : decode cX7_why 13 = .ok (.goto 5, 3) := by decide +kernel
theorem dX7_why_16 : decode cX7_why 16 = .ok (.ldc 96, 2) := by decide +kernel
theorem dX7_why_18 : decode cX7_why 18 = .ok (.ireturn, 1) := by decide +kernel
set_option maxRecDepth 20000 in
theorem ggX7_comesFirst_X7_of : GoodIn wsX7_comesFirst wsX7_of := goodIn_r _ [5, 6, 7, 8, 9, 10, 11, 12, 13, 14, 15, 16, 17, 18] (by decide +kernel) (by decide +kernel)
set_option maxRecDepth 20000 in
theorem gX7_comesFirst_X7_of : GoodIn wsX7_comesFirst (wsV RX7 104 RX7 yX7_of wsX7_of) := goodIn_app (goodIn_of _ (by decide +kernel)) ggX7_comesFirst_X7_of
theorem dX7_comesFirst_0 : decode cX7_comesFirst 0 = .ok (.aload_n 0, 1) := by decide +kernel
theorem dX7_comesFirst_1 : decode cX7_comesFirst 1 = .ok (.iload_n 1, 1) := by decide +kernel
theorem dX7_comesFirst_2 : decode cX7_comesFirst 2 = .ok (.iconst 5, 1) := by decide +kernel
theorem dX7_comesFirst_3 : decode cX7_comesFirst 3 = .ok (.invokevirtual 104, 3) := by decide +kernel
theorem dX7_comesFirst_6 : decode cX7_comesFirst 6 = .ok (.aload_n 0, 1) := by decide +kernel
theorem dX7_comesFirst_7 : decode cX7_comesFirst 7 = .ok (.iload_n 2, 1) := by decide +kernel
theorem dX7_comesFirst_8 : decode cX7_comesFirst 8 = .ok (.iconst 5, 1) := by decide +kernel
theorem dX7_comesFirst_9 : decode cX7_comesFirst 9 = .ok (.invokevirtual 104, 3) := by decide +kernel
theorem dX7_comesFirst_12 : decode cX7_comesFirst 12 = .ok (.if_icmp .eq 24, 3) := by decide +kernel
theorem dX7_comesFirst_15 : decode cX7_comesFirst 15 = .ok (.aload_n 0, 1) := by decide +kernel
theorem dX7_comesFirst_16 : decode cX7_comesFirst 16 = .ok (.iload_n 1, 1) := by decide +kernel
theorem dX7_comesFirst_17 : decode cX7_comesFirst 17 = .ok (.iconst 5, 1) := by decide +kernel
theorem dX7_comesFirst_18 : decode cX7_comesFirst 18 = .ok (.invokevirtual 104, 3) := by decide +kernel
theorem dX7_comesFirst_21 : decode cX7_comesFirst 21 = .ok (.aload_n 0, 1) := by decide +kernel
theorem dX7_comesFirst_22 : decode cX7_comesFirst 22 = .ok (.iload_n 2, 1) := by decide +kernel
theorem dX7_comesFirst_23 : decode cX7_comesFirst 23 = .ok (.iconst 5, 1) := by decide +kernel
theorem dX7_comesFirst_24 : decode cX7_comesFirst 24 = .ok (.invokevirtual 104, 3) := by decide +kernel
theorem dX7_comesFirst_27 : decode cX7_comesFirst 27 = .ok (.if_icmp .le 7, 3) := by decide +kernel
theorem dX7_comesFirst_30 : decode cX7_comesFirst 30 = .ok (.iconst 1, 1) := by decide +kernel
theorem dX7_comesFirst_31 : decode cX7_comesFirst 31 = .ok (.goto 4, 3) := by decide +kernel
theorem dX7_comesFirst_34 : decode cX7_comesFirst 34 = .ok (.iconst 0, 1) := by decide +kernel
theorem dX7_comesFirst_35 : decode cX7_comesFirst 35 = .ok (.ireturn, 1) := by decide +kernel
theorem dX7_comesFirst_36 : decode cX7_comesFirst 36 = .ok (.aload_n 0, 1) := by decide +kernel
theorem dX7_comesFirst_37 : decode cX7_comesFirst 37 = .ok (.iload_n 1, 1) := by decide +kernel
theorem dX7_comesFirst_38 : decode cX7_comesFirst 38 = .ok (.iconst 3, 1) := by decide +kernel
theorem dX7_comesFirst_39 : decode cX7_comesFirst 39 = .ok (.invokevirtual 104, 3) := by decide +kernel
theorem dX7_comesFirst_42 : decode cX7_comesFirst 42 = .ok (.aload_n 0, 1) := by decide +kernel
theorem dX7_comesFirst_43 : decode cX7_comesFirst 43 = .ok (.iload_n 2, 1) := by decide +kernel
theorem dX7_comesFirst_44 : decode cX7_comesFirst 44 = .ok (.iconst 3, 1) := by decide +kernel
theorem dX7_comesFirst_45 : decode cX7_comesFirst 45 = .ok (.invokevirtual 104, 3) := by decide +kernel
theorem dX7_comesFirst_48 : decode cX7_comesFirst 48 = .ok (.if_icmp .ge 7, 3) := by decide +kernel
theorem dX7_comesFirst_51 : decode cX7_comesFirst 51 = .ok (.iconst 1, 1) := by decide +kernel
theorem dX7_comesFirst_52 : decode cX7_comesFirst 52 = .ok (.goto 4, 3) := by decide +kernel
theorem dX7_comesFirst_55 : decode cX7_comesFirst 55 = .ok (.iconst 0, 1) := by decide +kernel
theorem dX7_comesFirst_56 : decode cX7_comesFirst 56 = .ok (.ireturn, 1) := by decide +kernel
set_option maxRecDepth 20000 in
theorem ggX7_nextOne_X7_whyNot : GoodIn wsX7_nextOne wsX7_whyNot := goodIn_r _ [7, 1, 2, 8, 9, 10, 6, 11, 12, 13, 14, 15, 16, 17, 18, 19, 20, 21, 22, 23, 24, 25, 26, 27, 28, 29, 30, 31, 32, 33, 34, 35, 36, 37, 38, 39, 40, 41, 42, 43, 44, 45, 46, 47, 48, 49, 50, 51, 52, 53, 54, 55, 56, 57, 58, 59, 60, 61, 62, 63, 64, 65, 66, 67, 68, 69, 70, 71, 72, 73, 74, 75, 76, 77, 82, 83, 84, 85, 86, 87, 88, 89, 90, 91, 92, 93] (by decide +kernel) (by decide +kernel)
set_option maxRecDepth 20000 in
theorem gX7_nextOne_X7_whyNot : GoodIn wsX7_nextOne (wsV RX7 149 RX7 yX7_whyNot wsX7_whyNot) := goodIn_app (goodIn_of _ (by decide +kernel)) ggX7_nextOne_X7_whyNot
set_option maxRecDepth 20000 in
theorem ggX7_nextOne_X7_comesFirst : GoodIn wsX7_nextOne wsX7_comesFirst := goodIn_r _ [81, 8, 9, 10, 6, 11, 2, 82, 83, 84, 85, 86, 87, 88, 89, 90, 91, 92, 93] (by decide +kernel) (by decide +kernel)
set_option maxRecDepth 20000 in
theorem gX7_nextOne_X7_comesFirst : GoodIn wsX7_nextOne (wsV RX7 152 RX7 yX7_comesFirst wsX7_comesFirst) := goodIn_app (goodIn_of _ (by decide +kernel)) ggX7_nextOne_X7_comesFirst
theorem dX7_nextOne_0 : decode cX7_nextOne 0 = .ok (.ldc 80, 2) := by decide +kernel
theorem dX7_nextOne_2 : decode cX7_nextOne 2 = .ok (.istore_n 1, 1) := by decide +kernel
theorem dX7_nextOne_3 : decode cX7_nextOne 3 = .ok (.iconst 0, 1) := by decide +kernel
theorem dX7_nextOne_4 : decode cX7_nextOne 4 = .ok (.istore_n 2, 1) := by decide +kernel
theorem dX7_nextOne_5 : decode cX7_nextOne 5 = .ok (.iload_n 2, 1) := by decide +kernel
theorem dX7_nextOne_6 : decode cX7_nextOne 6 = .ok (.aload_n 0, 1) := by decide +kernel
theorem dX7_nextOne_7 : decode cX7_nextOne 7 = .ok (.getfield 7, 3) := by decide +kernel
theorem dX7_nextOne_10 : decode cX7_nextOne 10 = .ok (.bipush 7, 2) := by decide +kernel
theorem dX7_nextOne_12 : decode cX7_nextOne 12 = .ok (.iaload, 1) := by decide +kernel
theorem dX7_nextOne_13 : decode cX7_nextOne 13 = .ok (.if_icmp .ge 38, 3) := by decide +kernel
theorem dX7_nextOne_16 : decode cX7_nextOne 16 = .ok (.aload_n 0, 1) := by decide +kernel
theorem dX7_nextOne_17 : decode cX7_nextOne 17 = .ok (.iload_n 2, 1) := by decide +kernel
theorem dX7_nextOne_18 : decode cX7_nextOne 18 = .ok (.invokevirtual 149, 3) := by decide +kernel
theorem dX7_nextOne_21 : decode cX7_nextOne 21 = .ok (.ifCond .ne 22, 3) := by decide +kernel
theorem dX7_nextOne_24 : decode cX7_nextOne 24 = .ok (.iload_n 1, 1) := by decide +kernel
theorem dX7_nextOne_25 : decode cX7_nextOne 25 = .ok (.ldc 80, 2) := by decide +kernel
theorem dX7_nextOne_27 : decode cX7_nextOne 27 = .ok (.if_icmp .eq 12, 3) := by decide +kernel
theorem dX7_nextOne_30 : decode cX7_nextOne 30 = .ok (.aload_n 0, 1) := by decide +kernel
theorem dX7_nextOne_31 : decode cX7_nextOne 31 = .ok (.iload_n 2, 1) := by decide +kernel
theorem dX7_nextOne_32 : decode cX7_nextOne 32 = .ok (.iload_n 1, 1) := by decide +kernel
theorem dX7_nextOne_33 : decode cX7_nextOne 33 = .ok (.invokevirtual 152, 3) := by decide +kernel
theorem dX7_nextOne_36 : decode cX7_nextOne 36 = .ok (.ifCond .eq 7, 3) := by decide +kernel
theorem dX7_nextOne_39 : decode cX7_nextOne 39 = .ok (.iload_n 2, 1) := by decide +kernel
theorem dX7_nextOne_40 : decode cX7_nextOne 40 = .ok (.goto 4, 3) := by decide +kernel
theorem dX7_nextOne_43 : decode cX7_nextOne 43 = .ok (.iload_n 1, 1) := by decide +kernel
theorem dX7_nextOne_44 : decode cX7_nextOne 44 = .ok (.istore_n 1, 1) := by decide +kernel
theorem dX7_nextOne_45 : decode cX7_nextOne 45 = .ok (.iinc 2 1, 3) := by decide +kernel
theorem dX7_nextOne_48 : decode cX7_nextOne 48 = .ok (.goto (-43), 3) := by decide +kernel
theorem dX7_nextOne_51 : decode cX7_nextOne 51 = .ok (.iload_n 1, 1) := by decide +kernel
theorem dX7_nextOne_52 : decode cX7_nextOne 52 = .ok (.ireturn, 1) := by decide +kernel
set_option maxRecDepth 20000 in
theorem ggX7_next_X7_nextOne : GoodIn wsX7_next wsX7_nextOne := goodIn_r _ [5, 6, 7, 8, 9, 10, 4, 11, 12, 13, 14, 15, 16, 17, 18, 19, 20, 21, 22, 23, 24, 25, 26, 27, 28, 29, 30, 31, 32, 33, 34, 35, 36, 37, 38, 39, 40, 41, 42, 43, 44, 45, 46, 47, 48, 49, 50, 51, 52, 53, 54, 55, 56, 57, 58, 59, 60, 61, 62, 63, 64, 65, 66, 67, 68, 69, 70, 71, 72, 73, 74, 75, 76, 77, 78, 79, 80, 81, 82, 83, 84, 85, 86, 87, 88, 89, 90, 91, 92, 93, 94, 95, 96, 97] (by decide +kernel) (by decide +kernel)
set_option maxRecDepth 20000 in
theorem gX7_next_X7_nextOne : GoodIn wsX7_next (wsV RX7 155 RX7 yX7_nextOne wsX7_nextOne) := goodIn_app (goodIn_of _ (by decide +kernel)) ggX7_next_X7_nextOne
theorem dX7_next_0 : decode cX7_next 0 = .ok (.aload_n 0, 1) := by decide +kernel
theorem dX7_next_1 : decode cX7_next 1 = .ok (.invokevirtual 155, 3) := by decide +kernel
theorem dX7_next_4 : decode cX7_next 4 = .ok (.ireturn, 1) := by decide +kernel
set_option maxRecDepth 20000 in
theorem ggX7_pushes_X7_of : GoodIn wsX7_pushes wsX7_of := goodIn_r _ [6, 1, 23, 24, 25, 26, 27, 28, 29, 30, 31, 32, 33, 34] (by decide +kernel) (by decide +kernel)
set_option maxRecDepth 20000 in
theorem gX7_pushes_X7_of : GoodIn wsX7_pushes (wsV RX7 104 RX7 yX7_of wsX7_of) := goodIn_app (goodIn_of _ (by decide +kernel)) ggX7_pushes_X7_of
set_option maxRecDepth 20000 in
theorem ggX7_pushes_X7_kindOfDay : GoodIn wsX7_pushes wsX7_kindOfDay := goodIn_r _ [10, 1, 11, 12, 13, 5, 14, 15, 16, 17, 18, 23, 24, 25, 26, 27, 28, 29, 30, 31, 32, 33, 34] (by decide +kernel) (by decide +kernel)
set_option maxRecDepth 20000 in
theorem gX7_pushes_X7_kindOfDay : GoodIn wsX7_pushes (wsV RX7 110 RX7 yX7_kindOfDay wsX7_kindOfDay) := goodIn_app (goodIn_of _ (by decide +kernel)) ggX7_pushes_X7_kindOfDay
set_option maxRecDepth 20000 in
theorem ggX7_pushes_X7_day : GoodIn wsX7_pushes wsX7_day := goodIn_r _ [18, 1, 23, 24, 25, 26, 27, 28, 29, 30, 31, 32, 33, 34] (by decide +kernel) (by decide +kernel)
set_option maxRecDepth 20000 in
theorem gX7_pushes_X7_day : GoodIn wsX7_pushes (wsV RX7 29 RX7 yX7_day wsX7_day) := goodIn_app (goodIn_of _ (by decide +kernel)) ggX7_pushes_X7_day
set_option maxRecDepth 20000 in
theorem ggX7_pushes_X7_puts : GoodIn wsX7_pushes wsX7_puts := goodIn_r _ [22, 1, 23, 24, 25, 26, 27, 28, 29, 30, 31, 32, 33, 34] (by decide +kernel) (by decide +kernel)
set_option maxRecDepth 20000 in
theorem gX7_pushes_X7_puts : GoodIn wsX7_pushes (wsV RX7 133 RX7 yX7_puts wsX7_puts) := goodIn_app (goodIn_of _ (by decide +kernel)) ggX7_pushes_X7_puts
theorem dX7_pushes_0 : decode cX7_pushes 0 = .ok (.aload_n 0, 1) := by decide +kernel
theorem dX7_pushes_1 : decode cX7_pushes 1 = .ok (.iload_n 1, 1) := by decide +kernel
theorem dX7_pushes_2 : decode cX7_pushes 2 = .ok (.bipush 8, 2) := by decide +kernel
theorem dX7_pushes_4 : decode cX7_pushes 4 = .ok (.invokevirtual 104, 3) := by decide +kernel
theorem dX7_pushes_7 : decode cX7_pushes 7 = .ok (.aload_n 0, 1) := by decide +kernel
theorem dX7_pushes_8 : decode cX7_pushes 8 = .ok (.getfield 7, 3) := by decide +kernel
theorem dX7_pushes_11 : decode cX7_pushes 11 = .ok (.iconst 4, 1) := by decide +kernel
theorem dX7_pushes_12 : decode cX7_pushes 12 = .ok (.iaload, 1) := by decide +kernel
theorem dX7_pushes_13 : decode cX7_pushes 13 = .ok (.if_icmp .ne 76, 3) := by decide +kernel
theorem dX7_pushes_16 : decode cX7_pushes 16 = .ok (.aload_n 0, 1) := by decide +kernel
theorem dX7_pushes_17 : decode cX7_pushes 17 = .ok (.iload_n 1, 1) := by decide +kernel
theorem dX7_pushes_18 : decode cX7_pushes 18 = .ok (.bipush 13, 2) := by decide +kernel
theorem dX7_pushes_20 : decode cX7_pushes 20 = .ok (.invokevirtual 104, 3) := by decide +kernel
theorem dX7_pushes_23 : decode cX7_pushes 23 = .ok (.ifCond .ne 66, 3) := by decide +kernel
theorem dX7_pushes_26 : decode cX7_pushes 26 = .ok (.aload_n 0, 1) := by decide +kernel
theorem dX7_pushes_27 : decode cX7_pushes 27 = .ok (.invokevirtual 110, 3) := by decide +kernel
theorem dX7_pushes_30 : decode cX7_pushes 30 = .ok (.iconst 1, 1) := by decide +kernel
theorem dX7_pushes_31 : decode cX7_pushes 31 = .ok (.if_icmp .ne 7, 3) := by decide +kernel
theorem dX7_pushes_34 : decode cX7_pushes 34 = .ok (.iconst 1, 1) := by decide +kernel
theorem dX7_pushes_35 : decode cX7_pushes 35 = .ok (.goto 4, 3) := by decide +kernel
theorem dX7_pushes_38 : decode cX7_pushes 38 = .ok (.iconst 0, 1) := by decide +kernel
theorem dX7_pushes_39 : decode cX7_pushes 39 = .ok (.istore_n 2, 1) := by decide +kernel
theorem dX7_pushes_40 : decode cX7_pushes 40 = .ok (.aload_n 0, 1) := by decide +kernel
theorem dX7_pushes_41 : decode cX7_pushes 41 = .ok (.getfield 7, 3) := by decide +kernel
theorem dX7_pushes_44 : decode cX7_pushes 44 = .ok (.bipush 43, 2) := by decide +kernel
theorem dX7_pushes_46 : decode cX7_pushes 46 = .ok (.iload_n 2, 1) := by decide +kernel
theorem dX7_pushes_47 : decode cX7_pushes 47 = .ok (.ifCond .ne 13, 3) := by decide +kernel
theorem dX7_pushes_50 : decode cX7_pushes 50 = .ok (.aload_n 0, 1) := by decide +kernel
theorem dX7_pushes_51 : decode cX7_pushes 51 = .ok (.getfield 7, 3) := by decide +kernel
theorem dX7_pushes_54 : decode cX7_pushes 54 = .ok (.bipush 43, 2) := by decide +kernel
theorem dX7_pushes_56 : decode cX7_pushes 56 = .ok (.iaload, 1) := by decide +kernel
theorem dX7_pushes_57 : decode cX7_pushes 57 = .ok (.goto 23, 3) := by decide +kernel
theorem dX7_pushes_60 : decode cX7_pushes 60 = .ok (.aload_n 0, 1) := by decide +kernel
theorem dX7_pushes_61 : decode cX7_pushes 61 = .ok (.invokevirtual 29, 3) := by decide +kernel
theorem dX7_pushes_64 : decode cX7_pushes 64 = .ok (.iconst 2, 1) := by decide +kernel
theorem dX7_pushes_65 : decode cX7_pushes 65 = .ok (.irem, 1) := by decide +kernel
theorem dX7_pushes_66 : decode cX7_pushes 66 = .ok (.ifCond .ne 7, 3) := by decide +kernel
theorem dX7_pushes_69 : decode cX7_pushes 69 = .ok (.iconst 0, 1) := by decide +kernel
theorem dX7_pushes_70 : decode cX7_pushes 70 = .ok (.goto 10, 3) := by decide +kernel
theorem dX7_pushes_73 : decode cX7_pushes 73 = .ok (.aload_n 0, 1) := by decide +kernel
theorem dX7_pushes_74 : decode cX7_pushes 74 = .ok (.getfield 7, 3) := by decide +kernel
theorem dX7_pushes_77 : decode cX7_pushes 77 = .ok (.bipush 39, 2) := by decide +kernel
theorem dX7_pushes_79 : decode cX7_pushes 79 = .ok (.iaload, 1) := by decide +kernel
theorem dX7_pushes_80 : decode cX7_pushes 80 = .ok (.iastore, 1) := by decide +kernel
theorem dX7_pushes_81 : decode cX7_pushes 81 = .ok (.aload_n 0, 1) := by decide +kernel
theorem dX7_pushes_82 : decode cX7_pushes 82 = .ok (.iload_n 1, 1) := by decide +kernel
theorem dX7_pushes_83 : decode cX7_pushes 83 = .ok (.bipush 13, 2) := by decide +kernel
theorem dX7_pushes_85 : decode cX7_pushes 85 = .ok (.iconst 1, 1) := by decide +kernel
theorem dX7_pushes_86 : decode cX7_pushes 86 = .ok (.invokevirtual 133, 3) := by decide +kernel
theorem dX7_pushes_89 : decode cX7_pushes 89 = .ok (.return_, 1) := by decide +kernel
set_option maxRecDepth 20000 in
theorem ggX7_begins_X7_of : GoodIn wsX7_begins wsX7_of := goodIn_r _ [6, 1, 90, 91, 92, 93, 94, 95, 96, 97, 98, 99, 100, 101] (by decide +kernel) (by decide +kernel)
set_option maxRecDepth 20000 in
theorem gX7_begins_X7_of : GoodIn wsX7_begins (wsV RX7 104 RX7 yX7_of wsX7_of) := goodIn_app (goodIn_of _ (by decide +kernel)) ggX7_begins_X7_of
set_option maxRecDepth 20000 in
theorem ggX7_begins_X7_placeOf : GoodIn wsX7_begins wsX7_placeOf := goodIn_r _ [10, 11, 12, 13, 14, 15, 5, 16, 17, 18, 19, 20, 21, 22, 23, 1, 24, 25, 26, 27, 28, 29, 30, 31, 32, 33, 34, 35, 36, 37, 38, 39, 40, 41, 42, 43, 44, 45, 46, 47, 48, 49, 50, 51, 52, 53, 90, 91, 92, 93, 94, 95, 96, 97, 98, 99, 100, 101] (by decide +kernel) (by decide +kernel)
set_option maxRecDepth 20000 in
theorem gX7_begins_X7_placeOf : GoodIn wsX7_begins (wsV RX7 123 RX7 yX7_placeOf wsX7_placeOf) := goodIn_app (goodIn_of _ (by decide +kernel)) ggX7_begins_X7_placeOf
set_option maxRecDepth 20000 in
theorem ggX7_begins_X7_slews : GoodIn wsX7_begins wsX7_slews := goodIn_r _ [57, 1, 58, 59, 60, 5, 61, 28, 29, 30, 31, 47, 48, 49, 50, 18, 19, 17, 20, 21, 22, 23, 24, 25, 26, 27, 51, 52, 53, 62, 63, 64, 65, 66, 67, 68, 69, 90, 91, 92, 93, 94, 95, 96, 97, 98, 99, 100, 101] (by decide +kernel) (by decide +kernel)
set_option maxRecDepth 20000 in
theorem gX7_begins_X7_slews : GoodIn wsX7_begins (wsV RX7 126 RX7 yX7_slews wsX7_slews) := goodIn_app (goodIn_of _ (by decide +kernel)) ggX7_begins_X7_slews
set_option maxRecDepth 20000 in
theorem ggX7_begins_X7_puts : GoodIn wsX7_begins wsX7_puts := goodIn_r _ [73, 1, 90, 91, 92, 93, 94, 95, 96, 97, 98, 99, 100, 101] (by decide +kernel) (by decide +kernel)
set_option maxRecDepth 20000 in
theorem gX7_begins_X7_puts : GoodIn wsX7_begins (wsV RX7 133 RX7 yX7_puts wsX7_puts) := goodIn_app (goodIn_of _ (by decide +kernel)) ggX7_begins_X7_puts
set_option maxRecDepth 20000 in
theorem ggX7_begins_X7_pushes : GoodIn wsX7_begins wsX7_pushes := goodIn_r _ [77, 1, 2, 3, 4, 5, 6, 78, 79, 80, 81, 82, 83, 84, 85, 86, 87, 88, 89, 70, 71, 72, 73, 90, 91, 92, 93, 94, 95, 96, 97, 98, 99, 100, 101] (by decide +kernel) (by decide +kernel)
set_option maxRecDepth 20000 in
theorem gX7_begins_X7_pushes : GoodIn wsX7_begins (wsV RX7 158 RX7 yX7_pushes wsX7_pushes) := goodIn_app (goodIn_of _ (by decide +kernel)) ggX7_begins_X7_pushes
theorem dX7_begins_0 : decode cX7_begins 0 = .ok (.aload_n 0, 1) := by decide +kernel
theorem dX7_begins_1 : decode cX7_begins 1 = .ok (.aload_n 0, 1) := by decide +kernel
theorem dX7_begins_2 : decode cX7_begins 2 = .ok (.iload_n 1, 1) := by decide +kernel
theorem dX7_begins_3 : decode cX7_begins 3 = .ok (.iconst 0, 1) := by decide +kernel
theorem dX7_begins_4 : decode cX7_begins 4 = .ok (.invokevirtual 104, 3) := by decide +kernel
theorem dX7_begins_7 : decode cX7_begins 7 = .ok (.invokevirtual 123, 3) := by decide +kernel
theorem dX7_begins_10 : decode cX7_begins 10 = .ok (.istore_n 2, 1) := by decide +kernel
theorem dX7_begins_11 : decode cX7_begins 11 = .ok (.aload_n 0, 1) := by decide +kernel
theorem dX7_begins_12 : decode cX7_begins 12 = .ok (.iload_n 2, 1) := by decide +kernel
theorem dX7_begins_13 : decode cX7_begins 13 = .ok (.aload_n 0, 1) := by decide +kernel
theorem dX7_begins_14 : decode cX7_begins 14 = .ok (.iload_n 1, 1) := by decide +kernel
theorem dX7_begins_15 : decode cX7_begins 15 = .ok (.iconst 1, 1) := by decide +kernel
theorem dX7_begins_16 : decode cX7_begins 16 = .ok (.invokevirtual 104, 3) := by decide +kernel
theorem dX7_begins_19 : decode cX7_begins 19 = .ok (.invokevirtual 126, 3) := by decide +kernel
theorem dX7_begins_22 : decode cX7_begins 22 = .ok (.istore_n 3, 1) := by decide +kernel
theorem dX7_begins_23 : decode cX7_begins 23 = .ok (.aload_n 0, 1) := by decide +kernel
theorem dX7_begins_24 : decode cX7_begins 24 = .ok (.iload_n 1, 1) := by decide +kernel
theorem dX7_begins_25 : decode cX7_begins 25 = .ok (.bipush 6, 2) := by decide +kernel
theorem dX7_begins_27 : decode cX7_begins 27 = .ok (.iconst 1, 1) := by decide +kernel
theorem dX7_begins_28 : decode cX7_begins 28 = .ok (.invokevirtual 133, 3) := by decide +kernel
theorem dX7_begins_31 : decode cX7_begins 31 = .ok (.aload_n 0, 1) := by decide +kernel
theorem dX7_begins_32 : decode cX7_begins 32 = .ok (.iload_n 1, 1) := by decide +kernel
theorem dX7_begins_33 : decode cX7_begins 33 = .ok (.bipush 7, 2) := by decide +kernel
theorem dX7_begins_35 : decode cX7_begins 35 = .ok (.aload_n 0, 1) := by decide +kernel
theorem dX7_begins_36 : decode cX7_begins 36 = .ok (.getfield 7, 3) := by decide +kernel
theorem dX7_begins_39 : decode cX7_begins 39 = .ok (.iconst 4, 1) := by decide +kernel
theorem dX7_begins_40 : decode cX7_begins 40 = .ok (.iaload, 1) := by decide +kernel
theorem dX7_begins_41 : decode cX7_begins 41 = .ok (.invokevirtual 133, 3) := by decide +kernel
theorem dX7_begins_44 : decode cX7_begins 44 = .ok (.aload_n 0, 1) := by decide +kernel
theorem dX7_begins_45 : decode cX7_begins 45 = .ok (.iload_n 1, 1) := by decide +kernel
theorem dX7_begins_46 : decode cX7_begins 46 = .ok (.bipush 8, 2) := by decide +kernel
theorem dX7_begins_48 : decode cX7_begins 48 = .ok (.aload_n 0, 1) := by decide +kernel
theorem dX7_begins_49 : decode cX7_begins 49 = .ok (.getfield 7, 3) := by decide +kernel
theorem dX7_begins_52 : decode cX7_begins 52 = .ok (.iconst 4, 1) := by decide +kernel
theorem dX7_begins_53 : decode cX7_begins 53 = .ok (.iaload, 1) := by decide +kernel
theorem dX7_begins_54 : decode cX7_begins 54 = .ok (.iload_n 3, 1) := by decide +kernel
theorem dX7_begins_55 : decode cX7_begins 55 = .ok (.iadd, 1) := by decide +kernel
theorem dX7_begins_56 : decode cX7_begins 56 = .ok (.invokevirtual 133, 3) := by decide +kernel
theorem dX7_begins_59 : decode cX7_begins 59 = .ok (.aload_n 0, 1) := by decide +kernel
theorem dX7_begins_60 : decode cX7_begins 60 = .ok (.iload_n 1, 1) := by decide +kernel
theorem dX7_begins_61 : decode cX7_begins 61 = .ok (.bipush 9, 2) := by decide +kernel
theorem dX7_begins_63 : decode cX7_begins 63 = .ok (.aload_n 0, 1) := by decide +kernel
theorem dX7_begins_64 : decode cX7_begins 64 = .ok (.getfield 7, 3) := by decide +kernel
theorem dX7_begins_67 : decode cX7_begins 67 = .ok (.iconst 4, 1) := by decide +kernel
theorem dX7_begins_68 : decode cX7_begins 68 = .ok (.iaload, 1) := by decide +kernel
theorem dX7_begins_69 : decode cX7_begins 69 = .ok (.iload_n 3, 1) := by decide +kernel
theorem dX7_begins_70 : decode cX7_begins 70 = .ok (.iadd, 1) := by decide +kernel
theorem dX7_begins_71 : decode cX7_begins 71 = .ok (.aload_n 0, 1) := by decide +kernel
theorem dX7_begins_72 : decode cX7_begins 72 = .ok (.iload_n 1, 1) := by decide +kernel
theorem dX7_begins_73 : decode cX7_begins 73 = .ok (.iconst 4, 1) := by decide +kernel
theorem dX7_begins_74 : decode cX7_begins 74 = .ok (.invokevirtual 104, 3) := by decide +kernel
theorem dX7_begins_77 : decode cX7_begins 77 = .ok (.iadd, 1) := by decide +kernel
theorem dX7_begins_78 : decode cX7_begins 78 = .ok (.invokevirtual 133, 3) := by decide +kernel
theorem dX7_begins_81 : decode cX7_begins 81 = .ok (.aload_n 0, 1) := by decide +kernel
theorem dX7_begins_82 : decode cX7_begins 82 = .ok (.iload_n 1, 1) := by decide +kernel
theorem dX7_begins_83 : decode cX7_begins 83 = .ok (.bipush 12, 2) := by decide +kernel
theorem dX7_begins_85 : decode cX7_begins 85 = .ok (.iload_n 2, 1) := by decide +kernel
theorem dX7_begins_86 : decode cX7_begins 86 = .ok (.invokevirtual 133, 3) := by decide +kernel
theorem dX7_begins_89 : decode cX7_begins 89 = .ok (.aload_n 0, 1) := by decide +kernel
theorem dX7_begins_90 : decode cX7_begins 90 = .ok (.iload_n 1, 1) := by decide +kernel
theorem dX7_begins_91 : decode cX7_begins 91 = .ok (.bipush 13, 2) := by decide +kernel
theorem dX7_begins_93 : decode cX7_begins 93 = .ok (.iconst 0, 1) := by decide +kernel
theorem dX7_begins_94 : decode cX7_begins 94 = .ok (.invokevirtual 133, 3) := by decide +kernel
theorem dX7_begins_97 : decode cX7_begins 97 = .ok (.aload_n 0, 1) := by decide +kernel
theorem dX7_begins_98 : decode cX7_begins 98 = .ok (.iload_n 1, 1) := by decide +kernel
theorem dX7_begins_99 : decode cX7_begins 99 = .ok (.invokevirtual 158, 3) := by decide +kernel
theorem dX7_begins_102 : decode cX7_begins 102 = .ok (.return_, 1) := by decide +kernel
set_option maxRecDepth 20000 in
theorem ggX7_holds_X7_underWay : GoodIn wsX7_holds wsX7_underWay := goodIn_r _ [7, 2, 1, 8, 9, 10, 6, 11, 20, 21, 22, 23, 24, 25, 26, 27, 28, 29, 30, 31] (by decide +kernel) (by decide +kernel)
set_option maxRecDepth 20000 in
theorem gX7_holds_X7_underWay : GoodIn wsX7_holds (wsV RX7 107 RX7 yX7_underWay wsX7_underWay) := goodIn_app (goodIn_of _ (by decide +kernel)) ggX7_holds_X7_underWay
set_option maxRecDepth 20000 in
theorem ggX7_holds_X7_puts : GoodIn wsX7_holds wsX7_puts := goodIn_r _ [15, 2, 20, 21, 22, 23, 24, 25, 26, 27, 28, 29, 30, 31] (by decide +kernel) (by decide +kernel)
set_option maxRecDepth 20000 in
theorem gX7_holds_X7_puts : GoodIn wsX7_holds (wsV RX7 133 RX7 yX7_puts wsX7_puts) := goodIn_app (goodIn_of _ (by decide +kernel)) ggX7_holds_X7_puts
set_option maxRecDepth 20000 in
theorem ggX7_holds_X7_of : GoodIn wsX7_holds wsX7_of := goodIn_r _ [11, 2, 20, 21, 22, 23, 24, 25, 26, 27, 28, 29, 30, 31] (by decide +kernel) (by decide +kernel)
set_option maxRecDepth 20000 in
theorem gX7_holds_X7_of : GoodIn wsX7_holds (wsV RX7 104 RX7 yX7_of wsX7_of) := goodIn_app (goodIn_of _ (by decide +kernel)) ggX7_holds_X7_of
set_option maxRecDepth 20000 in
theorem ggX7_holds_X7_goes : GoodIn wsX7_holds wsX7_goes := goodIn_r _ [19, 2, 20, 21, 22, 23, 24, 25, 26, 27, 28, 29, 30, 31] (by decide +kernel) (by decide +kernel)
set_option maxRecDepth 20000 in
theorem gX7_holds_X7_goes : GoodIn wsX7_holds (wsV RX7 84 RX7 yX7_goes wsX7_goes) := goodIn_app (goodIn_of _ (by decide +kernel)) ggX7_holds_X7_goes
theorem dX7_holds_0 : decode cX7_holds 0 = .ok (.aload_n 0, 1) := by decide +kernel
theorem dX7_holds_1 : decode cX7_holds 1 = .ok (.invokevirtual 107, 3) := by decide +kernel
theorem dX7_holds_4 : decode cX7_holds 4 = .ok (.istore_n 1, 1) := by decide +kernel
theorem dX7_holds_5 : decode cX7_holds 5 = .ok (.iload_n 1, 1) := by decide +kernel
theorem dX7_holds_6 : decode cX7_holds 6 = .ok (.ldc 80, 2) := by decide +kernel
theorem dX7_holds_8 : decode cX7_holds 8 = .ok (.if_icmp .eq 27, 3) := by decide +kernel
theorem dX7_holds_11 : decode cX7_holds 11 = .ok (.aload_n 0, 1) := by decide +kernel
theorem dX7_holds_12 : decode cX7_holds 12 = .ok (.iload_n 1, 1) := by decide +kernel
theorem dX7_holds_13 : decode cX7_holds 13 = .ok (.bipush 6, 2) := by decide +kernel
theorem dX7_holds_15 : decode cX7_holds 15 = .ok (.iconst 0, 1) := by decide +kernel
theorem dX7_holds_16 : decode cX7_holds 16 = .ok (.invokevirtual 133, 3) := by decide +kernel
theorem dX7_holds_19 : decode cX7_holds 19 = .ok (.aload_n 0, 1) := by decide +kernel
theorem dX7_holds_20 : decode cX7_holds 20 = .ok (.iload_n 1, 1) := by decide +kernel
theorem dX7_holds_21 : decode cX7_holds 21 = .ok (.bipush 11, 2) := by decide +kernel
theorem dX7_holds_23 : decode cX7_holds 23 = .ok (.aload_n 0, 1) := by decide +kernel
theorem dX7_holds_24 : decode cX7_holds 24 = .ok (.iload_n 1, 1) := by decide +kernel
theorem dX7_holds_25 : decode cX7_holds 25 = .ok (.bipush 11, 2) := by decide +kernel
theorem dX7_holds_27 : decode cX7_holds 27 = .ok (.invokevirtual 104, 3) := by decide +kernel
theorem dX7_holds_30 : decode cX7_holds 30 = .ok (.iconst 1, 1) := by decide +kernel
theorem dX7_holds_31 : decode cX7_holds 31 = .ok (.iadd, 1) := by decide +kernel
theorem dX7_holds_32 : decode cX7_holds 32 = .ok (.invokevirtual 133, 3) := by decide +kernel
theorem dX7_holds_35 : decode cX7_holds 35 = .ok (.aload_n 0, 1) := by decide +kernel
theorem dX7_holds_36 : decode cX7_holds 36 = .ok (.iconst 1, 1) := by decide +kernel
theorem dX7_holds_37 : decode cX7_holds 37 = .ok (.sipush 9000, 3) := by decide +kernel
theorem dX7_holds_40 : decode cX7_holds 40 = .ok (.invokevirtual 84, 3) := by decide +kernel
theorem dX7_holds_43 : decode cX7_holds 43 = .ok (.aload_n 0, 1) := by decide +kernel
theorem dX7_holds_44 : decode cX7_holds 44 = .ok (.getfield 7, 3) := by decide +kernel
theorem dX7_holds_47 : decode cX7_holds 47 = .ok (.bipush 6, 2) := by decide +kernel
theorem dX7_holds_49 : decode cX7_holds 49 = .ok (.dup2, 1) := by decide +kernel
theorem dX7_holds_50 : decode cX7_holds 50 = .ok (.iaload, 1) := by decide +kernel
theorem dX7_holds_51 : decode cX7_holds 51 = .ok (.iconst 1, 1) := by decide +kernel
theorem dX7_holds_52 : decode cX7_holds 52 = .ok (.iadd, 1) := by decide +kernel
theorem dX7_holds_53 : decode cX7_holds 53 = .ok (.iastore, 1) := by decide +kernel
theorem dX7_holds_54 : decode cX7_holds 54 = .ok (.return_, 1) := by decide +kernel
set_option maxRecDepth 20000 in
theorem ggX7_minute_X7_underWay : GoodIn wsX7_minute wsX7_underWay := goodIn_r _ [7, 2, 1, 8, 9, 10, 6, 11, 110, 111, 112, 113, 114, 115, 116, 117, 118, 119, 120, 121] (by decide +kernel) (by decide +kernel)
set_option maxRecDepth 20000 in
theorem gX7_minute_X7_underWay : GoodIn wsX7_minute (wsV RX7 107 RX7 yX7_underWay wsX7_underWay) := goodIn_app (goodIn_of _ (by decide +kernel)) ggX7_minute_X7_underWay
set_option maxRecDepth 20000 in
theorem ggX7_minute_X7_pushes : GoodIn wsX7_minute wsX7_pushes := goodIn_r _ [15, 2, 8, 9, 10, 6, 11, 16, 17, 18, 19, 20, 21, 22, 23, 24, 25, 26, 27, 28, 29, 30, 31, 110, 111, 112, 113, 114, 115, 116, 117, 118, 119, 120, 121] (by decide +kernel) (by decide +kernel)
set_option maxRecDepth 20000 in
theorem gX7_minute_X7_pushes : GoodIn wsX7_minute (wsV RX7 158 RX7 yX7_pushes wsX7_pushes) := goodIn_app (goodIn_of _ (by decide +kernel)) ggX7_minute_X7_pushes
set_option maxRecDepth 20000 in
theorem ggX7_minute_X7_of : GoodIn wsX7_minute wsX7_of := goodIn_r _ [11, 2, 110, 111, 112, 113, 114, 115, 116, 117, 118, 119, 120, 121] (by decide +kernel) (by decide +kernel)
set_option maxRecDepth 20000 in
theorem gX7_minute_X7_of : GoodIn wsX7_minute (wsV RX7 104 RX7 yX7_of wsX7_of) := goodIn_app (goodIn_of _ (by decide +kernel)) ggX7_minute_X7_of
set_option maxRecDepth 20000 in
theorem ggX7_minute_X7_puts : GoodIn wsX7_minute wsX7_puts := goodIn_r _ [31, 2, 110, 111, 112, 113, 114, 115, 116, 117, 118, 119, 120, 121] (by decide +kernel) (by decide +kernel)
set_option maxRecDepth 20000 in
theorem gX7_minute_X7_puts : GoodIn wsX7_minute (wsV RX7 133 RX7 yX7_puts wsX7_puts) := goodIn_app (goodIn_of _ (by decide +kernel)) ggX7_minute_X7_puts
set_option maxRecDepth 20000 in
theorem ggX7_minute_X7_stands : GoodIn wsX7_minute wsX7_stands := goodIn_r _ [35, 36, 37, 38, 6, 39, 2, 110, 111, 112, 113, 114, 115, 116, 117, 118, 119, 120, 121] (by decide +kernel) (by decide +kernel)
set_option maxRecDepth 20000 in
theorem gX7_minute_X7_stands : GoodIn wsX7_minute (wsV RX7 40 RX7 yX7_stands wsX7_stands) := goodIn_app (goodIn_of _ (by decide +kernel)) ggX7_minute_X7_stands
set_option maxRecDepth 20000 in
theorem ggX7_minute_X7_nextOne : GoodIn wsX7_minute wsX7_nextOne := goodIn_r _ [43, 1, 2, 44, 45, 46, 6, 47, 8, 9, 10, 11, 3, 4, 5, 7, 16, 17, 18, 19, 20, 21, 22, 23, 24, 25, 26, 27, 48, 49, 50, 51, 52, 53, 54, 55, 56, 57, 58, 32, 33, 34, 35, 36, 37, 38, 39, 59, 60, 61, 62, 63, 64, 65, 66, 67, 68, 69, 70, 71, 72, 73, 74, 75, 76, 77, 78, 79, 80, 81, 82, 83, 84, 85, 86, 87, 88, 89, 90, 91, 92, 93, 110, 111, 112, 113, 114, 115, 116, 117, 118, 119, 120, 121] (by decide +kernel) (by decide +kernel)
set_option maxRecDepth 20000 in
theorem gX7_minute_X7_nextOne : GoodIn wsX7_minute (wsV RX7 155 RX7 yX7_nextOne wsX7_nextOne) := goodIn_app (goodIn_of _ (by decide +kernel)) ggX7_minute_X7_nextOne
set_option maxRecDepth 20000 in
theorem ggX7_minute_X7_begins : GoodIn wsX7_minute wsX7_begins := goodIn_r _ [97, 2, 8, 9, 10, 6, 11, 66, 67, 68, 69, 70, 1, 48, 49, 50, 51, 52, 53, 54, 55, 56, 57, 58, 32, 33, 34, 35, 36, 37, 38, 39, 59, 60, 61, 62, 63, 64, 65, 71, 72, 73, 74, 75, 76, 77, 78, 79, 80, 81, 82, 83, 84, 85, 98, 99, 100, 101, 86, 87, 88, 89, 102, 103, 104, 105, 106, 107, 108, 109, 28, 29, 30, 31, 12, 13, 14, 15, 16, 17, 18, 19, 20, 21, 22, 23, 24, 25, 26, 27, 110, 111, 112, 113, 114, 115, 116, 117, 118, 119, 120, 121] (by decide +kernel) (by decide +kernel)
set_option maxRecDepth 20000 in
theorem gX7_minute_X7_begins : GoodIn wsX7_minute (wsV RX7 162 RX7 yX7_begins wsX7_begins) := goodIn_app (goodIn_of _ (by decide +kernel)) ggX7_minute_X7_begins
theorem dX7_minute_0 : decode cX7_minute 0 = .ok (.iconst 0, 1) := by decide +kernel
theorem dX7_minute_1 : decode cX7_minute 1 = .ok (.istore_n 1, 1) := by decide +kernel
theorem dX7_minute_2 : decode cX7_minute 2 = .ok (.aload_n 0, 1) := by decide +kernel
theorem dX7_minute_3 : decode cX7_minute 3 = .ok (.invokevirtual 107, 3) := by decide +kernel
theorem dX7_minute_6 : decode cX7_minute 6 = .ok (.istore_n 2, 1) := by decide +kernel
theorem dX7_minute_7 : decode cX7_minute 7 = .ok (.iload_n 2, 1) := by decide +kernel
theorem dX7_minute_8 : decode cX7_minute 8 = .ok (.ldc 80, 2) := by decide +kernel
theorem dX7_minute_10 : decode cX7_minute 10 = .ok (.if_icmp .eq 55, 3) := by decide +kernel
theorem dX7_minute_13 : decode cX7_minute 13 = .ok (.aload_n 0, 1) := by decide +kernel
theorem dX7_minute_14 : decode cX7_minute 14 = .ok (.iload_n 2, 1) := by decide +kernel
theorem dX7_minute_15 : decode cX7_minute 15 = .ok (.invokevirtual 158, 3) := by decide +kernel
theorem dX7_minute_18 : decode cX7_minute 18 = .ok (.aload_n 0, 1) := by decide +kernel
theorem dX7_minute_19 : decode cX7_minute 19 = .ok (.iload_n 2, 1) := by decide +kernel
theorem dX7_minute_20 : decode cX7_minute 20 = .ok (.bipush 9, 2) := by decide +kernel
theorem dX7_minute_22 : decode cX7_minute 22 = .ok (.invokevirtual 104, 3) := by decide +kernel
theorem dX7_minute_25 : decode cX7_minute 25 = .ok (.aload_n 0, 1) := by decide +kernel
theorem dX7_minute_26 : decode cX7_minute 26 = .ok (.getfield 7, 3) := by decide +kernel
theorem dX7_minute_29 : decode cX7_minute 29 = .ok (.iconst 4, 1) := by decide +kernel
theorem dX7_minute_30 : decode cX7_minute 30 = .ok (.iaload, 1) := by decide +kernel
theorem dX7_minute_31 : decode cX7_minute 31 = .ok (.if_icmp .gt 34, 3) := by decide +kernel
theorem dX7_minute_34 : decode cX7_minute 34 = .ok (.aload_n 0, 1) := by decide +kernel
theorem dX7_minute_35 : decode cX7_minute 35 = .ok (.iload_n 2, 1) := by decide +kernel
theorem dX7_minute_36 : decode cX7_minute 36 = .ok (.bipush 6, 2) := by decide +kernel
theorem dX7_minute_38 : decode cX7_minute 38 = .ok (.iconst 2, 1) := by decide +kernel
theorem dX7_minute_39 : decode cX7_minute 39 = .ok (.invokevirtual 133, 3) := by decide +kernel
theorem dX7_minute_42 : decode cX7_minute 42 = .ok (.aload_n 0, 1) := by decide +kernel
theorem dX7_minute_43 : decode cX7_minute 43 = .ok (.iload_n 2, 1) := by decide +kernel
theorem dX7_minute_44 : decode cX7_minute 44 = .ok (.bipush 10, 2) := by decide +kernel
theorem dX7_minute_46 : decode cX7_minute 46 = .ok (.aload_n 0, 1) := by decide +kernel
theorem dX7_minute_47 : decode cX7_minute 47 = .ok (.iconst 0, 1) := by decide +kernel
theorem dX7_minute_48 : decode cX7_minute 48 = .ok (.invokevirtual 40, 3) := by decide +kernel
theorem dX7_minute_51 : decode cX7_minute 51 = .ok (.aload_n 0, 1) := by decide +kernel
theorem dX7_minute_52 : decode cX7_minute 52 = .ok (.iload_n 2, 1) := by decide +kernel
theorem dX7_minute_53 : decode cX7_minute 53 = .ok (.bipush 12, 2) := by decide +kernel
theorem dX7_minute_55 : decode cX7_minute 55 = .ok (.invokevirtual 104, 3) := by decide +kernel
theorem dX7_minute_58 : decode cX7_minute 58 = .ok (.isub, 1) := by decide +kernel
theorem dX7_minute_59 : decode cX7_minute 59 = .ok (.invokevirtual 133, 3) := by decide +kernel
theorem dX7_minute_62 : decode cX7_minute 62 = .ok (.iinc 1 1, 3) := by decide +kernel
theorem dX7_minute_65 : decode cX7_minute 65 = .ok (.iconst 0, 1) := by decide +kernel
theorem dX7_minute_66 : decode cX7_minute 66 = .ok (.istore_n 3, 1) := by decide +kernel
theorem dX7_minute_67 : decode cX7_minute 67 = .ok (.iload_n 3, 1) := by decide +kernel
theorem dX7_minute_68 : decode cX7_minute 68 = .ok (.aload_n 0, 1) := by decide +kernel
theorem dX7_minute_69 : decode cX7_minute 69 = .ok (.getfield 7, 3) := by decide +kernel
theorem dX7_minute_72 : decode cX7_minute 72 = .ok (.bipush 7, 2) := by decide +kernel
theorem dX7_minute_74 : decode cX7_minute 74 = .ok (.iaload, 1) := by decide +kernel
theorem dX7_minute_75 : decode cX7_minute 75 = .ok (.if_icmp .ge 42, 3) := by decide +kernel
theorem dX7_minute_78 : decode cX7_minute 78 = .ok (.aload_n 0, 1) := by decide +kernel
theorem dX7_minute_79 : decode cX7_minute 79 = .ok (.iload_n 3, 1) := by decide +kernel
theorem dX7_minute_80 : decode cX7_minute 80 = .ok (.bipush 6, 2) := by decide +kernel
theorem dX7_minute_82 : decode cX7_minute 82 = .ok (.invokevirtual 104, 3) := by decide +kernel
theorem dX7_minute_85 : decode cX7_minute 85 = .ok (.ifCond .ne 26, 3) := by decide +kernel
theorem dX7_minute_88 : decode cX7_minute 88 = .ok (.aload_n 0, 1) := by decide +kernel
theorem dX7_minute_89 : decode cX7_minute 89 = .ok (.iload_n 3, 1) := by decide +kernel
theorem dX7_minute_90 : decode cX7_minute 90 = .ok (.iconst 3, 1) := by decide +kernel
theorem dX7_minute_91 : decode cX7_minute 91 = .ok (.invokevirtual 104, 3) := by decide +kernel
theorem dX7_minute_94 : decode cX7_minute 94 = .ok (.aload_n 0, 1) := by decide +kernel
theorem dX7_minute_95 : decode cX7_minute 95 = .ok (.getfield 7, 3) := by decide +kernel
theorem dX7_minute_98 : decode cX7_minute 98 = .ok (.iconst 4, 1) := by decide +kernel
theorem dX7_minute_99 : decode cX7_minute 99 = .ok (.iaload, 1) := by decide +kernel
theorem dX7_minute_100 : decode cX7_minute 100 = .ok (.if_icmp .gt 11, 3) := by decide +kernel
theorem dX7_minute_103 : decode cX7_minute 103 = .ok (.aload_n 0, 1) := by decide +kernel
theorem dX7_minute_104 : decode cX7_minute 104 = .ok (.iload_n 3, 1) := by decide +kernel
theorem dX7_minute_105 : decode cX7_minute 105 = .ok (.bipush 6, 2) := by decide +kernel
theorem dX7_minute_107 : decode cX7_minute 107 = .ok (.iconst 3, 1) := by decide +kernel
theorem dX7_minute_108 : decode cX7_minute 108 = .ok (.invokevirtual 133, 3) := by decide +kernel
theorem dX7_minute_111 : decode cX7_minute 111 = .ok (.iinc 3 1, 3) := by decide +kernel
theorem dX7_minute_114 : decode cX7_minute 114 = .ok (.goto (-47), 3) := by decide +kernel
theorem dX7_minute_117 : decode cX7_minute 117 = .ok (.aload_n 0, 1) := by decide +kernel
theorem dX7_minute_118 : decode cX7_minute 118 = .ok (.invokevirtual 155, 3) := by decide +kernel
theorem dX7_minute_121 : decode cX7_minute 121 = .ok (.istore_n 3, 1) := by decide +kernel
theorem dX7_minute_122 : decode cX7_minute 122 = .ok (.iload_n 3, 1) := by decide +kernel
theorem dX7_minute_123 : decode cX7_minute 123 = .ok (.ldc 80, 2) := by decide +kernel
theorem dX7_minute_125 : decode cX7_minute 125 = .ok (.if_icmp .eq 8, 3) := by decide +kernel
theorem dX7_minute_128 : decode cX7_minute 128 = .ok (.aload_n 0, 1) := by decide +kernel
theorem dX7_minute_129 : decode cX7_minute 129 = .ok (.iload_n 3, 1) := by decide +kernel
theorem dX7_minute_130 : decode cX7_minute 130 = .ok (.invokevirtual 162, 3) := by decide +kernel
theorem dX7_minute_133 : decode cX7_minute 133 = .ok (.iload_n 1, 1) := by decide +kernel
theorem dX7_minute_134 : decode cX7_minute 134 = .ok (.ireturn, 1) := by decide +kernel
set_option maxRecDepth 20000 in
theorem ggX7_runs_X7_minute : GoodIn wsX7_runs wsX7_minute := goodIn_r _ [6, 7, 1, 8, 9, 10, 5, 11, 12, 13, 14, 15, 16, 17, 18, 19, 20, 21, 22, 23, 24, 25, 26, 27, 28, 29, 30, 31, 32, 33, 34, 35, 36, 37, 38, 39, 40, 41, 42, 43, 44, 45, 46, 47, 48, 49, 50, 51, 52, 53, 54, 55, 56, 57, 58, 59, 60, 61, 62, 63, 64, 65, 66, 67, 68, 69, 70, 71, 72, 73, 74, 75, 76, 77, 78, 79, 80, 81, 82, 83, 84, 85, 86, 87, 88, 89, 90, 91, 92, 93, 94, 95, 96, 97, 98, 99, 100, 101, 102, 103, 104, 105, 106, 107, 108, 109, 110, 111, 112, 113, 118, 119, 120, 121, 122, 123, 124, 125, 126, 127, 128, 129] (by decide +kernel) (by decide +kernel)
set_option maxRecDepth 20000 in
theorem gX7_runs_X7_minute : GoodIn wsX7_runs (wsV RX7 165 RX7 yX7_minute wsX7_minute) := goodIn_app (goodIn_of _ (by decide +kernel)) ggX7_runs_X7_minute
set_option maxRecDepth 20000 in
theorem ggX7_runs_X7_kindOfDay : GoodIn wsX7_runs wsX7_kindOfDay := goodIn_r _ [23, 1, 24, 25, 26, 5, 27, 28, 29, 30, 31, 118, 119, 120, 121, 122, 123, 124, 125, 126, 127, 128, 129] (by decide +kernel) (by decide +kernel)
set_option maxRecDepth 20000 in
theorem gX7_runs_X7_kindOfDay : GoodIn wsX7_runs (wsV RX7 110 RX7 yX7_kindOfDay wsX7_kindOfDay) := goodIn_app (goodIn_of _ (by decide +kernel)) ggX7_runs_X7_kindOfDay
set_option maxRecDepth 20000 in
theorem ggX7_runs_X7_holds : GoodIn wsX7_runs wsX7_holds := goodIn_r _ [117, 7, 1, 8, 9, 10, 5, 11, 12, 13, 14, 15, 32, 33, 34, 35, 110, 111, 112, 113, 118, 119, 120, 121, 122, 123, 124, 125, 126, 127, 128, 129] (by decide +kernel) (by decide +kernel)
set_option maxRecDepth 20000 in
theorem gX7_runs_X7_holds : GoodIn wsX7_runs (wsV RX7 168 RX7 yX7_holds wsX7_holds) := goodIn_app (goodIn_of _ (by decide +kernel)) ggX7_runs_X7_holds
theorem dX7_runs_0 : decode cX7_runs 0 = .ok (.aload_n 0, 1) := by decide +kernel
theorem dX7_runs_1 : decode cX7_runs 1 = .ok (.invokevirtual 165, 3) := by decide +kernel
theorem dX7_runs_4 : decode cX7_runs 4 = .ok (.istore_n 2, 1) := by decide +kernel
theorem dX7_runs_5 : decode cX7_runs 5 = .ok (.iconst 0, 1) := by decide +kernel
theorem dX7_runs_6 : decode cX7_runs 6 = .ok (.istore_n 3, 1) := by decide +kernel
theorem dX7_runs_7 : decode cX7_runs 7 = .ok (.iload_n 3, 1) := by decide +kernel
theorem dX7_runs_8 : decode cX7_runs 8 = .ok (.iload_n 1, 1) := by decide +kernel
theorem dX7_runs_9 : decode cX7_runs 9 = .ok (.if_icmp .ge 50, 3) := by decide +kernel
theorem dX7_runs_12 : decode cX7_runs 12 = .ok (.aload_n 0, 1) := by decide +kernel
theorem dX7_runs_13 : decode cX7_runs 13 = .ok (.getfield 7, 3) := by decide +kernel
theorem dX7_runs_16 : decode cX7_runs 16 = .ok (.iconst 4, 1) := by decide +kernel
theorem dX7_runs_17 : decode cX7_runs 17 = .ok (.dup2, 1) := by decide +kernel
theorem dX7_runs_18 : decode cX7_runs 18 = .ok (.iaload, 1) := by decide +kernel
theorem dX7_runs_19 : decode cX7_runs 19 = .ok (.iconst 1, 1) := by decide +kernel
theorem dX7_runs_20 : decode cX7_runs 20 = .ok (.iadd, 1) := by decide +kernel
theorem dX7_runs_21 : decode cX7_runs 21 = .ok (.iastore, 1) := by decide +kernel
theorem dX7_runs_22 : decode cX7_runs 22 = .ok (.aload_n 0, 1) := by decide +kernel
theorem dX7_runs_23 : decode cX7_runs 23 = .ok (.getfield 7, 3) := by decide +kernel
theorem dX7_runs_26 : decode cX7_runs 26 = .ok (.iconst 4, 1) := by decide +kernel
theorem dX7_runs_27 : decode cX7_runs 27 = .ok (.iaload, 1) := by decide +kernel
theorem dX7_runs_28 : decode cX7_runs 28 = .ok (.sipush 1440, 3) := by decide +kernel
theorem dX7_runs_31 : decode cX7_runs 31 = .ok (.irem, 1) := by decide +kernel
theorem dX7_runs_32 : decode cX7_runs 32 = .ok (.ifCond .ne 14, 3) := by decide +kernel
theorem dX7_runs_35 : decode cX7_runs 35 = .ok (.aload_n 0, 1) := by decide +kernel
theorem dX7_runs_36 : decode cX7_runs 36 = .ok (.invokevirtual 110, 3) := by decide +kernel
theorem dX7_runs_39 : decode cX7_runs 39 = .ok (.ifCond .ne 7, 3) := by decide +kernel
theorem dX7_runs_42 : decode cX7_runs 42 = .ok (.aload_n 0, 1) := by decide +kernel
theorem dX7_runs_43 : decode cX7_runs 43 = .ok (.invokevirtual 168, 3) := by decide +kernel
theorem dX7_runs_46 : decode cX7_runs 46 = .ok (.iload_n 2, 1) := by decide +kernel
theorem dX7_runs_47 : decode cX7_runs 47 = .ok (.aload_n 0, 1) := by decide +kernel
theorem dX7_runs_48 : decode cX7_runs 48 = .ok (.invokevirtual 165, 3) := by decide +kernel
theorem dX7_runs_51 : decode cX7_runs 51 = .ok (.iadd, 1) := by decide +kernel
theorem dX7_runs_52 : decode cX7_runs 52 = .ok (.istore_n 2, 1) := by decide +kernel
theorem dX7_runs_53 : decode cX7_runs 53 = .ok (.iinc 3 1, 3) := by decide +kernel
theorem dX7_runs_56 : decode cX7_runs 56 = .ok (.goto (-49), 3) := by decide +kernel
theorem dX7_runs_59 : decode cX7_runs 59 = .ok (.iload_n 2, 1) := by decide +kernel
theorem dX7_runs_60 : decode cX7_runs 60 = .ok (.ireturn, 1) := by decide +kernel
set_option maxRecDepth 20000 in
theorem ggX7_run_X7_in : GoodIn wsX7_run wsX7_in := goodIn_r _ [8] (by decide +kernel) (by decide +kernel)
set_option maxRecDepth 20000 in
theorem gX7_run_X7_in : GoodIn wsX7_run (va_wsS RX7 54 yX7_in wsX7_in) := goodIn_app (goodIn_of _ (by decide +kernel)) ggX7_run_X7_in
set_option maxRecDepth 20000 in
theorem ggX7_run_X7_records : GoodIn wsX7_run wsX7_records := goodIn_r _ [12, 13, 14, 2, 131, 132, 133, 134, 135, 136, 137, 138, 139, 140, 141, 142] (by decide +kernel) (by decide +kernel)
set_option maxRecDepth 20000 in
theorem gX7_run_X7_records : GoodIn wsX7_run (wsV RX7 97 RX7 yX7_records wsX7_records) := goodIn_app (goodIn_of _ (by decide +kernel)) ggX7_run_X7_records
set_option maxRecDepth 20000 in
theorem ggX7_run_X7_runs : GoodIn wsX7_run wsX7_runs := goodIn_r _ [18, 2, 19, 20, 21, 7, 22, 23, 24, 25, 26, 27, 28, 29, 30, 31, 32, 33, 34, 35, 36, 37, 38, 39, 40, 41, 42, 43, 44, 45, 46, 47, 48, 49, 50, 51, 52, 53, 54, 55, 56, 57, 58, 59, 60, 61, 62, 63, 64, 65, 66, 67, 68, 69, 70, 71, 72, 73, 74, 75, 76, 77, 78, 79, 80, 81, 82, 5, 6, 8, 83, 84, 85, 86, 87, 88, 89, 90, 91, 92, 93, 94, 95, 96, 97, 98, 99, 100, 101, 102, 103, 104, 105, 106, 107, 108, 109, 110, 111, 112, 113, 114, 115, 116, 117, 118, 119, 120, 121, 122, 123, 124, 125, 126, 127, 128, 129, 130, 131, 132, 133, 134, 135, 136, 137, 138, 139, 140, 141, 142] (by decide +kernel) (by decide +kernel)
set_option maxRecDepth 20000 in
theorem gX7_run_X7_runs : GoodIn wsX7_run (wsV RX7 171 RX7 yX7_runs wsX7_runs) := goodIn_app (goodIn_of _ (by decide +kernel)) ggX7_run_X7_runs
theorem dX7_run_0 : decode cX7_run 0 = .ok (.iload_n 1, 1) := by decide +kernel
theorem dX7_run_1 : decode cX7_run 1 = .ok (.iconst 0, 1) := by decide +kernel
theorem dX7_run_2 : decode cX7_run 2 = .ok (.sipush 2000, 3) := by decide +kernel
theorem dX7_run_5 : decode cX7_run 5 = .ok (.invokestatic 54, 3) := by decide +kernel
theorem dX7_run_8 : decode cX7_run 8 = .ok (.ifCond .ne 6, 3) := by decide +kernel
theorem dX7_run_11 : decode cX7_run 11 = .ok (.ldc 96, 2) := by decide +kernel
theorem dX7_run_13 : decode cX7_run 13 = .ok (.ireturn, 1) := by decide +kernel
theorem dX7_run_14 : decode cX7_run 14 = .ok (.aload_n 0, 1) := by decide +kernel
theorem dX7_run_15 : decode cX7_run 15 = .ok (.getfield 7, 3) := by decide +kernel
theorem dX7_run_18 : decode cX7_run 18 = .ok (.iconst 4, 1) := by decide +kernel
theorem dX7_run_19 : decode cX7_run 19 = .ok (.iaload, 1) := by decide +kernel
theorem dX7_run_20 : decode cX7_run 20 = .ok (.iload_n 1, 1) := by decide +kernel
theorem dX7_run_21 : decode cX7_run 21 = .ok (.iadd, 1) := by decide +kernel
theorem dX7_run_22 : decode cX7_run 22 = .ok (.ldc 129, 2) := by decide +kernel
theorem dX7_run_24 : decode cX7_run 24 = .ok (.if_icmp .le 6, 3) := by decide +kernel
theorem dX7_run_27 : decode cX7_run 27 = .ok (.ldc 141, 2) := by decide +kernel
theorem dX7_run_29 : decode cX7_run 29 = .ok (.ireturn, 1) := by decide +kernel
theorem dX7_run_30 : decode cX7_run 30 = .ok (.aload_n 0, 1) := by decide +kernel
theorem dX7_run_31 : decode cX7_run 31 = .ok (.invokevirtual 97, 3) := by decide +kernel
theorem dX7_run_34 : decode cX7_run 34 = .ok (.aload_n 0, 1) := by decide +kernel
theorem dX7_run_35 : decode cX7_run 35 = .ok (.iload_n 1, 1) := by decide +kernel
theorem dX7_run_36 : decode cX7_run 36 = .ok (.invokevirtual 171, 3) := by decide +kernel
theorem dX7_run_39 : decode cX7_run 39 = .ok (.ireturn, 1) := by decide +kernel
set_option maxRecDepth 20000 in
theorem ggX7_ifRun_X7_in : GoodIn wsX7_ifRun wsX7_in := goodIn_r _ [9] (by decide +kernel) (by decide +kernel)
set_option maxRecDepth 20000 in
theorem gX7_ifRun_X7_in : GoodIn wsX7_ifRun (va_wsS RX7 54 yX7_in wsX7_in) := goodIn_app (goodIn_of _ (by decide +kernel)) ggX7_ifRun_X7_in
set_option maxRecDepth 20000 in
theorem ggX7_ifRun_X7_copies : GoodIn wsX7_ifRun wsX7_copies := goodIn_r _ [13] (by decide +kernel) (by decide +kernel)
set_option maxRecDepth 20000 in
theorem gX7_ifRun_X7_copies : GoodIn wsX7_ifRun (wsV RX7 174 RX7 yX7_copies wsX7_copies) := goodIn_app (goodIn_of _ (by decide +kernel)) ggX7_ifRun_X7_copies
set_option maxRecDepth 20000 in
theorem ggX7_ifRun_X7_runs : GoodIn wsX7_ifRun wsX7_runs := goodIn_r _ [17, 2, 18, 19, 20, 8, 21, 22, 23, 24, 25, 26, 27, 28, 29, 30, 31, 32, 33, 34, 35, 36, 37, 38, 39, 40, 41, 42, 43, 44, 45, 46, 47, 48, 49, 50, 51, 52, 53, 54, 55, 56, 57, 58, 59, 60, 61, 62, 63, 64, 65, 66, 67, 68, 69, 70, 71, 72, 73, 74, 75, 76, 77, 78, 79, 80, 81, 6, 7, 9, 82, 83, 84, 85, 86, 87, 88, 89, 90, 91, 92, 93, 94, 95, 96, 97, 98, 99, 100, 101, 102, 103, 104, 105, 106, 107, 108, 109, 110, 111, 112, 113, 114, 115, 116, 117, 118, 119, 120, 121, 122, 123, 124, 125, 126, 127, 128, 129, 134, 135, 136, 137, 138, 139, 140, 141, 142, 143, 144, 145] (by decide +kernel) (by decide +kernel)
set_option maxRecDepth 20000 in
theorem gX7_ifRun_X7_runs : GoodIn wsX7_ifRun (wsV RX7 171 RX7 yX7_runs wsX7_runs) := goodIn_app (goodIn_of _ (by decide +kernel)) ggX7_ifRun_X7_runs
set_option maxRecDepth 20000 in
theorem ggX7_ifRun_X7_manyIn : GoodIn wsX7_ifRun wsX7_manyIn := goodIn_r _ [133, 2, 27, 28, 29, 8, 30, 134, 135, 136, 137, 138, 139, 140, 141, 142, 143, 144, 145] (by decide +kernel) (by decide +kernel)
set_option maxRecDepth 20000 in
theorem gX7_ifRun_X7_manyIn : GoodIn wsX7_ifRun (wsV RX7 113 RX7 yX7_manyIn wsX7_manyIn) := goodIn_app (goodIn_of _ (by decide +kernel)) ggX7_ifRun_X7_manyIn
theorem dX7_ifRun_0 : decode cX7_ifRun 0 = .ok (.iload_n 1, 1) := by decide +kernel
theorem dX7_ifRun_1 : decode cX7_ifRun 1 = .ok (.iconst 0, 1) := by decide +kernel
theorem dX7_ifRun_2 : decode cX7_ifRun 2 = .ok (.sipush 2000, 3) := by decide +kernel
theorem dX7_ifRun_5 : decode cX7_ifRun 5 = .ok (.invokestatic 54, 3) := by decide +kernel
theorem dX7_ifRun_8 : decode cX7_ifRun 8 = .ok (.ifCond .ne 6, 3) := by decide +kernel
theorem dX7_ifRun_11 : decode cX7_ifRun 11 = .ok (.ldc 96, 2) := by decide +kernel
theorem dX7_ifRun_13 : decode cX7_ifRun 13 = .ok (.ireturn, 1) := by decide +kernel
theorem dX7_ifRun_14 : decode cX7_ifRun 14 = .ok (.aload_n 0, 1) := by decide +kernel
theorem dX7_ifRun_15 : decode cX7_ifRun 15 = .ok (.getfield 7, 3) := by decide +kernel
theorem dX7_ifRun_18 : decode cX7_ifRun 18 = .ok (.iconst 4, 1) := by decide +kernel
theorem dX7_ifRun_19 : decode cX7_ifRun 19 = .ok (.iaload, 1) := by decide +kernel
theorem dX7_ifRun_20 : decode cX7_ifRun 20 = .ok (.iload_n 1, 1) := by decide +kernel
theorem dX7_ifRun_21 : decode cX7_ifRun 21 = .ok (.iadd, 1) := by decide +kernel
theorem dX7_ifRun_22 : decode cX7_ifRun 22 = .ok (.ldc 129, 2) := by decide +kernel
theorem dX7_ifRun_24 : decode cX7_ifRun 24 = .ok (.if_icmp .le 6, 3) := by decide +kernel
theorem dX7_ifRun_27 : decode cX7_ifRun 27 = .ok (.ldc 141, 2) := by decide +kernel
theorem dX7_ifRun_29 : decode cX7_ifRun 29 = .ok (.ireturn, 1) := by decide +kernel
theorem dX7_ifRun_30 : decode cX7_ifRun 30 = .ok (.aload_n 0, 1) := by decide +kernel
theorem dX7_ifRun_31 : decode cX7_ifRun 31 = .ok (.aload_n 0, 1) := by decide +kernel
theorem dX7_ifRun_32 : decode cX7_ifRun 32 = .ok (.getfield 16, 3) := by decide +kernel
theorem dX7_ifRun_35 : decode cX7_ifRun 35 = .ok (.aload_n 0, 1) := by decide +kernel
theorem dX7_ifRun_36 : decode cX7_ifRun 36 = .ok (.getfield 7, 3) := by decide +kernel
theorem dX7_ifRun_39 : decode cX7_ifRun 39 = .ok (.invokevirtual 174, 3) := by decide +kernel
theorem dX7_ifRun_42 : decode cX7_ifRun 42 = .ok (.aload_n 0, 1) := by decide +kernel
theorem dX7_ifRun_43 : decode cX7_ifRun 43 = .ok (.iload_n 1, 1) := by decide +kernel
theorem dX7_ifRun_44 : decode cX7_ifRun 44 = .ok (.invokevirtual 171, 3) := by decide +kernel
theorem dX7_ifRun_47 : decode cX7_ifRun 47 = .ok (.pop, 1) := by decide +kernel
theorem dX7_ifRun_48 : decode cX7_ifRun 48 = .ok (.aload_n 0, 1) := by decide +kernel
theorem dX7_ifRun_49 : decode cX7_ifRun 49 = .ok (.iconst 2, 1) := by decide +kernel
theorem dX7_ifRun_50 : decode cX7_ifRun 50 = .ok (.invokevirtual 113, 3) := by decide +kernel
theorem dX7_ifRun_53 : decode cX7_ifRun 53 = .ok (.istore_n 2, 1) := by decide +kernel
theorem dX7_ifRun_54 : decode cX7_ifRun 54 = .ok (.aload_n 0, 1) := by decide +kernel
theorem dX7_ifRun_55 : decode cX7_ifRun 55 = .ok (.aload_n 0, 1) := by decide +kernel
theorem dX7_ifRun_56 : decode cX7_ifRun 56 = .ok (.getfield 7, 3) := by decide +kernel
theorem dX7_ifRun_59 : decode cX7_ifRun 59 = .ok (.aload_n 0, 1) := by decide +kernel
theorem dX7_ifRun_60 : decode cX7_ifRun 60 = .ok (.getfield 16, 3) := by decide +kernel
theorem dX7_ifRun_63 : decode cX7_ifRun 63 = .ok (.invokevirtual 174, 3) := by decide +kernel
theorem dX7_ifRun_66 : decode cX7_ifRun 66 = .ok (.iload_n 2, 1) := by decide +kernel
theorem dX7_ifRun_67 : decode cX7_ifRun 67 = .ok (.ireturn, 1) := by decide +kernel
theorem dX7_undo_0 : decode cX7_undo 0 = .ok (.aload_n 0, 1) := by decide +kernel
theorem dX7_undo_1 : decode cX7_undo 1 = .ok (.getfield 25, 3) := by decide +kernel
theorem dX7_undo_4 : decode cX7_undo 4 = .ok (.ifCond .ne 6, 3) := by decide +kernel
theorem dX7_undo_7 : decode cX7_undo 7 = .ok (.ldc 103, 2) := by decide +kernel
theorem dX7_undo_9 : decode cX7_undo 9 = .ok (.ireturn, 1) := by decide +kernel
theorem dX7_undo_10 : decode cX7_undo 10 = .ok (.aload_n 0, 1) := by decide +kernel
theorem dX7_undo_11 : decode cX7_undo 11 = .ok (.dup, 1) := by decide +kernel
theorem dX7_undo_12 : decode cX7_undo 12 = .ok (.getfield 25, 3) := by decide +kernel
theorem dX7_undo_15 : decode cX7_undo 15 = .ok (.iconst 1, 1) := by decide +kernel
theorem dX7_undo_16 : decode cX7_undo 16 = .ok (.isub, 1) := by decide +kernel
theorem dX7_undo_17 : decode cX7_undo 17 = .ok (.putfield 25, 3) := by decide +kernel
theorem dX7_undo_20 : decode cX7_undo 20 = .ok (.iconst 0, 1) := by decide +kernel
theorem dX7_undo_21 : decode cX7_undo 21 = .ok (.istore_n 1, 1) := by decide +kernel
theorem dX7_undo_22 : decode cX7_undo 22 = .ok (.iload_n 1, 1) := by decide +kernel
theorem dX7_undo_23 : decode cX7_undo 23 = .ok (.sipush 193, 3) := by decide +kernel
theorem dX7_undo_26 : decode cX7_undo 26 = .ok (.if_icmp .ge 30, 3) := by decide +kernel
theorem dX7_undo_29 : decode cX7_undo 29 = .ok (.aload_n 0, 1) := by decide +kernel
theorem dX7_undo_30 : decode cX7_undo 30 = .ok (.getfield 7, 3) := by decide +kernel
theorem dX7_undo_33 : decode cX7_undo 33 = .ok (.iload_n 1, 1) := by decide +kernel
theorem dX7_undo_34 : decode cX7_undo 34 = .ok (.aload_n 0, 1) := by decide +kernel
theorem dX7_undo_35 : decode cX7_undo 35 = .ok (.getfield 13, 3) := by decide +kernel
theorem dX7_undo_38 : decode cX7_undo 38 = .ok (.sipush 193, 3) := by decide +kernel
theorem dX7_undo_41 : decode cX7_undo 41 = .ok (.aload_n 0, 1) := by decide +kernel
theorem dX7_undo_42 : decode cX7_undo 42 = .ok (.getfield 25, 3) := by decide +kernel
theorem dX7_undo_45 : decode cX7_undo 45 = .ok (.imul, 1) := by decide +kernel
theorem dX7_undo_46 : decode cX7_undo 46 = .ok (.iload_n 1, 1) := by decide +kernel
theorem dX7_undo_47 : decode cX7_undo 47 = .ok (.iadd, 1) := by decide +kernel
theorem dX7_undo_48 : decode cX7_undo 48 = .ok (.iaload, 1) := by decide +kernel
theorem dX7_undo_49 : decode cX7_undo 49 = .ok (.iastore, 1) := by decide +kernel
theorem dX7_undo_50 : decode cX7_undo 50 = .ok (.iinc 1 1, 3) := by decide +kernel
theorem dX7_undo_53 : decode cX7_undo 53 = .ok (.goto (-31), 3) := by decide +kernel
theorem dX7_undo_56 : decode cX7_undo 56 = .ok (.aload_n 0, 1) := by decide +kernel
theorem dX7_undo_57 : decode cX7_undo 57 = .ok (.getfield 25, 3) := by decide +kernel
theorem dX7_undo_60 : decode cX7_undo 60 = .ok (.ireturn, 1) := by decide +kernel
set_option maxRecDepth 20000 in
theorem ggX7_type_X7_in : GoodIn wsX7_type wsX7_in := goodIn_r _ [8] (by decide +kernel) (by decide +kernel)
set_option maxRecDepth 20000 in
theorem gX7_type_X7_in : GoodIn wsX7_type (va_wsS RX7 54 yX7_in wsX7_in) := goodIn_app (goodIn_of _ (by decide +kernel)) ggX7_type_X7_in
theorem dX7_type_0 : decode cX7_type 0 = .ok (.iload_n 1, 1) := by decide +kernel
theorem dX7_type_1 : decode cX7_type 1 = .ok (.bipush 32, 2) := by decide +kernel
theorem dX7_type_3 : decode cX7_type 3 = .ok (.bipush 126, 2) := by decide +kernel
theorem dX7_type_5 : decode cX7_type 5 = .ok (.invokestatic 54, 3) := by decide +kernel
theorem dX7_type_8 : decode cX7_type 8 = .ok (.ifCond .ne 6, 3) := by decide +kernel
theorem dX7_type_11 : decode cX7_type 11 = .ok (.ldc 96, 2) := by decide +kernel
theorem dX7_type_13 : decode cX7_type 13 = .ok (.ireturn, 1) := by decide +kernel
theorem dX7_type_14 : decode cX7_type 14 = .ok (.aload_n 0, 1) := by decide +kernel
theorem dX7_type_15 : decode cX7_type 15 = .ok (.getfield 119, 3) := by decide +kernel
theorem dX7_type_18 : decode cX7_type 18 = .ok (.bipush 100, 2) := by decide +kernel
theorem dX7_type_20 : decode cX7_type 20 = .ok (.if_icmp .ne 6, 3) := by decide +kernel
theorem dX7_type_23 : decode cX7_type 23 = .ok (.ldc 141, 2) := by decide +kernel
theorem dX7_type_25 : decode cX7_type 25 = .ok (.ireturn, 1) := by decide +kernel
theorem dX7_type_26 : decode cX7_type 26 = .ok (.aload_n 0, 1) := by decide +kernel
theorem dX7_type_27 : decode cX7_type 27 = .ok (.getfield 19, 3) := by decide +kernel
theorem dX7_type_30 : decode cX7_type 30 = .ok (.aload_n 0, 1) := by decide +kernel
theorem dX7_type_31 : decode cX7_type 31 = .ok (.getfield 119, 3) := by decide +kernel
theorem dX7_type_34 : decode cX7_type 34 = .ok (.iload_n 1, 1) := by decide +kernel
theorem dX7_type_35 : decode cX7_type 35 = .ok (.iastore, 1) := by decide +kernel
theorem dX7_type_36 : decode cX7_type 36 = .ok (.aload_n 0, 1) := by decide +kernel
theorem dX7_type_37 : decode cX7_type 37 = .ok (.dup, 1) := by decide +kernel
theorem dX7_type_38 : decode cX7_type 38 = .ok (.getfield 119, 3) := by decide +kernel
theorem dX7_type_41 : decode cX7_type 41 = .ok (.iconst 1, 1) := by decide +kernel
theorem dX7_type_42 : decode cX7_type 42 = .ok (.iadd, 1) := by decide +kernel
theorem dX7_type_43 : decode cX7_type 43 = .ok (.putfield 119, 3) := by decide +kernel
theorem dX7_type_46 : decode cX7_type 46 = .ok (.aload_n 0, 1) := by decide +kernel
theorem dX7_type_47 : decode cX7_type 47 = .ok (.getfield 119, 3) := by decide +kernel
theorem dX7_type_50 : decode cX7_type 50 = .ok (.ireturn, 1) := by decide +kernel
theorem dX7_clearText_0 : decode cX7_clearText 0 = .ok (.aload_n 0, 1) := by decide +kernel
theorem dX7_clearText_1 : decode cX7_clearText 1 = .ok (.getfield 119, 3) := by decide +kernel
theorem dX7_clearText_4 : decode cX7_clearText 4 = .ok (.istore_n 1, 1) := by decide +kernel
theorem dX7_clearText_5 : decode cX7_clearText 5 = .ok (.aload_n 0, 1) := by decide +kernel
theorem dX7_clearText_6 : decode cX7_clearText 6 = .ok (.iconst 0, 1) := by decide +kernel
theorem dX7_clearText_7 : decode cX7_clearText 7 = .ok (.putfield 119, 3) := by decide +kernel
theorem dX7_clearText_10 : decode cX7_clearText 10 = .ok (.iload_n 1, 1) := by decide +kernel
theorem dX7_clearText_11 : decode cX7_clearText 11 = .ok (.ireturn, 1) := by decide +kernel
set_option maxRecDepth 20000 in
theorem ggX7_isPart_X7_in : GoodIn wsX7_isPart wsX7_in := goodIn_r _ [8] (by decide +kernel) (by decide +kernel)
set_option maxRecDepth 20000 in
theorem gX7_isPart_X7_in : GoodIn wsX7_isPart (va_wsS RX7 54 yX7_in wsX7_in) := goodIn_app (goodIn_of _ (by decide +kernel)) ggX7_isPart_X7_in
theorem dX7_isPart_0 : decode cX7_isPart 0 = .ok (.aload_n 0, 1) := by decide +kernel
theorem dX7_isPart_1 : decode cX7_isPart 1 = .ok (.getfield 178, 3) := by decide +kernel
theorem dX7_isPart_4 : decode cX7_isPart 4 = .ok (.aload_n 0, 1) := by decide +kernel
theorem dX7_isPart_5 : decode cX7_isPart 5 = .ok (.getfield 119, 3) := by decide +kernel
theorem dX7_isPart_8 : decode cX7_isPart 8 = .ok (.if_icmp .eq 16, 3) := by decide +kernel
theorem dX7_isPart_11 : decode cX7_isPart 11 = .ok (.aload_n 0, 1) := by decide +kernel
theorem dX7_isPart_12 : decode cX7_isPart 12 = .ok (.getfield 19, 3) := by decide +kernel
theorem dX7_isPart_15 : decode cX7_isPart 15 = .ok (.aload_n 0, 1) := by decide +kernel
theorem dX7_isPart_16 : decode cX7_isPart 16 = .ok (.getfield 178, 3) := by decide +kernel
theorem dX7_isPart_19 : decode cX7_isPart 19 = .ok (.iaload, 1) := by decide +kernel
theorem dX7_isPart_20 : decode cX7_isPart 20 = .ok (.iload_n 1, 1) := by decide +kernel
theorem dX7_isPart_21 : decode cX7_isPart 21 = .ok (.if_icmp .eq 5, 3) := by decide +kernel
theorem dX7_isPart_24 : decode cX7_isPart 24 = .ok (.iconst 0, 1) := by decide +kernel
theorem dX7_isPart_25 : decode cX7_isPart 25 = .ok (.ireturn, 1) := by decide +kernel
theorem dX7_isPart_26 : decode cX7_isPart 26 = .ok (.aload_n 0, 1) := by decide +kernel
theorem dX7_isPart_27 : decode cX7_isPart 27 = .ok (.dup, 1) := by decide +kernel
theorem dX7_isPart_28 : decode cX7_isPart 28 = .ok (.getfield 178, 3) := by decide +kernel
theorem dX7_isPart_31 : decode cX7_isPart 31 = .ok (.iconst 1, 1) := by decide +kernel
theorem dX7_isPart_32 : decode cX7_isPart 32 = .ok (.iadd, 1) := by decide +kernel
theorem dX7_isPart_33 : decode cX7_isPart 33 = .ok (.putfield 178, 3) := by decide +kernel
theorem dX7_isPart_36 : decode cX7_isPart 36 = .ok (.aload_n 0, 1) := by decide +kernel
theorem dX7_isPart_37 : decode cX7_isPart 37 = .ok (.getfield 178, 3) := by decide +kernel
theorem dX7_isPart_40 : decode cX7_isPart 40 = .ok (.istore_n 3, 1) := by decide +kernel
theorem dX7_isPart_41 : decode cX7_isPart 41 = .ok (.iconst 0, 1) := by decide +kernel
theorem dX7_isPart_42 : decode cX7_isPart 42 = .ok (.istore 4, 2) := by decide +kernel
theorem dX7_isPart_44 : decode cX7_isPart 44 = .ok (.aload_n 0, 1) := by decide +kernel
theorem dX7_isPart_45 : decode cX7_isPart 45 = .ok (.getfield 178, 3) := by decide +kernel
theorem dX7_isPart_48 : decode cX7_isPart 48 = .ok (.aload_n 0, 1) := by decide +kernel
theorem dX7_isPart_49 : decode cX7_isPart 49 = .ok (.getfield 119, 3) := by decide +kernel
theorem dX7_isPart_52 : decode cX7_isPart 52 = .ok (.if_icmp .ge 65, 3) := by decide +kernel
theorem dX7_isPart_55 : decode cX7_isPart 55 = .ok (.aload_n 0, 1) := by decide +kernel
theorem dX7_isPart_56 : decode cX7_isPart 56 = .ok (.getfield 178, 3) := by decide +kernel
theorem dX7_isPart_59 : decode cX7_isPart 59 = .ok (.iload_n 3, 1) := by decide +kernel
theorem dX7_isPart_60 : decode cX7_isPart 60 = .ok (.isub, 1) := by decide +kernel
theorem dX7_isPart_61 : decode cX7_isPart 61 = .ok (.iconst 5, 1) := by decide +kernel
theorem dX7_isPart_62 : decode cX7_isPart 62 = .ok (.if_icmp .ge 55, 3) := by decide +kernel
theorem dX7_isPart_65 : decode cX7_isPart 65 = .ok (.aload_n 0, 1) := by decide +kernel
theorem dX7_isPart_66 : decode cX7_isPart 66 = .ok (.getfield 19, 3) := by decide +kernel
theorem dX7_isPart_69 : decode cX7_isPart 69 = .ok (.aload_n 0, 1) := by decide +kernel
theorem dX7_isPart_70 : decode cX7_isPart 70 = .ok (.getfield 178, 3) := by decide +kernel
theorem dX7_isPart_73 : decode cX7_isPart 73 = .ok (.iaload, 1) := by decide +kernel
theorem dX7_isPart_74 : decode cX7_isPart 74 = .ok (.bipush 48, 2) := by decide +kernel
theorem dX7_isPart_76 : decode cX7_isPart 76 = .ok (.bipush 57, 2) := by decide +kernel
theorem dX7_isPart_78 : decode cX7_isPart 78 = .ok (.invokestatic 54, 3) := by decide +kernel
theorem dX7_isPart_81 : decode cX7_isPart 81 = .ok (.ifCond .eq 36, 3) := by decide +kernel
theorem dX7_isPart_84 : decode cX7_isPart 84 = .ok (.bipush 10, 2) := by decide +kernel
theorem dX7_isPart_86 : decode cX7_isPart 86 = .ok (.iload 4, 2) := by decide +kernel
theorem dX7_isPart_88 : decode cX7_isPart 88 = .ok (.imul, 1) := by decide +kernel
theorem dX7_isPart_89 : decode cX7_isPart 89 = .ok (.aload_n 0, 1) := by decide +kernel
theorem dX7_isPart_90 : decode cX7_isPart 90 = .ok (.getfield 19, 3) := by decide +kernel
theorem dX7_isPart_93 : decode cX7_isPart 93 = .ok (.aload_n 0, 1) := by decide +kernel
theorem dX7_isPart_94 : decode cX7_isPart 94 = .ok (.getfield 178, 3) := by decide +kernel
theorem dX7_isPart_97 : decode cX7_isPart 97 = .ok (.iaload, 1) := by decide +kernel
theorem dX7_isPart_98 : decode cX7_isPart 98 = .ok (.iadd, 1) := by decide +kernel
theorem dX7_isPart_99 : decode cX7_isPart 99 = .ok (.bipush 48, 2) := by decide +kernel
theorem dX7_isPart_101 : decode cX7_isPart 101 = .ok (.isub, 1) := by decide +kernel
theorem dX7_isPart_102 : decode cX7_isPart 102 = .ok (.istore 4, 2) := by decide +kernel
theorem dX7_isPart_104 : decode cX7_isPart 104 = .ok (.aload_n 0, 1) := by decide +kernel
theorem dX7_isPart_105 : decode cX7_isPart 105 = .ok (.dup, 1) := by decide +kernel
theorem dX7_isPart_106 : decode cX7_isPart 106 = .ok (.getfield 178, 3) := by decide +kernel
theorem dX7_isPart_109 : decode cX7_isPart 109 = .ok (.iconst 1, 1) := by decide +kernel
theorem dX7_isPart_110 : decode cX7_isPart 110 = .ok (.iadd, 1) := by decide +kernel
theorem dX7_isPart_111 : decode cX7_isPart 111 = .ok (.putfield 178, 3) := by decide +kernel
theorem dX7_isPart_114 : decode cX7_isPart 114 = .ok (.goto (-70), 3) := by decide +kernel
theorem dX7_isPart_117 : decode cX7_isPart 117 = .ok (.aload_n 0, 1) := by decide +kernel
theorem dX7_isPart_118 : decode cX7_isPart 118 = .ok (.getfield 22, 3) := by decide +kernel
theorem dX7_isPart_121 : decode cX7_isPart 121 = .ok (.iload_n 2, 1) := by decide +kernel
theorem dX7_isPart_122 : decode cX7_isPart 122 = .ok (.iload 4, 2) := by decide +kernel
theorem dX7_isPart_124 : decode cX7_isPart 124 = .ok (.iastore, 1) := by decide +kernel
theorem dX7_isPart_125 : decode cX7_isPart 125 = .ok (.aload_n 0, 1) := by decide +kernel
theorem dX7_isPart_126 : decode cX7_isPart 126 = .ok (.getfield 178, 3) := by decide +kernel
theorem dX7_isPart_129 : decode cX7_isPart 129 = .ok (.iload_n 3, 1) := by decide +kernel
theorem dX7_isPart_130 : decode cX7_isPart 130 = .ok (.if_icmp .le 7, 3) := by decide +kernel
theorem dX7_isPart_133 : decode cX7_isPart 133 = .ok (.iconst 1, 1) := by decide +kernel
theorem dX7_isPart_134 : decode cX7_isPart 134 = .ok (.goto 4, 3) := by decide +kernel
theorem dX7_isPart_137 : decode cX7_isPart 137 = .ok (.iconst 0, 1) := by decide +kernel
theorem dX7_isPart_138 : decode cX7_isPart 138 = .ok (.ireturn, 1) := by decide +kernel
set_option maxRecDepth 20000 in
theorem ggX7_reason_X7_isPart : GoodIn wsX7_reason wsX7_isPart := goodIn_r _ [9, 1, 2, 3, 4, 10, 11, 8, 12, 21, 22, 23, 24, 25, 26, 27, 28, 29, 30, 31, 32] (by decide +kernel) (by decide +kernel)
set_option maxRecDepth 20000 in
theorem gX7_reason_X7_isPart : GoodIn wsX7_reason (wsV RX7 181 RX7 yX7_isPart wsX7_isPart) := goodIn_app (goodIn_of _ (by decide +kernel)) ggX7_reason_X7_isPart
set_option maxRecDepth 20000 in
theorem ggX7_reason_X7_isGood : GoodIn wsX7_reason wsX7_isGood := goodIn_r _ [15, 16, 10, 11, 8, 12, 17, 18, 19, 20] (by decide +kernel) (by decide +kernel)
set_option maxRecDepth 20000 in
theorem gX7_reason_X7_isGood : GoodIn wsX7_reason (va_wsS RX7 137 yX7_isGood wsX7_isGood) := goodIn_app (goodIn_of _ (by decide +kernel)) ggX7_reason_X7_isGood
theorem dX7_reason_0 : decode cX7_reason 0 = .ok (.aload_n 0, 1) := by decide +kernel
theorem dX7_reason_1 : decode cX7_reason 1 = .ok (.bipush 97, 2) := by decide +kernel
theorem dX7_reason_3 : decode cX7_reason 3 = .ok (.iconst 0, 1) := by decide +kernel
theorem dX7_reason_4 : decode cX7_reason 4 = .ok (.invokevirtual 181, 3) := by decide +kernel
theorem dX7_reason_7 : decode cX7_reason 7 = .ok (.ifCond .eq 47, 3) := by decide +kernel
theorem dX7_reason_10 : decode cX7_reason 10 = .ok (.aload_n 0, 1) := by decide +kernel
theorem dX7_reason_11 : decode cX7_reason 11 = .ok (.bipush 101, 2) := by decide +kernel
theorem dX7_reason_13 : decode cX7_reason 13 = .ok (.iconst 1, 1) := by decide +kernel
theorem dX7_reason_14 : decode cX7_reason 14 = .ok (.invokevirtual 181, 3) := by decide +kernel
theorem dX7_reason_17 : decode cX7_reason 17 = .ok (.ifCond .eq 37, 3) := by decide +kernel
theorem dX7_reason_20 : decode cX7_reason 20 = .ok (.aload_n 0, 1) := by decide +kernel
theorem dX7_reason_21 : decode cX7_reason 21 = .ok (.bipush 102, 2) := by decide +kernel
theorem dX7_reason_23 : decode cX7_reason 23 = .ok (.iconst 2, 1) := by decide +kernel
theorem dX7_reason_24 : decode cX7_reason 24 = .ok (.invokevirtual 181, 3) := by decide +kernel
theorem dX7_reason_27 : decode cX7_reason 27 = .ok (.ifCond .eq 27, 3) := by decide +kernel
theorem dX7_reason_30 : decode cX7_reason 30 = .ok (.aload_n 0, 1) := by decide +kernel
theorem dX7_reason_31 : decode cX7_reason 31 = .ok (.bipush 116, 2) := by decide +kernel
theorem dX7_reason_33 : decode cX7_reason 33 = .ok (.iconst 3, 1) := by decide +kernel
theorem dX7_reason_34 : decode cX7_reason 34 = .ok (.invokevirtual 181, 3) := by decide +kernel
theorem dX7_reason_37 : decode cX7_reason 37 = .ok (.ifCond .eq 17, 3) := by decide +kernel
theorem dX7_reason_40 : decode cX7_reason 40 = .ok (.aload_n 0, 1) := by decide +kernel
theorem dX7_reason_41 : decode cX7_reason 41 = .ok (.bipush 100, 2) := by decide +kernel
theorem dX7_reason_43 : decode cX7_reason 43 = .ok (.iconst 4, 1) := by decide +kernel
theorem dX7_reason_44 : decode cX7_reason 44 = .ok (.invokevirtual 181, 3) := by decide +kernel
theorem dX7_reason_47 : decode cX7_reason 47 = .ok (.ifCond .eq 7, 3) := by decide +kernel
theorem dX7_reason_50 : decode cX7_reason 50 = .ok (.iconst 1, 1) := by decide +kernel
theorem dX7_reason_51 : decode cX7_reason 51 = .ok (.goto 4, 3) := by decide +kernel
theorem dX7_reason_54 : decode cX7_reason 54 = .ok (.iconst 0, 1) := by decide +kernel
theorem dX7_reason_55 : decode cX7_reason 55 = .ok (.istore_n 2, 1) := by decide +kernel
theorem dX7_reason_56 : decode cX7_reason 56 = .ok (.iload_n 2, 1) := by decide +kernel
theorem dX7_reason_57 : decode cX7_reason 57 = .ok (.ifCond .eq 32, 3) := by decide +kernel
theorem dX7_reason_60 : decode cX7_reason 60 = .ok (.aload_n 0, 1) := by decide +kernel
theorem dX7_reason_61 : decode cX7_reason 61 = .ok (.getfield 178, 3) := by decide +kernel
theorem dX7_reason_64 : decode cX7_reason 64 = .ok (.aload_n 0, 1) := by decide +kernel
theorem dX7_reason_65 : decode cX7_reason 65 = .ok (.getfield 119, 3) := by decide +kernel
theorem dX7_reason_68 : decode cX7_reason 68 = .ok (.if_icmp .ge 21, 3) := by decide +kernel
theorem dX7_reason_71 : decode cX7_reason 71 = .ok (.aload_n 0, 1) := by decide +kernel
theorem dX7_reason_72 : decode cX7_reason 72 = .ok (.getfield 19, 3) := by decide +kernel
theorem dX7_reason_75 : decode cX7_reason 75 = .ok (.aload_n 0, 1) := by decide +kernel
theorem dX7_reason_76 : decode cX7_reason 76 = .ok (.getfield 178, 3) := by decide +kernel
theorem dX7_reason_79 : decode cX7_reason 79 = .ok (.iaload, 1) := by decide +kernel
theorem dX7_reason_80 : decode cX7_reason 80 = .ok (.bipush 112, 2) := by decide +kernel
theorem dX7_reason_82 : decode cX7_reason 82 = .ok (.if_icmp .ne 7, 3) := by decide +kernel
theorem dX7_reason_85 : decode cX7_reason 85 = .ok (.iconst 1, 1) := by decide +kernel
theorem dX7_reason_86 : decode cX7_reason 86 = .ok (.goto 4, 3) := by decide +kernel
theorem dX7_reason_89 : decode cX7_reason 89 = .ok (.iconst 0, 1) := by decide +kernel
theorem dX7_reason_90 : decode cX7_reason 90 = .ok (.istore_n 3, 1) := by decide +kernel
theorem dX7_reason_91 : decode cX7_reason 91 = .ok (.aload_n 0, 1) := by decide +kernel
theorem dX7_reason_92 : decode cX7_reason 92 = .ok (.getfield 22, 3) := by decide +kernel
theorem dX7_reason_95 : decode cX7_reason 95 = .ok (.iconst 5, 1) := by decide +kernel
theorem dX7_reason_96 : decode cX7_reason 96 = .ok (.iconst 0, 1) := by decide +kernel
theorem dX7_reason_97 : decode cX7_reason 97 = .ok (.iastore, 1) := by decide +kernel
theorem dX7_reason_98 : decode cX7_reason 98 = .ok (.iload_n 2, 1) := by decide +kernel
theorem dX7_reason_99 : decode cX7_reason 99 = .ok (.ifCond .eq 46, 3) := by decide +kernel
theorem dX7_reason_102 : decode cX7_reason 102 = .ok (.iload_n 3, 1) := by decide +kernel
theorem dX7_reason_103 : decode cX7_reason 103 = .ok (.ifCond .eq 13, 3) := by decide +kernel
theorem dX7_reason_106 : decode cX7_reason 106 = .ok (.aload_n 0, 1) := by decide +kernel
theorem dX7_reason_107 : decode cX7_reason 107 = .ok (.bipush 112, 2) := by decide +kernel
theorem dX7_reason_109 : decode cX7_reason 109 = .ok (.iconst 5, 1) := by decide +kernel
theorem dX7_reason_110 : decode cX7_reason 110 = .ok (.invokevirtual 181, 3) := by decide +kernel
theorem dX7_reason_113 : decode cX7_reason 113 = .ok (.ifCond .eq 32, 3) := by decide +kernel
theorem dX7_reason_116 : decode cX7_reason 116 = .ok (.aload_n 0, 1) := by decide +kernel
theorem dX7_reason_117 : decode cX7_reason 117 = .ok (.getfield 178, 3) := by decide +kernel
theorem dX7_reason_120 : decode cX7_reason 120 = .ok (.aload_n 0, 1) := by decide +kernel
theorem dX7_reason_121 : decode cX7_reason 121 = .ok (.getfield 119, 3) := by decide +kernel
theorem dX7_reason_124 : decode cX7_reason 124 = .ok (.if_icmp .ge 21, 3) := by decide +kernel
theorem dX7_reason_127 : decode cX7_reason 127 = .ok (.aload_n 0, 1) := by decide +kernel
theorem dX7_reason_128 : decode cX7_reason 128 = .ok (.getfield 19, 3) := by decide +kernel
theorem dX7_reason_131 : decode cX7_reason 131 = .ok (.aload_n 0, 1) := by decide +kernel
theorem dX7_reason_132 : decode cX7_reason 132 = .ok (.getfield 178, 3) := by decide +kernel
theorem dX7_reason_135 : decode cX7_reason 135 = .ok (.iaload, 1) := by decide +kernel
theorem dX7_reason_136 : decode cX7_reason 136 = .ok (.bipush 59, 2) := by decide +kernel
theorem dX7_reason_138 : decode cX7_reason 138 = .ok (.if_icmp .ne 7, 3) := by decide +kernel
theorem dX7_reason_141 : decode cX7_reason 141 = .ok (.iconst 1, 1) := by decide +kernel
theorem dX7_reason_142 : decode cX7_reason 142 = .ok (.goto 4, 3) := by decide +kernel
theorem dX7_reason_145 : decode cX7_reason 145 = .ok (.iconst 0, 1) := by decide +kernel
theorem dX7_reason_146 : decode cX7_reason 146 = .ok (.istore_n 2, 1) := by decide +kernel
theorem dX7_reason_147 : decode cX7_reason 147 = .ok (.iload_n 2, 1) := by decide +kernel
theorem dX7_reason_148 : decode cX7_reason 148 = .ok (.ifCond .ne 5, 3) := by decide +kernel
theorem dX7_reason_151 : decode cX7_reason 151 = .ok (.iconst 1, 1) := by decide +kernel
theorem dX7_reason_152 : decode cX7_reason 152 = .ok (.ireturn, 1) := by decide +kernel
theorem dX7_reason_153 : decode cX7_reason 153 = .ok (.aload_n 0, 1) := by decide +kernel
theorem dX7_reason_154 : decode cX7_reason 154 = .ok (.dup, 1) := by decide +kernel
theorem dX7_reason_155 : decode cX7_reason 155 = .ok (.getfield 178, 3) := by decide +kernel
theorem dX7_reason_158 : decode cX7_reason 158 = .ok (.iconst 1, 1) := by decide +kernel
theorem dX7_reason_159 : decode cX7_reason 159 = .ok (.iadd, 1) := by decide +kernel
theorem dX7_reason_160 : decode cX7_reason 160 = .ok (.putfield 178, 3) := by decide +kernel
theorem dX7_reason_163 : decode cX7_reason 163 = .ok (.aload_n 0, 1) := by decide +kernel
theorem dX7_reason_164 : decode cX7_reason 164 = .ok (.getfield 22, 3) := by decide +kernel
theorem dX7_reason_167 : decode cX7_reason 167 = .ok (.iconst 0, 1) := by decide +kernel
theorem dX7_reason_168 : decode cX7_reason 168 = .ok (.iaload, 1) := by decide +kernel
theorem dX7_reason_169 : decode cX7_reason 169 = .ok (.aload_n 0, 1) := by decide +kernel
theorem dX7_reason_170 : decode cX7_reason 170 = .ok (.getfield 22, 3) := by decide +kernel
theorem dX7_reason_173 : decode cX7_reason 173 = .ok (.iconst 1, 1) := by decide +kernel
theorem dX7_reason_174 : decode cX7_reason 174 = .ok (.iaload, 1) := by decide +kernel
theorem dX7_reason_175 : decode cX7_reason 175 = .ok (.aload_n 0, 1) := by decide +kernel
theorem dX7_reason_176 : decode cX7_reason 176 = .ok (.getfield 22, 3) := by decide +kernel
theorem dX7_reason_179 : decode cX7_reason 179 = .ok (.iconst 2, 1) := by decide +kernel
theorem dX7_reason_180 : decode cX7_reason 180 = .ok (.iaload, 1) := by decide +kernel
theorem dX7_reason_181 : decode cX7_reason 181 = .ok (.aload_n 0, 1) := by decide +kernel
theorem dX7_reason_182 : decode cX7_reason 182 = .ok (.getfield 22, 3) := by decide +kernel
theorem dX7_reason_185 : decode cX7_reason 185 = .ok (.iconst 3, 1) := by decide +kernel
theorem dX7_reason_186 : decode cX7_reason 186 = .ok (.iaload, 1) := by decide +kernel
theorem dX7_reason_187 : decode cX7_reason 187 = .ok (.aload_n 0, 1) := by decide +kernel
theorem dX7_reason_188 : decode cX7_reason 188 = .ok (.getfield 22, 3) := by decide +kernel
theorem dX7_reason_191 : decode cX7_reason 191 = .ok (.iconst 4, 1) := by decide +kernel
theorem dX7_reason_192 : decode cX7_reason 192 = .ok (.iaload, 1) := by decide +kernel
theorem dX7_reason_193 : decode cX7_reason 193 = .ok (.aload_n 0, 1) := by decide +kernel
theorem dX7_reason_194 : decode cX7_reason 194 = .ok (.getfield 22, 3) := by decide +kernel
theorem dX7_reason_197 : decode cX7_reason 197 = .ok (.iconst 5, 1) := by decide +kernel
theorem dX7_reason_198 : decode cX7_reason 198 = .ok (.iaload, 1) := by decide +kernel
theorem dX7_reason_199 : decode cX7_reason 199 = .ok (.invokestatic 137, 3) := by decide +kernel
theorem dX7_reason_202 : decode cX7_reason 202 = .ok (.ifCond .ne 5, 3) := by decide +kernel
theorem dX7_reason_205 : decode cX7_reason 205 = .ok (.iconst 2, 1) := by decide +kernel
theorem dX7_reason_206 : decode cX7_reason 206 = .ok (.ireturn, 1) := by decide +kernel
theorem dX7_reason_207 : decode cX7_reason 207 = .ok (.iload_n 1, 1) := by decide +kernel
theorem dX7_reason_208 : decode cX7_reason 208 = .ok (.ifCond .ne 7, 3) := by decide +kernel
theorem dX7_reason_211 : decode cX7_reason 211 = .ok (.iconst 3, 1) := by decide +kernel
theorem dX7_reason_212 : decode cX7_reason 212 = .ok (.goto 4, 3) := by decide +kernel
theorem dX7_reason_215 : decode cX7_reason 215 = .ok (.iconst 0, 1) := by decide +kernel
theorem dX7_reason_216 : decode cX7_reason 216 = .ok (.ireturn, 1) := by decide +kernel
set_option maxRecDepth 20000 in
theorem ggX7_faultAt_X7_reason : GoodIn wsX7_faultAt wsX7_reason := goodIn_r _ [10, 2, 3, 11, 12, 13, 14, 15, 9, 16, 17, 18, 19, 20, 21, 22, 23, 24, 25, 26, 27, 28, 29, 30, 31, 32, 33, 34, 35, 36, 37, 38, 39] (by decide +kernel) (by decide +kernel)
set_option maxRecDepth 20000 in
theorem gX7_faultAt_X7_reason : GoodIn wsX7_faultAt (wsV RX7 184 RX7 yX7_reason wsX7_reason) := goodIn_app (goodIn_of _ (by decide +kernel)) ggX7_faultAt_X7_reason
theorem dX7_faultAt_0 : decode cX7_faultAt 0 = .ok (.bipush 10, 2) := by decide +kernel
theorem dX7_faultAt_2 : decode cX7_faultAt 2 = .ok (.aload_n 0, 1) := by decide +kernel
theorem dX7_faultAt_3 : decode cX7_faultAt 3 = .ok (.getfield 7, 3) := by decide +kernel
theorem dX7_faultAt_6 : decode cX7_faultAt 6 = .ok (.bipush 7, 2) := by decide +kernel
theorem dX7_faultAt_8 : decode cX7_faultAt 8 = .ok (.iaload, 1) := by decide +kernel
theorem dX7_faultAt_9 : decode cX7_faultAt 9 = .ok (.isub, 1) := by decide +kernel
theorem dX7_faultAt_10 : decode cX7_faultAt 10 = .ok (.istore_n 1, 1) := by decide +kernel
theorem dX7_faultAt_11 : decode cX7_faultAt 11 = .ok (.aload_n 0, 1) := by decide +kernel
theorem dX7_faultAt_12 : decode cX7_faultAt 12 = .ok (.iconst 0, 1) := by decide +kernel
theorem dX7_faultAt_13 : decode cX7_faultAt 13 = .ok (.putfield 178, 3) := by decide +kernel
theorem dX7_faultAt_16 : decode cX7_faultAt 16 = .ok (.aload_n 0, 1) := by decide +kernel
theorem dX7_faultAt_17 : decode cX7_faultAt 17 = .ok (.getfield 178, 3) := by decide +kernel
theorem dX7_faultAt_20 : decode cX7_faultAt 20 = .ok (.aload_n 0, 1) := by decide +kernel
theorem dX7_faultAt_21 : decode cX7_faultAt 21 = .ok (.getfield 119, 3) := by decide +kernel
theorem dX7_faultAt_24 : decode cX7_faultAt 24 = .ok (.if_icmp .ge 32, 3) := by decide +kernel
theorem dX7_faultAt_27 : decode cX7_faultAt 27 = .ok (.aload_n 0, 1) := by decide +kernel
theorem dX7_faultAt_28 : decode cX7_faultAt 28 = .ok (.getfield 178, 3) := by decide +kernel
theorem dX7_faultAt_31 : decode cX7_faultAt 31 = .ok (.istore_n 2, 1) := by decide +kernel
theorem dX7_faultAt_32 : decode cX7_faultAt 32 = .ok (.aload_n 0, 1) := by decide +kernel
theorem dX7_faultAt_33 : decode cX7_faultAt 33 = .ok (.aload_n 0, 1) := by decide +kernel
theorem dX7_faultAt_34 : decode cX7_faultAt 34 = .ok (.iload_n 1, 1) := by decide +kernel
theorem dX7_faultAt_35 : decode cX7_faultAt 35 = .ok (.invokevirtual 184, 3) := by decide +kernel
theorem dX7_faultAt_38 : decode cX7_faultAt 38 = .ok (.putfield 187, 3) := by decide +kernel
theorem dX7_faultAt_41 : decode cX7_faultAt 41 = .ok (.aload_n 0, 1) := by decide +kernel
theorem dX7_faultAt_42 : decode cX7_faultAt 42 = .ok (.getfield 187, 3) := by decide +kernel
theorem dX7_faultAt_45 : decode cX7_faultAt 45 = .ok (.ifCond .le 5, 3) := by decide +kernel
theorem dX7_faultAt_48 : decode cX7_faultAt 48 = .ok (.iload_n 2, 1) := by decide +kernel
theorem dX7_faultAt_49 : decode cX7_faultAt 49 = .ok (.ireturn, 1) := by decide +kernel
theorem dX7_faultAt_50 : decode cX7_faultAt 50 = .ok (.iinc 1 (-1), 3) := by decide +kernel
theorem dX7_faultAt_53 : decode cX7_faultAt 53 = .ok (.goto (-37), 3) := by decide +kernel
theorem dX7_faultAt_56 : decode cX7_faultAt 56 = .ok (.ldc 80, 2) := by decide +kernel
theorem dX7_faultAt_58 : decode cX7_faultAt 58 = .ok (.ireturn, 1) := by decide +kernel
set_option maxRecDepth 20000 in
theorem ggX7_fault_X7_in : GoodIn wsX7_fault wsX7_in := goodIn_r _ [7] (by decide +kernel) (by decide +kernel)
set_option maxRecDepth 20000 in
theorem gX7_fault_X7_in : GoodIn wsX7_fault (va_wsS RX7 54 yX7_in wsX7_in) := goodIn_app (goodIn_of _ (by decide +kernel)) ggX7_fault_X7_in
set_option maxRecDepth 20000 in
theorem ggX7_fault_X7_faultAt : GoodIn wsX7_fault wsX7_faultAt := goodIn_r _ [11, 12, 13, 14, 3, 2, 15, 16, 17, 6, 18, 19, 20, 21, 22, 23, 24, 4, 5, 7, 25, 26, 27, 28, 29, 30, 31, 32, 33, 34, 35, 36, 37, 38, 39, 40, 41, 42, 43, 44] (by decide +kernel) (by decide +kernel)
set_option maxRecDepth 20000 in
theorem gX7_fault_X7_faultAt : GoodIn wsX7_fault (wsV RX7 190 RX7 yX7_faultAt wsX7_faultAt) := goodIn_app (goodIn_of _ (by decide +kernel)) ggX7_fault_X7_faultAt
theorem dX7_fault_0 : decode cX7_fault 0 = .ok (.iload_n 1, 1) := by decide +kernel
theorem dX7_fault_1 : decode cX7_fault 1 = .ok (.iconst 0, 1) := by decide +kernel
theorem dX7_fault_2 : decode cX7_fault 2 = .ok (.iconst 1, 1) := by decide +kernel
theorem dX7_fault_3 : decode cX7_fault 3 = .ok (.invokestatic 54, 3) := by decide +kernel
theorem dX7_fault_6 : decode cX7_fault 6 = .ok (.ifCond .ne 6, 3) := by decide +kernel
theorem dX7_fault_9 : decode cX7_fault 9 = .ok (.ldc 96, 2) := by decide +kernel
theorem dX7_fault_11 : decode cX7_fault 11 = .ok (.ireturn, 1) := by decide +kernel
theorem dX7_fault_12 : decode cX7_fault 12 = .ok (.aload_n 0, 1) := by decide +kernel
theorem dX7_fault_13 : decode cX7_fault 13 = .ok (.invokevirtual 190, 3) := by decide +kernel
theorem dX7_fault_16 : decode cX7_fault 16 = .ok (.istore_n 2, 1) := by decide +kernel
theorem dX7_fault_17 : decode cX7_fault 17 = .ok (.iload_n 2, 1) := by decide +kernel
theorem dX7_fault_18 : decode cX7_fault 18 = .ok (.ldc 80, 2) := by decide +kernel
theorem dX7_fault_20 : decode cX7_fault 20 = .ok (.if_icmp .eq 7, 3) := by decide +kernel
theorem dX7_fault_23 : decode cX7_fault 23 = .ok (.iload_n 1, 1) := by decide +kernel
theorem dX7_fault_24 : decode cX7_fault 24 = .ok (.ifCond .ne 7, 3) := by decide +kernel
theorem dX7_fault_27 : decode cX7_fault 27 = .ok (.iload_n 2, 1) := by decide +kernel
theorem dX7_fault_28 : decode cX7_fault 28 = .ok (.goto 7, 3) := by decide +kernel
theorem dX7_fault_31 : decode cX7_fault 31 = .ok (.aload_n 0, 1) := by decide +kernel
theorem dX7_fault_32 : decode cX7_fault 32 = .ok (.getfield 187, 3) := by decide +kernel
theorem dX7_fault_35 : decode cX7_fault 35 = .ok (.ireturn, 1) := by decide +kernel
set_option maxRecDepth 20000 in
theorem ggX7_enter_X7_faultAt : GoodIn wsX7_enter wsX7_faultAt := goodIn_r _ [10, 11, 3, 4, 12, 1, 13, 14, 15, 9, 16, 17, 5, 18, 19, 20, 21, 22, 23, 24, 25, 26, 27, 28, 29, 30, 31, 32, 47, 48, 49, 50, 51, 52, 53, 54, 55, 56, 57, 58] (by decide +kernel) (by decide +kernel)
set_option maxRecDepth 20000 in
theorem gX7_enter_X7_faultAt : GoodIn wsX7_enter (wsV RX7 190 RX7 yX7_faultAt wsX7_faultAt) := goodIn_app (goodIn_of _ (by decide +kernel)) ggX7_enter_X7_faultAt
set_option maxRecDepth 20000 in
theorem ggX7_enter_X7_records : GoodIn wsX7_enter wsX7_records := goodIn_r _ [36, 37, 38, 11, 47, 48, 49, 50, 51, 52, 53, 54, 55, 56, 57, 58] (by decide +kernel) (by decide +kernel)
set_option maxRecDepth 20000 in
theorem gX7_enter_X7_records : GoodIn wsX7_enter (wsV RX7 97 RX7 yX7_records wsX7_records) := goodIn_app (goodIn_of _ (by decide +kernel)) ggX7_enter_X7_records
set_option maxRecDepth 20000 in
theorem ggX7_enter_X7_reason : GoodIn wsX7_enter wsX7_reason := goodIn_r _ [16, 3, 4, 17, 5, 18, 19, 20, 9, 21, 22, 23, 24, 25, 26, 27, 28, 29, 30, 31, 32, 47, 48, 49, 50, 51, 52, 53, 54, 55, 56, 57, 58] (by decide +kernel) (by decide +kernel)
set_option maxRecDepth 20000 in
theorem gX7_enter_X7_reason : GoodIn wsX7_enter (wsV RX7 184 RX7 yX7_reason wsX7_reason) := goodIn_app (goodIn_of _ (by decide +kernel)) ggX7_enter_X7_reason
set_option maxRecDepth 20000 in
theorem ggX7_enter_X7_adds : GoodIn wsX7_enter wsX7_adds := goodIn_r _ [42, 11, 43, 44, 45, 9, 46, 47, 48, 49, 50, 51, 52, 53, 54, 55, 56, 57, 58] (by decide +kernel) (by decide +kernel)
set_option maxRecDepth 20000 in
theorem gX7_enter_X7_adds : GoodIn wsX7_enter (wsV RX7 142 RX7 yX7_adds wsX7_adds) := goodIn_app (goodIn_of _ (by decide +kernel)) ggX7_enter_X7_adds
theorem dX7_enter_0 : decode cX7_enter 0 = .ok (.aload_n 0, 1) := by decide +kernel
theorem dX7_enter_1 : decode cX7_enter 1 = .ok (.invokevirtual 190, 3) := by decide +kernel
theorem dX7_enter_4 : decode cX7_enter 4 = .ok (.ldc 80, 2) := by decide +kernel
theorem dX7_enter_6 : decode cX7_enter 6 = .ok (.if_icmp .eq 6, 3) := by decide +kernel
theorem dX7_enter_9 : decode cX7_enter 9 = .ok (.ldc 103, 2) := by decide +kernel
theorem dX7_enter_11 : decode cX7_enter 11 = .ok (.ireturn, 1) := by decide +kernel
theorem dX7_enter_12 : decode cX7_enter 12 = .ok (.aload_n 0, 1) := by decide +kernel
theorem dX7_enter_13 : decode cX7_enter 13 = .ok (.invokevirtual 97, 3) := by decide +kernel
theorem dX7_enter_16 : decode cX7_enter 16 = .ok (.aload_n 0, 1) := by decide +kernel
theorem dX7_enter_17 : decode cX7_enter 17 = .ok (.iconst 0, 1) := by decide +kernel
theorem dX7_enter_18 : decode cX7_enter 18 = .ok (.putfield 178, 3) := by decide +kernel
theorem dX7_enter_21 : decode cX7_enter 21 = .ok (.iconst 0, 1) := by decide +kernel
theorem dX7_enter_22 : decode cX7_enter 22 = .ok (.istore_n 1, 1) := by decide +kernel
theorem dX7_enter_23 : decode cX7_enter 23 = .ok (.aload_n 0, 1) := by decide +kernel
theorem dX7_enter_24 : decode cX7_enter 24 = .ok (.getfield 178, 3) := by decide +kernel
theorem dX7_enter_27 : decode cX7_enter 27 = .ok (.aload_n 0, 1) := by decide +kernel
theorem dX7_enter_28 : decode cX7_enter 28 = .ok (.getfield 119, 3) := by decide +kernel
theorem dX7_enter_31 : decode cX7_enter 31 = .ok (.if_icmp .ge 65, 3) := by decide +kernel
theorem dX7_enter_34 : decode cX7_enter 34 = .ok (.aload_n 0, 1) := by decide +kernel
theorem dX7_enter_35 : decode cX7_enter 35 = .ok (.bipush 10, 2) := by decide +kernel
theorem dX7_enter_37 : decode cX7_enter 37 = .ok (.invokevirtual 184, 3) := by decide +kernel
theorem dX7_enter_40 : decode cX7_enter 40 = .ok (.istore_n 2, 1) := by decide +kernel
theorem dX7_enter_41 : decode cX7_enter 41 = .ok (.aload_n 0, 1) := by decide +kernel
theorem dX7_enter_42 : decode cX7_enter 42 = .ok (.aload_n 0, 1) := by decide +kernel
theorem dX7_enter_43 : decode cX7_enter 43 = .ok (.getfield 22, 3) := by decide +kernel
theorem dX7_enter_46 : decode cX7_enter 46 = .ok (.iconst 0, 1) := by decide +kernel
theorem dX7_enter_47 : decode cX7_enter 47 = .ok (.iaload, 1) := by decide +kernel
theorem dX7_enter_48 : decode cX7_enter 48 = .ok (.aload_n 0, 1) := by decide +kernel
theorem dX7_enter_49 : decode cX7_enter 49 = .ok (.getfield 22, 3) := by decide +kernel
theorem dX7_enter_52 : decode cX7_enter 52 = .ok (.iconst 1, 1) := by decide +kernel
theorem dX7_enter_53 : decode cX7_enter 53 = .ok (.iaload, 1) := by decide +kernel
theorem dX7_enter_54 : decode cX7_enter 54 = .ok (.aload_n 0, 1) := by decide +kernel
theorem dX7_enter_55 : decode cX7_enter 55 = .ok (.getfield 22, 3) := by decide +kernel
theorem dX7_enter_58 : decode cX7_enter 58 = .ok (.iconst 2, 1) := by decide +kernel
theorem dX7_enter_59 : decode cX7_enter 59 = .ok (.iaload, 1) := by decide +kernel
theorem dX7_enter_60 : decode cX7_enter 60 = .ok (.aload_n 0, 1) := by decide +kernel
theorem dX7_enter_61 : decode cX7_enter 61 = .ok (.getfield 22, 3) := by decide +kernel
theorem dX7_enter_64 : decode cX7_enter 64 = .ok (.iconst 3, 1) := by decide +kernel
theorem dX7_enter_65 : decode cX7_enter 65 = .ok (.iaload, 1) := by decide +kernel
theorem dX7_enter_66 : decode cX7_enter 66 = .ok (.aload_n 0, 1) := by decide +kernel
theorem dX7_enter_67 : decode cX7_enter 67 = .ok (.getfield 22, 3) := by decide +kernel
theorem dX7_enter_70 : decode cX7_enter 70 = .ok (.iconst 4, 1) := by decide +kernel
theorem dX7_enter_71 : decode cX7_enter 71 = .ok (.iaload, 1) := by decide +kernel
theorem dX7_enter_72 : decode cX7_enter 72 = .ok (.aload_n 0, 1) := by decide +kernel
theorem dX7_enter_73 : decode cX7_enter 73 = .ok (.getfield 22, 3) := by decide +kernel
theorem dX7_enter_76 : decode cX7_enter 76 = .ok (.iconst 5, 1) := by decide +kernel
theorem dX7_enter_77 : decode cX7_enter 77 = .ok (.iaload, 1) := by decide +kernel
theorem dX7_enter_78 : decode cX7_enter 78 = .ok (.invokevirtual 142, 3) := by decide +kernel
theorem dX7_enter_81 : decode cX7_enter 81 = .ok (.iload_n 1, 1) := by decide +kernel
theorem dX7_enter_82 : decode cX7_enter 82 = .ok (.iload_n 2, 1) := by decide +kernel
theorem dX7_enter_83 : decode cX7_enter 83 = .ok (.ifCond .ne 7, 3) := by decide +kernel
theorem dX7_enter_86 : decode cX7_enter 86 = .ok (.iconst 1, 1) := by decide +kernel
theorem dX7_enter_87 : decode cX7_enter 87 = .ok (.goto 4, 3) := by decide +kernel
theorem dX7_enter_90 : decode cX7_enter 90 = .ok (.iconst 0, 1) := by decide +kernel
theorem dX7_enter_91 : decode cX7_enter 91 = .ok (.iadd, 1) := by decide +kernel
theorem dX7_enter_92 : decode cX7_enter 92 = .ok (.istore_n 1, 1) := by decide +kernel
theorem dX7_enter_93 : decode cX7_enter 93 = .ok (.goto (-70), 3) := by decide +kernel
theorem dX7_enter_96 : decode cX7_enter 96 = .ok (.iload_n 1, 1) := by decide +kernel
theorem dX7_enter_97 : decode cX7_enter 97 = .ok (.ireturn, 1) := by decide +kernel
theorem dJ9_floorMod_7cf53_0 : decode cJ9_floorMod_7cf53 0 = .ok (.iload_n 0, 1) := by decide +kernel
theorem dJ9_floorMod_7cf53_1 : decode cJ9_floorMod_7cf53 1 = .ok (.iload_n 1, 1) := by decide +kernel
theorem dJ9_floorMod_7cf53_2 : decode cJ9_floorMod_7cf53 2 = .ok (.irem, 1) := by decide +kernel
theorem dJ9_floorMod_7cf53_3 : decode cJ9_floorMod_7cf53 3 = .ok (.istore_n 2, 1) := by decide +kernel
theorem dJ9_floorMod_7cf53_4 : decode cJ9_floorMod_7cf53 4 = .ok (.iload_n 0, 1) := by decide +kernel
theorem dJ9_floorMod_7cf53_5 : decode cJ9_floorMod_7cf53 5 = .ok (.iload_n 1, 1) := by decide +kernel
theorem dJ9_floorMod_7cf53_6 : decode cJ9_floorMod_7cf53 6 = .ok (.ixor, 1) := by decide +kernel
theorem dJ9_floorMod_7cf53_7 : decode cJ9_floorMod_7cf53 7 = .ok (.ifCond .ge 11, 3) := by decide +kernel
theorem dJ9_floorMod_7cf53_10 : decode cJ9_floorMod_7cf53 10 = .ok (.iload_n 2, 1) := by decide +kernel
theorem dJ9_floorMod_7cf53_11 : decode cJ9_floorMod_7cf53 11 = .ok (.ifCond .eq 7, 3) := by decide +kernel
theorem dJ9_floorMod_7cf53_14 : decode cJ9_floorMod_7cf53 14 = .ok (.iload_n 2, 1) := by decide +kernel
theorem dJ9_floorMod_7cf53_15 : decode cJ9_floorMod_7cf53 15 = .ok (.iload_n 1, 1) := by decide +kernel
theorem dJ9_floorMod_7cf53_16 : decode cJ9_floorMod_7cf53 16 = .ok (.iadd, 1) := by decide +kernel
theorem dJ9_floorMod_7cf53_17 : decode cJ9_floorMod_7cf53 17 = .ok (.ireturn, 1) := by decide +kernel
theorem dJ9_floorMod_7cf53_18 : decode cJ9_floorMod_7cf53 18 = .ok (.iload_n 2, 1) := by decide +kernel
theorem dJ9_floorMod_7cf53_19 : decode cJ9_floorMod_7cf53 19 = .ok (.ireturn, 1) := by decide +kernel
theorem dJ9_abs_0f7a4_0 : decode cJ9_abs_0f7a4 0 = .ok (.iload_n 0, 1) := by decide +kernel
theorem dJ9_abs_0f7a4_1 : decode cJ9_abs_0f7a4 1 = .ok (.ifCond .ge 8, 3) := by decide +kernel
theorem dJ9_abs_0f7a4_4 : decode cJ9_abs_0f7a4 4 = .ok (.iload_n 0, 1) := by decide +kernel
theorem dJ9_abs_0f7a4_5 : decode cJ9_abs_0f7a4 5 = .ok (.ineg, 1) := by decide +kernel
theorem dJ9_abs_0f7a4_6 : decode cJ9_abs_0f7a4 6 = .ok (.goto 4, 3) := by decide +kernel
theorem dJ9_abs_0f7a4_9 : decode cJ9_abs_0f7a4 9 = .ok (.iload_n 0, 1) := by decide +kernel
theorem dJ9_abs_0f7a4_10 : decode cJ9_abs_0f7a4 10 = .ok (.ireturn, 1) := by decide +kernel
theorem dJ9_max_7cf53_0 : decode cJ9_max_7cf53 0 = .ok (.iload_n 0, 1) := by decide +kernel
theorem dJ9_max_7cf53_1 : decode cJ9_max_7cf53 1 = .ok (.iload_n 1, 1) := by decide +kernel
theorem dJ9_max_7cf53_2 : decode cJ9_max_7cf53 2 = .ok (.if_icmp .lt 7, 3) := by decide +kernel
theorem dJ9_max_7cf53_5 : decode cJ9_max_7cf53 5 = .ok (.iload_n 0, 1) := by decide +kernel
theorem dJ9_max_7cf53_6 : decode cJ9_max_7cf53 6 = .ok (.goto 4, 3) := by decide +kernel
theorem dJ9_max_7cf53_9 : decode cJ9_max_7cf53 9 = .ok (.iload_n 1, 1) := by decide +kernel
theorem dJ9_max_7cf53_10 : decode cJ9_max_7cf53 10 = .ok (.ireturn, 1) := by decide +kernel
theorem dJ9_min_7cf53_0 : decode cJ9_min_7cf53 0 = .ok (.iload_n 0, 1) := by decide +kernel
theorem dJ9_min_7cf53_1 : decode cJ9_min_7cf53 1 = .ok (.iload_n 1, 1) := by decide +kernel
theorem dJ9_min_7cf53_2 : decode cJ9_min_7cf53 2 = .ok (.if_icmp .gt 7, 3) := by decide +kernel
theorem dJ9_min_7cf53_5 : decode cJ9_min_7cf53 5 = .ok (.iload_n 0, 1) := by decide +kernel
theorem dJ9_min_7cf53_6 : decode cJ9_min_7cf53 6 = .ok (.goto 4, 3) := by decide +kernel
theorem dJ9_min_7cf53_9 : decode cJ9_min_7cf53 9 = .ok (.iload_n 1, 1) := by decide +kernel
theorem dJ9_min_7cf53_10 : decode cJ9_min_7cf53 10 = .ok (.ireturn, 1) := by decide +kernel
end
section
/-! THE WORLD: all cells of the class and of the reference, by region and cell, over a memory of whole numbers -/
abbrev dp_V : Type := Nat → Nat → Int
abbrev dp_M : Type := Nat → Nat → Nat → Int
abbrev dp_E : Type := va_G × (Nat → Nat → Nat) × (ClassId × ClassId × ClassId × ClassId) × (Nat × Nat × Nat × Nat)
abbrev eAd (E : dp_E) : Nat → Nat → Nat := E.2.1
abbrev eI (E : dp_E) : ClassId := E.2.2.1.1
abbrev eC (E : dp_E) : ClassId := E.2.2.1.2.1
abbrev eT (E : dp_E) : ClassId := E.2.2.1.2.2.1
abbrev eS (E : dp_E) : ClassId := E.2.2.1.2.2.2
abbrev z0 (E : dp_E) : Nat := E.2.2.2.1
abbrev z1 (E : dp_E) : Nat := E.2.2.2.2.1
abbrev z2 (E : dp_E) : Nat := E.2.2.2.2.2.1
abbrev z3 (E : dp_E) : Nat := E.2.2.2.2.2.2
/-! numbers -/
def dp_I (x : Int) : Int32 := Int32.ofInt x
def dp_R (x : Int) : Prop := -2147483648 ≤ x ∧ x < 2147483648
def dp_b (P : Prop) [Decidable P] : Int := if P then 1 else 0
theorem dp_I_add (x y : Int) : dp_I x + dp_I y = dp_I (x + y) := (Int32.ofInt_add x y).symm
theorem dp_I_sub (x y : Int) : dp_I x - dp_I y = dp_I (x - y) := (Int32.ofInt_sub x y).symm
theorem dp_I_mul (x y : Int) : dp_I x * dp_I y = dp_I (x * y) := (Int32.ofInt_mul x y).symm
theorem dp_I_neg (x : Int) : - dp_I x = dp_I (-x) := (Int32.ofInt_neg x).symm
theorem dp_I_toInt {x : Int} (h : dp_R x) : (dp_I x).toInt = x := Int32.toInt_ofInt_of_le (by have := h.1; omega) (by have := h.2; omega)
theorem dp_R_to (x : Int32) : dp_R x.toInt := ⟨by have := x.le_toInt; omega, by have := x.toInt_lt; omega⟩
theorem dp_I_of (x : Int32) : x = dp_I x.toInt := (Int32.ofInt_toInt x).symm
theorem dp_I_lt {x y : Int} (hx : dp_R x) (hy : dp_R y) : dp_I x < dp_I y ↔ x < y := by rw [Int32.lt_iff_toInt_lt, dp_I_toInt hx, dp_I_toInt hy]
theorem dp_I_le {x y : Int} (hx : dp_R x) (hy : dp_R y) : dp_I x ≤ dp_I y ↔ x ≤ y := by rw [Int32.le_iff_toInt_le, dp_I_toInt hx, dp_I_toInt hy]
theorem dp_I_eq {x y : Int} (hx : dp_R x) (hy : dp_R y) : dp_I x = dp_I y ↔ x = y := by rw [← Int32.toInt_inj, dp_I_toInt hx, dp_I_toInt hy]
theorem dp_I_z : (0 : Int32) = dp_I 0 := rfl
theorem dp_R0 : dp_R 0 := ⟨by decide, by decide⟩
theorem dp_I_nat {x : Int} (h : 0 ≤ x) (h2 : x < 2147483648) : (dp_I x).toNatClampNeg = x.toNat := Int32.toNatClampNeg_ofInt_of_le (by omega) (by omega)
theorem dp_in {x : Int} {n : Nat} (h0 : 0 ≤ x) (h1 : x < n) (hn : n < 2147483648) : vp_in (dp_I x) n := by
  intro h
  rcases h with h | h
  · rw [dp_I_z, dp_I_lt ⟨by omega, by omega⟩ dp_R0] at h
    omega
  · rw [dp_I_nat h0 (by omega)] at h
    omega
theorem dp_I_div {x y : Int} (h0 : 0 ≤ x) (h1 : x < 2147483648) (h2 : 0 < y) (h3 : y < 2147483648) : dp_I x / dp_I y = dp_I (x / y) := by
  have e : dp_I (x.tdiv y) = dp_I x / dp_I y := Int32.ofInt_tdiv (by show (-2147483648 : Int) ≤ x; omega) (by show x ≤ (2147483647 : Int); omega) (by show (-2147483648 : Int) ≤ y; omega) (by show y ≤ (2147483647 : Int); omega)
  rw [← e, Int.tdiv_eq_ediv_of_nonneg h0]
theorem dp_I_mod {x y : Int} (h0 : 0 ≤ x) (h1 : x < 2147483648) (h2 : 0 < y) (h3 : y < 2147483648) : dp_I x % dp_I y = dp_I (x % y) := by
  have e : dp_I (x.tmod y) = dp_I x % dp_I y := Int32.ofInt_tmod (by show (-2147483648 : Int) ≤ x; omega) (by show x ≤ (2147483647 : Int); omega) (by show (-2147483648 : Int) ≤ y; omega) (by show y ≤ (2147483647 : Int); omega)
  rw [← e, Int.tmod_eq_emod_of_nonneg h0]
/-! memory: a region put in place of another, a slot put -/
def dR (M : dp_M) (r : Nat) (V : dp_V) : dp_M := fun r' => if r' = r then V else M r'
def u1 (f : Nat → Int) (k : Nat) (x : Int) : Nat → Int := fun k' => if k' = k then x else f k'
def u2 (V : dp_V) (c k : Nat) (x : Int) : dp_V := fun c' => if c' = c then u1 (V c) k x else V c'
theorem dR_same (M : dp_M) (r : Nat) (V : dp_V) : dR M r V r = V := by simp [dR]
theorem dR_ne {M : dp_M} {r r' : Nat} {V : dp_V} (h : r' ≠ r) : dR M r V r' = M r' := by simp [dR, h]
theorem dR_dR (M : dp_M) (r : Nat) (V V' : dp_V) : dR (dR M r V) r V' = dR M r V' := by
  funext r'
  by_cases h : r' = r <;> simp [dR, h]
theorem dR_self (M : dp_M) (r : Nat) : dR M r (M r) = M := by
  funext r'
  by_cases h : r' = r <;> simp [dR, h]
theorem u1_same (f : Nat → Int) (k : Nat) (x : Int) : u1 f k x k = x := by simp [u1]
theorem u1_ne {f : Nat → Int} {k k' : Nat} {x : Int} (h : k' ≠ k) : u1 f k x k' = f k' := by simp [u1, h]
theorem u2_same (V : dp_V) (c k : Nat) (x : Int) : u2 V c k x c = u1 (V c) k x := by simp [u2]
theorem u2_ne {V : dp_V} {c c' k : Nat} {x : Int} (h : c' ≠ c) : u2 V c k x c' = V c' := by simp [u2, h]
/-- a state of the class: its region, and that of its ways -/
def dS (M : dp_M) (r : Nat) (V Y : dp_V) : dp_M := dR (dR M r V) (r + 20) Y
/-- the reference: its numbers, and what else it holds -/
def dN (M : dp_M) (V X : dp_V) : dp_M := dR (dR M 9 V) 8 X
theorem dS_V (M : dp_M) (r : Nat) (V Y : dp_V) : dS M r V Y r = V := by simp [dS, dR]
theorem dS_Y (M : dp_M) (r : Nat) (V Y : dp_V) : dS M r V Y (r + 20) = Y := by simp [dS, dR]
theorem dS_ne {M : dp_M} {r r' : Nat} {V Y : dp_V} (h : r' ≠ r) (h2 : r' ≠ r + 20) : dS M r V Y r' = M r' := by simp [dS, dR, h, h2]
theorem dS_self (M : dp_M) (r : Nat) : dS M r (M r) (M (r + 20)) = M := by
  funext r'
  unfold dS dR
  split
  · next h => rw [h]
  · split
    · next h => rw [h]
    · rfl
theorem dS_dS (M : dp_M) (r : Nat) (V Y V' Y' : dp_V) : dS (dS M r V Y) r V' Y' = dS M r V' Y' := by
  funext r'
  unfold dS dR
  repeat' split
  all_goals rfl
theorem dN_V (M : dp_M) (V X : dp_V) : dN M V X 9 = V := by simp [dN, dR]
theorem dN_X (M : dp_M) (V X : dp_V) : dN M V X 8 = X := by simp [dN, dR]
theorem dN_ne {M : dp_M} {r' : Nat} {V X : dp_V} (h : r' ≠ 9) (h2 : r' ≠ 8) : dN M V X r' = M r' := by simp [dN, dR, h, h2]
theorem dN_self (M : dp_M) : dN M (M 9) (M 8) = M := by
  funext r'
  unfold dN dR
  split
  · next h => rw [h]
  · split
    · next h => rw [h]
    · rfl
theorem dN_dN (M : dp_M) (V X V' X' : dp_V) : dN (dN M V X) V' X' = dN M V' X' := by
  funext r'
  unfold dN dR
  repeat' split
  all_goals rfl
/-! contents -/
def dp_f7 (f : Nat → Int) : List Value := [.int (dp_I (f 0)), .int (dp_I (f 1)), .int (dp_I (f 2)), .int (dp_I (f 3)), .int (dp_I (f 4)), .int (dp_I (f 5)), .int (dp_I (f 6))]
def dp_f14 (f : Nat → Int) : List Value := [.int (dp_I (f 0)), .int (dp_I (f 1)), .int (dp_I (f 2)), .int (dp_I (f 3)), .int (dp_I (f 4)), .int (dp_I (f 5)), .int (dp_I (f 6)), .int (dp_I (f 7)), .int (dp_I (f 8)), .int (dp_I (f 9)), .int (dp_I (f 10)), .int (dp_I (f 11)), .int (dp_I (f 12)), .int (dp_I (f 13))]
def axL (c : Nat) : Int := if c = 3 then -27000 else 500
def axH (c : Nat) : Int := if c = 3 then 27000 else 9000
def axS (c : Nat) : Int := if c = 3 then 0 else 9000
def dp_fA (c : Nat) (f : Nat → Int) : List Value := .int (dp_I (axL c)) :: .int (dp_I (axH c)) :: .int (dp_I (axS c)) :: dp_f7 f
def dp_fS (E : dp_E) (r : Nat) (f : Nat → Int) : List Value := [.int (dp_I (f 0)), .int (dp_I (f 1)), .int (dp_I (f 2)), .ref (eAd E r 1), .ref (eAd E r 2), .ref (eAd E r 3), .ref (eAd E r 4), .ref (eAd E r 5), .ref (eAd E r 16), .ref (eAd E r 17), .ref (eAd E r 18)]
def dp_fH (E : dp_E) (f : Nat → Int) : List Value := [.ref (eAd E 7 2), .int (dp_I (f 0))]
def dp_fX (E : dp_E) (f : Nat → Int) : List Value := [.ref (eAd E 7 4), .int (dp_I (f 0)), .ref (eAd E 7 5), .int (dp_I (f 1)), .int (dp_I (f 2)), .int (dp_I (f 3))]
def dp_fD (E : dp_E) : List Value := [.ref (eAd E 0 0), .ref (eAd E 1 0), .ref (eAd E 7 1), .ref (eAd E 7 3)]
def dp_fM (E : dp_E) (f : Nat → Int) : List Value := [.ref (eAd E 8 1), .ref (eAd E 8 2), .ref (eAd E 8 3), .int (dp_I (f 0)), .ref (eAd E 8 4), .int (dp_I (f 1)), .int (dp_I (f 2)), .int (dp_I (f 3)), .int (dp_I (f 4)), .int (dp_I (f 5)), .ref (eAd E 8 5), .int (dp_I (f 6))]
/-- the reference's row of 193 numbers, out of a region -/
def dp_ce (i : Nat) : Nat := if i < 4 then 1 else if i < 8 then 0 else if i < 39 then 2 else if i < 46 then 3 else if i < 53 then 4 else (i - 53) / 14 + 6
def dp_sl (i : Nat) : Nat := if i < 4 then i else if i < 8 then i - 4 else if i < 39 then i - 8 else if i < 46 then i - 39 else if i < 53 then i - 46 else (i - 53) % 14
def dp_fl (V : dp_V) (i : Nat) : Int := V (dp_ce i) (dp_sl i)
theorem dp_cs_inj {i j : Nat} (h : dp_ce i = dp_ce j) (h2 : dp_sl i = dp_sl j) : i = j := by
  unfold dp_ce at h
  unfold dp_sl at h2
  repeat' split at h
  all_goals (simp only [*, if_true, if_false, ↓reduceIte] at h2; omega)
def dp_ints (k : ClassId) (n : Nat) (f : Nat → Int) : va_E := .inl (k, n, .inl (fun i => dp_I (f i)))
def dp_refs (k : ClassId) (n : Nat) (f : Nat → Nat) : va_E := .inl (k, n, .inr (.inr (.inr (.inr (fun i => some (f i))))))
def dp_xS (E : dp_E) (V Y : dp_V) (r : Nat) (c : Nat) : va_E := match c with
  | 0 => .inr (2, dp_fS E r (V 0))
  | 1 => dp_ints (eI E) 4 (V 1)
  | 2 => dp_ints (eI E) 31 (V 2)
  | 3 => .inr (0, dp_fA 3 (V 3))
  | 4 => .inr (0, dp_fA 4 (V 4))
  | 5 => dp_refs (eT E) 10 (fun t => eAd E r (t + 6))
  | t + 6 => if t < 10 then .inr (3, dp_f14 (V (t + 6))) else .inr (5, dp_f7 (Y (t + 6)))
def dp_xC (E : dp_E) (M : dp_M) (c : Nat) : va_E := match c with
  | 0 => .inr (6, dp_fD E)
  | 1 => .inr (1, dp_fH E (M 7 1))
  | 2 => dp_refs (eS E) 5 (fun i => eAd E (M 7 2 i).toNat 0)
  | 3 => .inr (4, dp_fX E (M 7 3))
  | 4 => dp_ints (eC E) 100 (M 7 4)
  | _ => dp_ints (eI E) 6 (M 7 5)
def dp_xM (E : dp_E) (M : dp_M) (c : Nat) : va_E := match c with
  | 0 => .inr (7, dp_fM E (M 8 0))
  | 1 => dp_ints (eI E) 193 (dp_fl (M 9))
  | 2 => dp_ints (eI E) 965 (fun i => dp_fl (M (40 + i / 193)) (i % 193))
  | 3 => dp_ints (eI E) 193 (dp_fl (M 10))
  | 4 => dp_ints (eI E) 100 (M 8 4)
  | _ => dp_ints (eI E) 6 (M 8 5)
def dp_x (E : dp_E) (M : dp_M) (r c : Nat) : va_E := if r < 7 then dp_xS E (M r) (M (r + 20)) r c else if r = 7 then dp_xC E M c else dp_xM E M c
def dp_ps : List (Nat × Nat) := (List.range 7).flatMap (fun r => (List.range 19).map (fun c => (r, c))) ++ ((List.range 6).map (fun c => (7, c)) ++ (List.range 6).map (fun c => (8, c)))
theorem dp_mem {r c : Nat} : (r, c) ∈ dp_ps ↔ (r < 7 ∧ c < 19) ∨ (r = 7 ∧ c < 6) ∨ (r = 8 ∧ c < 6) := by
  unfold dp_ps
  simp only [List.mem_append, List.mem_flatMap, List.mem_map, List.mem_range, Prod.mk.injEq]
  constructor
  · rintro (⟨a, ha, b, hb, rfl, rfl⟩ | ⟨b, hb, rfl, rfl⟩ | ⟨b, hb, rfl, rfl⟩)
    · exact Or.inl ⟨ha, hb⟩
    · exact Or.inr (Or.inl ⟨rfl, hb⟩)
    · exact Or.inr (Or.inr ⟨rfl, hb⟩)
  · rintro (⟨h1, h2⟩ | ⟨rfl, h2⟩ | ⟨rfl, h2⟩)
    · exact Or.inl ⟨r, h1, c, h2, rfl, rfl⟩
    · exact Or.inr (Or.inl ⟨c, h2, rfl, rfl⟩)
    · exact Or.inr (Or.inr ⟨c, h2, rfl, rfl⟩)
theorem dp_nodup : dp_ps.Nodup := by decide +kernel
theorem dp_mS {r c : Nat} (h : r < 7) (hc : c < 19) : (r, c) ∈ dp_ps := dp_mem.mpr (Or.inl ⟨h, hc⟩)
theorem dp_mC {c : Nat} (hc : c < 6) : (7, c) ∈ dp_ps := dp_mem.mpr (Or.inr (Or.inl ⟨rfl, hc⟩))
theorem dp_mM {c : Nat} (hc : c < 6) : (8, c) ∈ dp_ps := dp_mem.mpr (Or.inr (Or.inr ⟨rfl, hc⟩))
def dp_W (E : dp_E) (M : dp_M) (H : Heap) : Prop := ∀ r c, (r, c) ∈ dp_ps → va_at E.1 vwCl (eAd E r c, dp_x E M r c) H
def dp_ws (E : dp_E) (M : dp_M) : va_W := dp_ps.map (fun q => (eAd E q.1 q.2, dp_x E M q.1 q.2))
def dp_A (E : dp_E) : Nat → Prop := fun q => ∃ r c, (r, c) ∈ dp_ps ∧ q = eAd E r c
def dp_OK (E : dp_E) : Prop := ∀ r c r' c', (r, c) ∈ dp_ps → (r', c') ∈ dp_ps → eAd E r c = eAd E r' c' → r = r' ∧ c = c'
theorem dp_ws_at {E : dp_E} {M : dp_M} {k r c : Nat} (h : dp_ps[k]? = some (r, c)) : (dp_ws E M)[k]? = some (eAd E r c, dp_x E M r c) := by
  rw [dp_ws, List.getElem?_map, h]
  rfl
theorem dp_ws_of {E : dp_E} {M : dp_M} {k : Nat} {q : Nat × va_E} (h : (dp_ws E M)[k]? = some q) : ∃ r c, dp_ps[k]? = some (r, c) ∧ q = (eAd E r c, dp_x E M r c) := by
  rw [dp_ws, List.getElem?_map] at h
  cases hk : dp_ps[k]? with
  | none => rw [hk] at h; cases h
  | some rc =>
    rw [hk] at h
    cases h
    exact ⟨rc.1, rc.2, rfl, rfl⟩
theorem dp_W.P {E : dp_E} {M : dp_M} {H : Heap} (h : dp_W E M H) : va_P E.1 vwCl (dp_ws E M) H := by
  intro k q hq
  obtain ⟨r, c, h1, rfl⟩ := dp_ws_of hq
  exact h r c (List.mem_of_getElem? h1)
theorem dp_D {E : dp_E} {M : dp_M} {A : Nat → Prop} (hok : dp_OK E) (hA : ∀ q, dp_A E q → A q) : va_D A (dp_ws E M) := by
  refine ⟨fun i j p q hi hj he => ?_, fun k q hk => ?_⟩
  · obtain ⟨r, c, h1, rfl⟩ := dp_ws_of hi
    obtain ⟨r', c', h2, rfl⟩ := dp_ws_of hj
    obtain ⟨rfl, rfl⟩ := hok r c r' c' (List.mem_of_getElem? h1) (List.mem_of_getElem? h2) he
    exact (List.getElem?_inj (List.getElem?_eq_some_iff.mp h1).1 dp_nodup).mp (h1.trans h2.symm)
  · obtain ⟨r, c, h1, rfl⟩ := dp_ws_of hk
    exact hA _ ⟨r, c, List.mem_of_getElem? h1, rfl⟩
theorem dp_W.of_set {E : dp_E} {M M' : dp_M} {H : Heap} {r c q0 : Nat} {x : va_E} (hq : dp_ps[q0]? = some (r, c)) (hP : va_P E.1 vwCl ((dp_ws E M).set q0 (eAd E r c, x)) H) (hx : dp_x E M' r c = x) (hf : ∀ r' c', (r', c') ∈ dp_ps → (r', c') ≠ (r, c) → dp_x E M' r' c' = dp_x E M r' c') : dp_W E M' H := by
  intro r' c' hm
  have hl : q0 < (dp_ws E M).length := (List.getElem?_eq_some_iff.mp (dp_ws_at (E := E) (M := M) hq)).1
  by_cases he : (r', c') = (r, c)
  · cases he
    rw [hx]
    exact hP q0 _ (List.getElem?_set_self hl)
  · obtain ⟨q1, h1⟩ := List.getElem?_of_mem hm
    rw [hf r' c' hm he]
    refine hP q1 _ ?_
    rw [List.getElem?_set_ne (fun e => he (by rw [e, h1] at hq; exact Option.some.inj hq))]
    exact dp_ws_at h1
/-- the same cells: another memory of which the cells hold the same -/
theorem dp_W.eqv {E : dp_E} {M M' : dp_M} {H : Heap} (h : dp_W E M H) (he : ∀ r c, (r, c) ∈ dp_ps → dp_x E M r c = dp_x E M' r c ∨ ∀ H : Heap, va_at E.1 vwCl (eAd E r c, dp_x E M r c) H → va_at E.1 vwCl (eAd E r c, dp_x E M' r c) H) : dp_W E M' H := by
  intro r c hm
  rcases he r c hm with q | q
  · rw [← q]; exact h r c hm
  · exact q H (h r c hm)
theorem dp_arr {k : ClassId} {n : Nat} {f g : Nat → Value} (h : ∀ i, i < n → f i = g i) : arrV k n f = arrV k n g := by
  unfold arrV
  have e : (fun j : Fin n => f j.val) = fun j : Fin n => g j.val := funext fun j => h j.1 j.2
  rw [e]
theorem dp_at_ints {D : va_G} {cl : List vw_C} {a : Nat} {k : ClassId} {n : Nat} {f g : Nat → Int} {H : Heap} (hfg : ∀ i, i < n → f i = g i) (h : va_at D cl (a, dp_ints k n f) H) : va_at D cl (a, dp_ints k n g) H := by
  have e : vp_cell k (n, .inl (fun i => dp_I (f i))) = vp_cell k (n, .inl (fun i => dp_I (g i))) := by
    rw [vp_cell_i, vp_cell_i]
    exact dp_arr (fun i hi => by rw [hfg i hi])
  exact h.trans (congrArg some e)
theorem dp_x_S {E : dp_E} {M : dp_M} {r c : Nat} (h : r < 7) : dp_x E M r c = dp_xS E (M r) (M (r + 20)) r c := if_pos h
theorem dp_x_C {E : dp_E} {M : dp_M} {c : Nat} : dp_x E M 7 c = dp_xC E M c := rfl
theorem dp_x_M {E : dp_E} {M : dp_M} {c : Nat} : dp_x E M 8 c = dp_xM E M c := rfl
end
section
/-! THE JUDGEMENT: at pc with locals L and stack st, over the memory M, the machine comes to Q; a rule an instruction -/
def dp_sm (i : Nat) : Int := match i with
  | 0 => 500
  | 1 => 27000
  | _ => 100
def dp_al (i : Nat) : Int := match i with
  | 2 => 1
  | _ => 0
def dp_am (i : Nat) : Int := match i with
  | 0 => 300
  | 1 => 2
  | _ => 2000
def dp_pl (i : Nat) : Int := match i with
  | 0 => 97
  | 1 => 101
  | 2 => 102
  | 3 => 116
  | 4 => 100
  | _ => 112
def dp_ty (E : dp_E) : List (ClassId × FieldType) := [(eI E, .int), (eC E, .char), (eT E, .object "DishPointer$Target"), (eS E, .object "DishPointer$State")]
def dp_K (E : dp_E) (U : State) : Prop := va_K E.1 vwCl (dp_ty E) U
def dp_Z1 (A : Nat → Prop) (n d : String) (ty : FieldType) (t N : Nat) (f : Nat → Int) (U : State) (H : Heap) : Prop := va_Z "DishPointer" n d (.ref t) A U H ∧ va_T ty t N (fun j => .int (dp_I (f j))) A U H
def dp_Z (E : dp_E) (A : Nat → Prop) (U : State) (H : Heap) : Prop := dp_Z1 A "SETTING_MOST" "[I" .int (z0 E) 4 dp_sm U H ∧ dp_Z1 A "AXIS_LEAST" "[I" .int (z1 E) 3 dp_al U H ∧ dp_Z1 A "AXIS_MOST" "[I" .int (z2 E) 3 dp_am U H ∧ dp_Z1 A "PART_LETTERS" "[C" .char (z3 E) 6 dp_pl U H
theorem dp_Z1.mv {A B : Nat → Prop} {n d : String} {ty : FieldType} {t N : Nat} {f : Nat → Int} {u U : State} {H H1 : Heap} (h : dp_Z1 A n d ty t N f u H) (hvm : u.vm.Alike U.vm) (hq : ∀ a : Nat, a < H.size → ¬ A a → H1[a]? = H[a]?) (hAB : ∀ q, B q → A q) : dp_Z1 B n d ty t N f U H1 := ⟨((h.1.moved hvm).kept hq).narrow hAB, ((h.2.moved hvm).kept hq).narrow hAB⟩
theorem dp_Z.mv {E : dp_E} {A B : Nat → Prop} {u U : State} {H H1 : Heap} (h : dp_Z E A u H) (hvm : u.vm.Alike U.vm) (hq : ∀ a : Nat, a < H.size → ¬ A a → H1[a]? = H[a]?) (hAB : ∀ q, B q → A q) : dp_Z E B U H1 := ⟨h.1.mv hvm hq hAB, h.2.1.mv hvm hq hAB, h.2.2.1.mv hvm hq hAB, h.2.2.2.mv hvm hq hAB⟩
def dp_B (E : dp_E) (M : dp_M) (U : State) : Prop := dp_W E M U.heap ∧ dp_K E U ∧ dp_Z E (dp_A E) U U.heap
theorem dp_B.calling {E : dp_E} {M : dp_M} {U : State} (h : dp_B E M U) (g : JFrame) (mk : MethodId) (a : Array Value) : dp_B E M (U.calling g mk a) := ⟨h.1, va_K.moved (u := U) (U := U.calling g mk a) (Vm.Alike.refl U.vm) h.2.1, dp_Z.mv (u := U) (U := U.calling g mk a) h.2.2 (Vm.Alike.refl U.vm) (fun _ _ _ => rfl) (fun _ h => h)⟩
/-- the locals: at most one value each, none of two slots -/
def dp_L (ls : Array Slot) (L : List (Option Value)) : Prop := ls.size = L.length ∧ lv_wf ls ∧ ∀ (i : Nat) (v : Value), L[i]? = some (some v) → ls[i]? = some (.val v) ∧ v.category = 1
theorem dp_L.ix {ls : Array Slot} {L : List (Option Value)} (h : dp_L ls L) {i : Nat} {v : Value} (hi : L[i]? = some (some v)) : ls[i]? = some (.val v) := (h.2.2 i v hi).1
theorem dp_L.has {ls : Array Slot} {L : List (Option Value)} (h : dp_L ls L) (l : List (Nat × Value)) (hl : ∀ q ∈ l, L[q.1]? = some (some q.2)) : lv_has ls L.length l := ⟨h.1, h.2.1, fun q hq => (h.2.2 q.1 q.2 (hl q hq)).1⟩
def dp_en (L : List (Option Value)) : List (Nat × Value) := (List.range L.length).filterMap (fun i => match L[i]? with
  | some (some v) => some (i, v)
  | _ => none)
theorem dp_en_mem {L : List (Option Value)} {i : Nat} {v : Value} : (i, v) ∈ dp_en L ↔ L[i]? = some (some v) := by
  unfold dp_en
  rw [List.mem_filterMap]
  constructor
  · rintro ⟨j, -, hj⟩
    cases h : L[j]? with
    | none => rw [h] at hj; cases hj
    | some o =>
      cases o with
      | none => rw [h] at hj; cases hj
      | some w =>
        rw [h] at hj
        cases hj
        exact h
  · intro h
    exact ⟨i, List.mem_range.mpr (List.getElem?_eq_some_iff.mp h).1, by rw [h]⟩
theorem dp_L.put {ls ls' : Array Slot} {L : List (Option Value)} (h : dp_L ls L) {i : Nat} {v : Value} (hi : i < L.length) (hc : v.category = 1) (h' : lv_has ls' L.length ((i, v) :: (dp_en L).filter (fun q => !(q.1 == i) && !(q.1 + 1 == i && q.2.category == 2)))) : dp_L ls' (L.set i (some v)) := by
  refine ⟨by rw [h'.1, List.length_set], h'.2.1, fun j w hj => ?_⟩
  by_cases e : j = i
  · subst e
    rw [List.getElem?_set_self hi] at hj
    cases hj
    exact ⟨h'.2.2 (j, _) List.mem_cons_self, hc⟩
  · rw [List.getElem?_set_ne (Ne.symm e)] at hj
    have hw := (h.2.2 j w hj).2
    refine ⟨h'.2.2 (j, w) (List.mem_cons_of_mem _ (List.mem_filter.mpr ⟨dp_en_mem.mpr hj, ?_⟩)), hw⟩
    simp [e, hw]
def dp_C (E : dp_E) (A : Nat → Prop) (p : Program) (s : State) (m : MethodId) (args : Array Value) (meth : Method) (co : Code) (cc : ByteArray) (own : String) (nL : Nat) (Ts : List Cond) : Prop := CallFix p m co cc nL s args Ts own ∧ meth.locks = false ∧ dp_OK E ∧ (∀ q, dp_A E q → A q) ∧ dp_K E s ∧ dp_Z E A s s.heap
def dp_G (E : dp_E) (A : Nat → Prop) (p : Program) (l : Launch) (e : Env) (R : Room) (s : State) (m : MethodId) (args : Array Value) (below : List Frame) (meth : Method) (co : Code) (ce sl : Nat) (Q : State → Prop) (M : dp_M) (pc : Nat) (L : List (Option Value)) (st : List Value) : Prop :=
  ∀ (H : Heap) (locs : List Loc) (ls : Array Slot), dp_W E M H → va_S A s.heap H locs → dp_L ls L → W p l e R s m args below meth co H locs ce sl Q (F0 m pc ls st)
section DG
variable {E : dp_E} {A : Nat → Prop} {p : Program} {l : Launch} {e : Env} {R : Room} {s : State} {m : MethodId} {args : Array Value} {below : List Frame} {meth : Method} {co : Code} {ce sl : Nat} {Q : State → Prop} {cc : ByteArray} {own : String} {nL : Nat} {Ts : List Cond} {M : dp_M} {pc : Nat} {L : List (Option Value)} {st : List Value}
theorem dp_iconst (C : dp_C E A p s m args meth co cc own nL Ts) {n : Int} (hd : decode cc pc = .ok (.iconst n, 1)) (k : dp_G E A p l e R s m args below meth co ce sl Q M (pc + 1) L (.int (dp_I n) :: st)) : dp_G E A p l e R s m args below meth co ce sl Q M pc L (st) := fun H locs ls hW hS hL => lv_iconst C.1.1 C.1.2.1 hd rfl (k H locs ls hW hS hL)
theorem dp_bipush (C : dp_C E A p s m args meth co cc own nL Ts) {n : Int} (hd : decode cc pc = .ok (.bipush n, 2)) (hv : (Int8.ofInt n).toInt32 = dp_I n) (k : dp_G E A p l e R s m args below meth co ce sl Q M (pc + 2) L (.int (dp_I n) :: st)) : dp_G E A p l e R s m args below meth co ce sl Q M pc L (st) := fun H locs ls hW hS hL => lv_bipush C.1.1 C.1.2.1 hd hv (k H locs ls hW hS hL)
theorem dp_sipush (C : dp_C E A p s m args meth co cc own nL Ts) {n : Int} (hd : decode cc pc = .ok (.sipush n, 3)) (hv : (Int16.ofInt n).toInt32 = dp_I n) (k : dp_G E A p l e R s m args below meth co ce sl Q M (pc + 3) L (.int (dp_I n) :: st)) : dp_G E A p l e R s m args below meth co ce sl Q M pc L (st) := fun H locs ls hW hS hL => lv_sipush C.1.1 C.1.2.1 hd hv (k H locs ls hW hS hL)
theorem dp_ldc (C : dp_C E A p s m args meth co cc own nL Ts) {i : Nat} {v : Int32} (n : Int) (hc : Cond.constant own i v ∈ Ts) (hv : v = dp_I n) (hd : decode cc pc = .ok (.ldc i, 2)) (k : dp_G E A p l e R s m args below meth co ce sl Q M (pc + 2) L (.int (dp_I n) :: st)) : dp_G E A p l e R s m args below meth co ce sl Q M pc L (st) := fun H locs ls hW hS hL => lv_ldc C.1.1 C.1.2.1 C.1.2.2.2.1 (by rw [← hv]; exact C.1.2.2.2.2 _ hc) hd (k H locs ls hW hS hL)
theorem dp_iload_n (C : dp_C E A p s m args meth co cc own nL Ts) {i : Fin 4} {x : Int32} (hd : decode cc pc = .ok (.iload_n i, 1)) (hl : L[(i : Nat)]? = some (some (.int x))) (k : dp_G E A p l e R s m args below meth co ce sl Q M (pc + 1) L (.int x :: st)) : dp_G E A p l e R s m args below meth co ce sl Q M pc L (st) := fun H locs ls hW hS hL => lv_iload_n C.1.1 C.1.2.1 hd rfl (hL.ix hl) (k H locs ls hW hS hL)
theorem dp_iload (C : dp_C E A p s m args meth co cc own nL Ts) {i : Nat} {x : Int32} (hd : decode cc pc = .ok (.iload i, 2)) (hl : L[i]? = some (some (.int x))) (k : dp_G E A p l e R s m args below meth co ce sl Q M (pc + 2) L (.int x :: st)) : dp_G E A p l e R s m args below meth co ce sl Q M pc L (st) := fun H locs ls hW hS hL => lv_iload C.1.1 C.1.2.1 hd (hL.ix hl) (k H locs ls hW hS hL)
theorem dp_aload_n (C : dp_C E A p s m args meth co cc own nL Ts) {i : Fin 4} {x : Nat} (hd : decode cc pc = .ok (.aload_n i, 1)) (hl : L[(i : Nat)]? = some (some (.ref x))) (k : dp_G E A p l e R s m args below meth co ce sl Q M (pc + 1) L (.ref x :: st)) : dp_G E A p l e R s m args below meth co ce sl Q M pc L (st) := fun H locs ls hW hS hL => lv_aload_n C.1.1 C.1.2.1 hd rfl (hL.ix hl) (k H locs ls hW hS hL)
theorem dp_aload (C : dp_C E A p s m args meth co cc own nL Ts) {i : Nat} {x : Nat} (hd : decode cc pc = .ok (.aload i, 2)) (hl : L[i]? = some (some (.ref x))) (k : dp_G E A p l e R s m args below meth co ce sl Q M (pc + 2) L (.ref x :: st)) : dp_G E A p l e R s m args below meth co ce sl Q M pc L (st) := fun H locs ls hW hS hL => lv_aload C.1.1 C.1.2.1 hd (hL.ix hl) (k H locs ls hW hS hL)
theorem dp_iadd (C : dp_C E A p s m args meth co cc own nL Ts) {x y : Int} (hd : decode cc pc = .ok (.iadd, 1)) (k : dp_G E A p l e R s m args below meth co ce sl Q M (pc + 1) L (.int (dp_I (x + y)) :: st)) : dp_G E A p l e R s m args below meth co ce sl Q M pc L (.int (dp_I y) :: .int (dp_I x) :: st) := fun H locs ls hW hS hL => lv_iadd C.1.1 C.1.2.1 hd (by rw [dp_I_add]; exact k H locs ls hW hS hL)
theorem dp_isub (C : dp_C E A p s m args meth co cc own nL Ts) {x y : Int} (hd : decode cc pc = .ok (.isub, 1)) (k : dp_G E A p l e R s m args below meth co ce sl Q M (pc + 1) L (.int (dp_I (x - y)) :: st)) : dp_G E A p l e R s m args below meth co ce sl Q M pc L (.int (dp_I y) :: .int (dp_I x) :: st) := fun H locs ls hW hS hL => lv_isub C.1.1 C.1.2.1 hd (by rw [dp_I_sub]; exact k H locs ls hW hS hL)
theorem dp_imul (C : dp_C E A p s m args meth co cc own nL Ts) {x y : Int} (hd : decode cc pc = .ok (.imul, 1)) (k : dp_G E A p l e R s m args below meth co ce sl Q M (pc + 1) L (.int (dp_I (x * y)) :: st)) : dp_G E A p l e R s m args below meth co ce sl Q M pc L (.int (dp_I y) :: .int (dp_I x) :: st) := fun H locs ls hW hS hL => lv_imul C.1.1 C.1.2.1 hd (by rw [dp_I_mul]; exact k H locs ls hW hS hL)
theorem dp_ineg (C : dp_C E A p s m args meth co cc own nL Ts) {x : Int} (hd : decode cc pc = .ok (.ineg, 1)) (k : dp_G E A p l e R s m args below meth co ce sl Q M (pc + 1) L (.int (dp_I (-x)) :: st)) : dp_G E A p l e R s m args below meth co ce sl Q M pc L (.int (dp_I x) :: st) := fun H locs ls hW hS hL => lv_ineg C.1.1 C.1.2.1 hd (by rw [dp_I_neg]; exact k H locs ls hW hS hL)
theorem dp_idiv (C : dp_C E A p s m args meth co cc own nL Ts) {x y : Int} (h : 0 ≤ x ∧ x < 2147483648 ∧ 0 < y ∧ y < 2147483648) (hd : decode cc pc = .ok (.idiv, 1)) (k : dp_G E A p l e R s m args below meth co ce sl Q M (pc + 1) L (.int (dp_I (x / y)) :: st)) : dp_G E A p l e R s m args below meth co ce sl Q M pc L (.int (dp_I y) :: .int (dp_I x) :: st) := fun H locs ls hW hS hL => lv_idiv C.1.1 C.1.2.1 hd (fun q => by rw [dp_I_z, dp_I_eq ⟨by omega, by omega⟩ dp_R0] at q; omega) (by rw [dp_I_div h.1 h.2.1 h.2.2.1 h.2.2.2]; exact k H locs ls hW hS hL)
theorem dp_irem (C : dp_C E A p s m args meth co cc own nL Ts) {x y : Int} (h : 0 ≤ x ∧ x < 2147483648 ∧ 0 < y ∧ y < 2147483648) (hd : decode cc pc = .ok (.irem, 1)) (k : dp_G E A p l e R s m args below meth co ce sl Q M (pc + 1) L (.int (dp_I (x % y)) :: st)) : dp_G E A p l e R s m args below meth co ce sl Q M pc L (.int (dp_I y) :: .int (dp_I x) :: st) := fun H locs ls hW hS hL => lv_irem C.1.1 C.1.2.1 hd (fun q => by rw [dp_I_z, dp_I_eq ⟨by omega, by omega⟩ dp_R0] at q; omega) (by rw [dp_I_div h.1 h.2.1 h.2.2.1 h.2.2.2, dp_I_mul, dp_I_sub, show x - x / y * y = x % y by rw [Int.emod_def, Int.mul_comm]]; exact k H locs ls hW hS hL)
theorem dp_dup (C : dp_C E A p s m args meth co cc own nL Ts) {v : Value} (hd : decode cc pc = .ok (.dup, 1)) (hv : v.category = 1) (k : dp_G E A p l e R s m args below meth co ce sl Q M (pc + 1) L (v :: v :: st)) : dp_G E A p l e R s m args below meth co ce sl Q M pc L (v :: st) := fun H locs ls hW hS hL => lv_dup C.1.1 C.1.2.1 hd hv (k H locs ls hW hS hL)
theorem dp_dup2 (C : dp_C E A p s m args meth co cc own nL Ts) {v u : Value} (hd : decode cc pc = .ok (.dup2, 1)) (hv : v.category = 1) (hu : u.category = 1) (k : dp_G E A p l e R s m args below meth co ce sl Q M (pc + 1) L (v :: u :: v :: u :: st)) : dp_G E A p l e R s m args below meth co ce sl Q M pc L (v :: u :: st) := fun H locs ls hW hS hL => lv_dup2_11 C.1.1 C.1.2.1 hd hv hu (k H locs ls hW hS hL)
theorem dp_pop (C : dp_C E A p s m args meth co cc own nL Ts) {v : Value} (hd : decode cc pc = .ok (.pop, 1)) (hv : v.category = 1) (k : dp_G E A p l e R s m args below meth co ce sl Q M (pc + 1) L (st)) : dp_G E A p l e R s m args below meth co ce sl Q M pc L (v :: st) := fun H locs ls hW hS hL => lv_pop C.1.1 C.1.2.1 hd hv (k H locs ls hW hS hL)
theorem dp_goto (C : dp_C E A p s m args meth co cc own nL Ts) {off : Int} {tgt : Nat} (hd : decode cc pc = .ok (.goto off, 3)) (ht : (pc : Int) + off = (tgt : Int)) (k : dp_G E A p l e R s m args below meth co ce sl Q M tgt L st) : dp_G E A p l e R s m args below meth co ce sl Q M pc L st := fun H locs ls hW hS hL => lv_goto C.1.1 C.1.2.1 hd ht (k H locs ls hW hS hL)
theorem dp_istore_n (C : dp_C E A p s m args meth co cc own nL Ts) {i : Fin 4} {x : Int32} (hd : decode cc pc = .ok (.istore_n i, 1)) (hi : (i : Nat) < L.length) (k : dp_G E A p l e R s m args below meth co ce sl Q M (pc + 1) (L.set (i : Nat) (some (.int x))) st) : dp_G E A p l e R s m args below meth co ce sl Q M pc L (.int x :: st) := fun H locs ls hW hS hL => lv_istore_n C.1.1 C.1.2.1 hd rfl (hL.has (dp_en L) (fun q hq => dp_en_mem.mp hq)) hi rfl (fun ls1 h1 => k H locs ls1 hW hS (hL.put hi rfl h1))
theorem dp_istore (C : dp_C E A p s m args meth co cc own nL Ts) {i : Nat} {x : Int32} (hd : decode cc pc = .ok (.istore i, 2)) (hi : i < L.length) (k : dp_G E A p l e R s m args below meth co ce sl Q M (pc + 2) (L.set i (some (.int x))) st) : dp_G E A p l e R s m args below meth co ce sl Q M pc L (.int x :: st) := fun H locs ls hW hS hL => lv_istore C.1.1 C.1.2.1 hd (hL.has (dp_en L) (fun q hq => dp_en_mem.mp hq)) hi rfl (fun ls1 h1 => k H locs ls1 hW hS (hL.put hi rfl h1))
theorem dp_astore_n (C : dp_C E A p s m args meth co cc own nL Ts) {i : Fin 4} {x : Nat} (hd : decode cc pc = .ok (.astore_n i, 1)) (hi : (i : Nat) < L.length) (k : dp_G E A p l e R s m args below meth co ce sl Q M (pc + 1) (L.set (i : Nat) (some (.ref x))) st) : dp_G E A p l e R s m args below meth co ce sl Q M pc L (.ref x :: st) := fun H locs ls hW hS hL => lv_astore_n C.1.1 C.1.2.1 hd rfl (hL.has (dp_en L) (fun q hq => dp_en_mem.mp hq)) hi rfl (fun ls1 h1 => k H locs ls1 hW hS (hL.put hi rfl h1))
theorem dp_astore (C : dp_C E A p s m args meth co cc own nL Ts) {i : Nat} {x : Nat} (hd : decode cc pc = .ok (.astore i, 2)) (hi : i < L.length) (k : dp_G E A p l e R s m args below meth co ce sl Q M (pc + 2) (L.set i (some (.ref x))) st) : dp_G E A p l e R s m args below meth co ce sl Q M pc L (.ref x :: st) := fun H locs ls hW hS hL => lv_astore C.1.1 C.1.2.1 hd (hL.has (dp_en L) (fun q hq => dp_en_mem.mp hq)) hi rfl (fun ls1 h1 => k H locs ls1 hW hS (hL.put hi rfl h1))
theorem dp_iinc (C : dp_C E A p s m args meth co cc own nL Ts) {i : Nat} {n x : Int} (hd : decode cc pc = .ok (.iinc i n, 3)) (hl : L[i]? = some (some (.int (dp_I x)))) (k : dp_G E A p l e R s m args below meth co ce sl Q M (pc + 3) (L.set i (some (.int (dp_I (x + n))))) st) : dp_G E A p l e R s m args below meth co ce sl Q M pc L st := fun H locs ls hW hS hL => by
  have hi : i < L.length := (List.getElem?_eq_some_iff.mp hl).1
  obtain ⟨kk, hk⟩ := List.getElem?_of_mem (dp_en_mem.mpr hl)
  exact lv_iinc (v := dp_I (x + n)) C.1.1 C.1.2.1 hd (hL.has (dp_en L) (fun q hq => dp_en_mem.mp hq)) hk (dp_I_add x n) hi rfl (fun ls1 h1 => k H locs ls1 hW hS (hL.put hi rfl h1))
theorem dp_icmp_eq (C : dp_C E A p s m args meth co cc own nL Ts) {x y off : Int} {tgt : Nat} (hd : decode cc pc = .ok (.if_icmp .eq off, 3)) (ht : (pc : Int) + off = (tgt : Int)) (hx : dp_R x) (hy : dp_R y) (kt : x = y → dp_G E A p l e R s m args below meth co ce sl Q M tgt L st) (kf : ¬ x = y → dp_G E A p l e R s m args below meth co ce sl Q M (pc + 3) L st) : dp_G E A p l e R s m args below meth co ce sl Q M pc L (.int (dp_I y) :: .int (dp_I x) :: st) := fun H locs ls hW hS hL => lv_icmp_eq C.1.1 C.1.2.1 hd ht (fun h => kt ((dp_I_eq hx hy).mp h) H locs ls hW hS hL) (fun h => kf (fun q => h ((dp_I_eq hx hy).mpr q)) H locs ls hW hS hL)
theorem dp_if_eq (C : dp_C E A p s m args meth co cc own nL Ts) {x off : Int} {tgt : Nat} (hd : decode cc pc = .ok (.ifCond .eq off, 3)) (ht : (pc : Int) + off = (tgt : Int)) (hx : dp_R x) (kt : x = 0 → dp_G E A p l e R s m args below meth co ce sl Q M tgt L st) (kf : ¬ x = 0 → dp_G E A p l e R s m args below meth co ce sl Q M (pc + 3) L st) : dp_G E A p l e R s m args below meth co ce sl Q M pc L (.int (dp_I x) :: st) := fun H locs ls hW hS hL => lv_if_eq C.1.1 C.1.2.1 hd ht (fun h => kt ((dp_I_eq hx dp_R0).mp h) H locs ls hW hS hL) (fun h => kf (fun q => h ((dp_I_eq hx dp_R0).mpr q)) H locs ls hW hS hL)
theorem dp_icmp_ne (C : dp_C E A p s m args meth co cc own nL Ts) {x y off : Int} {tgt : Nat} (hd : decode cc pc = .ok (.if_icmp .ne off, 3)) (ht : (pc : Int) + off = (tgt : Int)) (hx : dp_R x) (hy : dp_R y) (kt : ¬ x = y → dp_G E A p l e R s m args below meth co ce sl Q M tgt L st) (kf : x = y → dp_G E A p l e R s m args below meth co ce sl Q M (pc + 3) L st) : dp_G E A p l e R s m args below meth co ce sl Q M pc L (.int (dp_I y) :: .int (dp_I x) :: st) := fun H locs ls hW hS hL => lv_icmp_ne C.1.1 C.1.2.1 hd ht (fun h => kt (fun q => h ((dp_I_eq hx hy).mpr q)) H locs ls hW hS hL) (fun h => kf ((dp_I_eq hx hy).mp h) H locs ls hW hS hL)
theorem dp_if_ne (C : dp_C E A p s m args meth co cc own nL Ts) {x off : Int} {tgt : Nat} (hd : decode cc pc = .ok (.ifCond .ne off, 3)) (ht : (pc : Int) + off = (tgt : Int)) (hx : dp_R x) (kt : ¬ x = 0 → dp_G E A p l e R s m args below meth co ce sl Q M tgt L st) (kf : x = 0 → dp_G E A p l e R s m args below meth co ce sl Q M (pc + 3) L st) : dp_G E A p l e R s m args below meth co ce sl Q M pc L (.int (dp_I x) :: st) := fun H locs ls hW hS hL => lv_if_ne C.1.1 C.1.2.1 hd ht (fun h => kt (fun q => h ((dp_I_eq hx dp_R0).mpr q)) H locs ls hW hS hL) (fun h => kf ((dp_I_eq hx dp_R0).mp h) H locs ls hW hS hL)
theorem dp_icmp_lt (C : dp_C E A p s m args meth co cc own nL Ts) {x y off : Int} {tgt : Nat} (hd : decode cc pc = .ok (.if_icmp .lt off, 3)) (ht : (pc : Int) + off = (tgt : Int)) (hx : dp_R x) (hy : dp_R y) (kt : x < y → dp_G E A p l e R s m args below meth co ce sl Q M tgt L st) (kf : ¬ x < y → dp_G E A p l e R s m args below meth co ce sl Q M (pc + 3) L st) : dp_G E A p l e R s m args below meth co ce sl Q M pc L (.int (dp_I y) :: .int (dp_I x) :: st) := fun H locs ls hW hS hL => lv_icmp_lt C.1.1 C.1.2.1 hd ht (fun h => kt ((dp_I_lt hx hy).mp h) H locs ls hW hS hL) (fun h => kf (fun q => h ((dp_I_lt hx hy).mpr q)) H locs ls hW hS hL)
theorem dp_if_lt (C : dp_C E A p s m args meth co cc own nL Ts) {x off : Int} {tgt : Nat} (hd : decode cc pc = .ok (.ifCond .lt off, 3)) (ht : (pc : Int) + off = (tgt : Int)) (hx : dp_R x) (kt : x < 0 → dp_G E A p l e R s m args below meth co ce sl Q M tgt L st) (kf : ¬ x < 0 → dp_G E A p l e R s m args below meth co ce sl Q M (pc + 3) L st) : dp_G E A p l e R s m args below meth co ce sl Q M pc L (.int (dp_I x) :: st) := fun H locs ls hW hS hL => lv_if_lt C.1.1 C.1.2.1 hd ht (fun h => kt ((dp_I_lt hx dp_R0).mp h) H locs ls hW hS hL) (fun h => kf (fun q => h ((dp_I_lt hx dp_R0).mpr q)) H locs ls hW hS hL)
theorem dp_icmp_ge (C : dp_C E A p s m args meth co cc own nL Ts) {x y off : Int} {tgt : Nat} (hd : decode cc pc = .ok (.if_icmp .ge off, 3)) (ht : (pc : Int) + off = (tgt : Int)) (hx : dp_R x) (hy : dp_R y) (kt : ¬ x < y → dp_G E A p l e R s m args below meth co ce sl Q M tgt L st) (kf : x < y → dp_G E A p l e R s m args below meth co ce sl Q M (pc + 3) L st) : dp_G E A p l e R s m args below meth co ce sl Q M pc L (.int (dp_I y) :: .int (dp_I x) :: st) := fun H locs ls hW hS hL => lv_icmp_ge C.1.1 C.1.2.1 hd ht (fun h => kt (Int.not_lt.mpr ((dp_I_le hy hx).mp h)) H locs ls hW hS hL) (fun h => kf (Int.not_le.mp (fun q => h ((dp_I_le hy hx).mpr q))) H locs ls hW hS hL)
theorem dp_if_ge (C : dp_C E A p s m args meth co cc own nL Ts) {x off : Int} {tgt : Nat} (hd : decode cc pc = .ok (.ifCond .ge off, 3)) (ht : (pc : Int) + off = (tgt : Int)) (hx : dp_R x) (kt : ¬ x < 0 → dp_G E A p l e R s m args below meth co ce sl Q M tgt L st) (kf : x < 0 → dp_G E A p l e R s m args below meth co ce sl Q M (pc + 3) L st) : dp_G E A p l e R s m args below meth co ce sl Q M pc L (.int (dp_I x) :: st) := fun H locs ls hW hS hL => lv_if_ge C.1.1 C.1.2.1 hd ht (fun h => kt (Int.not_lt.mpr ((dp_I_le dp_R0 hx).mp h)) H locs ls hW hS hL) (fun h => kf (Int.not_le.mp (fun q => h ((dp_I_le dp_R0 hx).mpr q))) H locs ls hW hS hL)
theorem dp_icmp_gt (C : dp_C E A p s m args meth co cc own nL Ts) {x y off : Int} {tgt : Nat} (hd : decode cc pc = .ok (.if_icmp .gt off, 3)) (ht : (pc : Int) + off = (tgt : Int)) (hx : dp_R x) (hy : dp_R y) (kt : y < x → dp_G E A p l e R s m args below meth co ce sl Q M tgt L st) (kf : ¬ y < x → dp_G E A p l e R s m args below meth co ce sl Q M (pc + 3) L st) : dp_G E A p l e R s m args below meth co ce sl Q M pc L (.int (dp_I y) :: .int (dp_I x) :: st) := fun H locs ls hW hS hL => lv_icmp_gt C.1.1 C.1.2.1 hd ht (fun h => kt ((dp_I_lt hy hx).mp h) H locs ls hW hS hL) (fun h => kf (fun q => h ((dp_I_lt hy hx).mpr q)) H locs ls hW hS hL)
theorem dp_if_gt (C : dp_C E A p s m args meth co cc own nL Ts) {x off : Int} {tgt : Nat} (hd : decode cc pc = .ok (.ifCond .gt off, 3)) (ht : (pc : Int) + off = (tgt : Int)) (hx : dp_R x) (kt : 0 < x → dp_G E A p l e R s m args below meth co ce sl Q M tgt L st) (kf : ¬ 0 < x → dp_G E A p l e R s m args below meth co ce sl Q M (pc + 3) L st) : dp_G E A p l e R s m args below meth co ce sl Q M pc L (.int (dp_I x) :: st) := fun H locs ls hW hS hL => lv_if_gt C.1.1 C.1.2.1 hd ht (fun h => kt ((dp_I_lt dp_R0 hx).mp h) H locs ls hW hS hL) (fun h => kf (fun q => h ((dp_I_lt dp_R0 hx).mpr q)) H locs ls hW hS hL)
theorem dp_icmp_le (C : dp_C E A p s m args meth co cc own nL Ts) {x y off : Int} {tgt : Nat} (hd : decode cc pc = .ok (.if_icmp .le off, 3)) (ht : (pc : Int) + off = (tgt : Int)) (hx : dp_R x) (hy : dp_R y) (kt : ¬ y < x → dp_G E A p l e R s m args below meth co ce sl Q M tgt L st) (kf : y < x → dp_G E A p l e R s m args below meth co ce sl Q M (pc + 3) L st) : dp_G E A p l e R s m args below meth co ce sl Q M pc L (.int (dp_I y) :: .int (dp_I x) :: st) := fun H locs ls hW hS hL => lv_icmp_le C.1.1 C.1.2.1 hd ht (fun h => kt (Int.not_lt.mpr ((dp_I_le hx hy).mp h)) H locs ls hW hS hL) (fun h => kf (Int.not_le.mp (fun q => h ((dp_I_le hx hy).mpr q))) H locs ls hW hS hL)
theorem dp_if_le (C : dp_C E A p s m args meth co cc own nL Ts) {x off : Int} {tgt : Nat} (hd : decode cc pc = .ok (.ifCond .le off, 3)) (ht : (pc : Int) + off = (tgt : Int)) (hx : dp_R x) (kt : ¬ 0 < x → dp_G E A p l e R s m args below meth co ce sl Q M tgt L st) (kf : 0 < x → dp_G E A p l e R s m args below meth co ce sl Q M (pc + 3) L st) : dp_G E A p l e R s m args below meth co ce sl Q M pc L (.int (dp_I x) :: st) := fun H locs ls hW hS hL => lv_if_le C.1.1 C.1.2.1 hd ht (fun h => kt (Int.not_lt.mpr ((dp_I_le hx dp_R0).mp h)) H locs ls hW hS hL) (fun h => kf (Int.not_le.mp (fun q => h ((dp_I_le hx dp_R0).mpr q))) H locs ls hW hS hL)
theorem dp_b0 {P : Prop} {_ : Decidable P} : dp_b P = 0 ↔ ¬ P := by
  unfold dp_b
  by_cases h : P <;> simp [h]
theorem dp_Rb {P : Prop} {_ : Decidable P} : dp_R (dp_b P) := by
  unfold dp_b dp_R
  by_cases h : P <;> simp [h]
theorem dp_ifz_eq (C : dp_C E A p s m args meth co cc own nL Ts) {P : Prop} {_ : Decidable P} {off : Int} {tgt : Nat} (hd : decode cc pc = .ok (.ifCond .eq off, 3)) (ht : (pc : Int) + off = (tgt : Int)) (kt : ¬ P → dp_G E A p l e R s m args below meth co ce sl Q M tgt L st) (kf : P → dp_G E A p l e R s m args below meth co ce sl Q M (pc + 3) L st) : dp_G E A p l e R s m args below meth co ce sl Q M pc L (.int (dp_I (dp_b P)) :: st) := dp_if_eq C hd ht dp_Rb (fun h => kt (dp_b0.mp h)) (fun h => kf (Decidable.of_not_not (fun q => h (dp_b0.mpr q))))
theorem dp_ifz_ne (C : dp_C E A p s m args meth co cc own nL Ts) {P : Prop} {_ : Decidable P} {off : Int} {tgt : Nat} (hd : decode cc pc = .ok (.ifCond .ne off, 3)) (ht : (pc : Int) + off = (tgt : Int)) (kt : P → dp_G E A p l e R s m args below meth co ce sl Q M tgt L st) (kf : ¬ P → dp_G E A p l e R s m args below meth co ce sl Q M (pc + 3) L st) : dp_G E A p l e R s m args below meth co ce sl Q M pc L (.int (dp_I (dp_b P)) :: st) := dp_if_ne C hd ht dp_Rb (fun h => kt (Decidable.of_not_not (fun q => h (dp_b0.mpr q)))) (fun h => kf (dp_b0.mp h))
def dp_sw (P : Nat → Prop) (x : Int) : Int → List Nat → Prop
  | _, [] => True
  | lo, t :: ts => (x = lo → P t) ∧ dp_sw P x (lo + 1) ts
theorem dp_sw_at {P : Nat → Prop} {x : Int} : ∀ {ts : List Nat} {lo : Int}, dp_sw P x lo ts → ∀ (k : Nat) (t : Nat), ts[k]? = some t → x = lo + k → P t := by
  intro ts
  induction ts with
  | nil => intro lo h k t hk; simp at hk
  | cons a ts ih =>
    intro lo h k t hk hx
    cases k with
    | zero =>
      simp at hk
      subst hk
      exact h.1 (by omega)
    | succ k => exact ih h.2 k t (by simpa using hk) (by omega)
theorem dp_table (C : dp_C E A p s m args meth co cc own nL Ts) (tg : List Nat) {lo hi dflt x : Int} {offs : Array Int} {len td : Nat} (hd : decode cc pc = .ok (.tableswitch dflt lo hi offs, len)) (hoff : offs.toList = tg.map (fun (t : Nat) => (t : Int) - (pc : Int))) (hlen : hi - lo + 1 = (tg.length : Int)) (ht : (pc : Int) + dflt = (td : Int)) (hx : dp_R x) (kd : (x < lo ∨ hi < x) → dp_G E A p l e R s m args below meth co ce sl Q M td L st) (kk : dp_sw (fun t => dp_G E A p l e R s m args below meth co ce sl Q M t L st) x lo tg) : dp_G E A p l e R s m args below meth co ce sl Q M pc L (.int (dp_I x) :: st) := fun H locs ls hW hS hL => by
  by_cases h1 : x < lo
  · exact lv_tableOut C.1.1 C.1.2.1 hd (by rw [dp_I_toInt hx]; exact Or.inl h1) ht (kd (Or.inl h1) H locs ls hW hS hL)
  by_cases h2 : hi < x
  · exact lv_tableOut C.1.1 C.1.2.1 hd (by rw [dp_I_toInt hx]; exact Or.inr h2) ht (kd (Or.inr h2) H locs ls hW hS hL)
  have hk : (x - lo).toNat < tg.length := by omega
  have g1 : offs[(x - lo).toNat]? = some ((tg[(x - lo).toNat] : Int) - (pc : Int)) := by
    rw [← Array.getElem?_toList, hoff, List.getElem?_map, List.getElem?_eq_getElem hk]
    rfl
  exact lv_tableIn (tgt := tg[(x - lo).toNat]) C.1.1 C.1.2.1 hd (by rw [dp_I_toInt hx]; exact h1) (by rw [dp_I_toInt hx]; exact h2) (by rw [dp_I_toInt hx]; exact g1) (by omega) (dp_sw_at kk _ _ (List.getElem?_eq_getElem hk) (by omega) H locs ls hW hS hL)
theorem dp_look2 (C : dp_C E A p s m args meth co cc own nL Ts) {a b o1 o2 dflt x : Int} {len t1 t2 td : Nat} (hd : decode cc pc = .ok (.lookupswitch dflt #[(a, o1), (b, o2)], len)) (hab : a < b) (h1 : (pc : Int) + o1 = (t1 : Int)) (h2 : (pc : Int) + o2 = (t2 : Int)) (h3 : (pc : Int) + dflt = (td : Int)) (hx : dp_R x) (k1 : x = a → dp_G E A p l e R s m args below meth co ce sl Q M t1 L st) (k2 : x = b → dp_G E A p l e R s m args below meth co ce sl Q M t2 L st) (kd : ¬ x = a → ¬ x = b → dp_G E A p l e R s m args below meth co ce sl Q M td L st) : dp_G E A p l e R s m args below meth co ce sl Q M pc L (.int (dp_I x) :: st) := fun H locs ls hW hS hL => by
  have hp : ((#[(a, o1), (b, o2)] : Array (Int × Int)).toList.zip ((#[(a, o1), (b, o2)] : Array (Int × Int)).toList.drop 1)).all (fun (a, next) => a.1 < next.1) = true := by simpa using hab
  by_cases e1 : x = a
  · exact lv_lookup C.1.1 C.1.2.1 hd hp (off := o1) (by rw [dp_I_toInt hx, Op.lookupswitch.offset_cons, if_pos e1.symm]) h1 (k1 e1 H locs ls hW hS hL)
  by_cases e2 : x = b
  · exact lv_lookup C.1.1 C.1.2.1 hd hp (off := o2) (by rw [dp_I_toInt hx, Op.lookupswitch.offset_cons, if_neg (fun q => e1 q.symm), Op.lookupswitch.offset_cons, if_pos e2.symm]) h2 (k2 e2 H locs ls hW hS hL)
  exact lv_lookup C.1.1 C.1.2.1 hd hp (off := dflt) (by rw [dp_I_toInt hx, Op.lookupswitch.offset_cons, if_neg (fun q => e1 q.symm), Op.lookupswitch.offset_cons, if_neg (fun q => e2 q.symm), Op.lookupswitch.offset_nil]) h3 (kd e1 e2 H locs ls hW hS hL)
end DG
end
section
section DM
variable {E : dp_E} {A : Nat → Prop} {p : Program} {l : Launch} {e : Env} {R : Room} {s : State} {m : MethodId} {args : Array Value} {below : List Frame} {meth : Method} {co : Code} {ce sl : Nat} {Q : State → Prop} {cc : ByteArray} {own : String} {nL : Nat} {Ts : List Cond} {M : dp_M} {pc : Nat} {L : List (Option Value)} {st : List Value}
theorem dp_getf (C : dp_C E A p s m args meth co cc own nL Ts) {r c ci k : Nat} {fs : List Value} {Cn : String} {T : u_T} {N i : Nat} {v : Value} (hm : (r, c) ∈ dp_ps) (hx : dp_x E M r c = .inr (ci, fs)) (hc : vwCl[ci]? = some (Cn, T, N)) (hin : ∀ w ∈ u_ws Cn T N, w ∈ Ts) (hk : k < N) (hl : Cond.fieldLink own i (T k).1 (T k).2.1 (T k).2.2.1 ∈ Ts) (hv : fs[k]? = some v) (hd : decode cc pc = .ok (.getfield i, 3)) (k9 : dp_G E A p l e R s m args below meth co ce sl Q M (pc + 3) L (v :: st)) : dp_G E A p l e R s m args below meth co ce sl Q M pc L (.ref (eAd E r c) :: st) := fun H locs ls hW hS hL => by
  obtain ⟨q0, hq⟩ := List.getElem?_of_mem hm
  refine va_get (D := E.1) (ci := ci) (v := v) (C := Cn) (T := T) (N := N) C.1.1 C.1.2.1 C.1.2.2.2.2 hin C.1.2.2.2.1 C.2.2.2.2.1 hW.P q0 (fs := fs) ?_ hc k hk (C.1.2.2.2.2 _ hl) (fun _ h => h) hv hd (k9 H locs ls hW hS hL)
  rw [dp_ws_at hq, hx]
theorem dp_putf (C : dp_C E A p s m args meth co cc own nL Ts) {r c ci k : Nat} {fs : List Value} {Cn : String} {T : u_T} {N i : Nat} {v : Value} {M' : dp_M} {ty : FieldType} (hm : (r, c) ∈ dp_ps) (hx : dp_x E M r c = .inr (ci, fs)) (hc : vwCl[ci]? = some (Cn, T, N)) (hin : ∀ w ∈ u_ws Cn T N, w ∈ Ts) (ty0 : Nat → FieldType) (hty : ∀ k, k < N → parseFieldDescriptor (T k).2.2.1 = some (ty0 k)) (hnm : ∀ a, a < N → ∀ b, b < N → a ≠ b → (T a).2.1 ≠ (T b).2.1) (hk : k < N) (hl : Cond.fieldLink own i (T k).1 (T k).2.1 (T k).2.2.1 ∈ Ts) (hfin : (T k).2.2.2 = false) (hd0 : parseFieldDescriptor (T k).2.2.1 = some ty) (hn : narrow ty v = v) (hfit : fits ty v = true) (hlen : k < fs.length)
    (hx' : dp_x E M' r c = .inr (ci, fs.set k v)) (hf : ∀ r' c', (r', c') ∈ dp_ps → (r', c') ≠ (r, c) → dp_x E M' r' c' = dp_x E M r' c') (hd : decode cc pc = .ok (.putfield i, 3)) (k9 : dp_G E A p l e R s m args below meth co ce sl Q M' (pc + 3) L st) : dp_G E A p l e R s m args below meth co ce sl Q M pc L (v :: .ref (eAd E r c) :: st) := fun H locs ls hW hS hL => by
  obtain ⟨q0, hq⟩ := List.getElem?_of_mem hm
  refine va_put (D := E.1) (ci := ci) (v := v) (ty := ty) (C := Cn) (T := T) (N := N) C.1.1 C.1.2.1 C.1.2.2.2.2 hin ty0 hty hnm C.1.2.2.2.1 C.2.2.2.2.1 hW.P (dp_D C.2.2.1 C.2.2.2.1) hS q0 (fs := fs) (by rw [dp_ws_at hq, hx]) hc k hk (C.1.2.2.2.2 _ hl) (fun _ h => h) hfin hd0 hn hfit hlen hd (fun H1 locs1 hP hD hS1 => k9 H1 locs1 ls ?_ hS1 hL)
  exact dp_W.of_set hq hP hx' hf
theorem dp_xS_u2 {E : dp_E} {V Y : dp_V} {r c c' k : Nat} {x : Int} (h : c' ≠ c) : dp_xS E (u2 V c k x) Y r c' = dp_xS E V Y r c' := by
  unfold dp_xS
  split <;> simp [u2, h]
theorem dp_xS_w2 {E : dp_E} {V Y : dp_V} {r c c' k : Nat} {x : Int} (h : c' ≠ c) : dp_xS E V (u2 Y c k x) r c' = dp_xS E V Y r c' := by
  unfold dp_xS
  split <;> simp [u2, h]
/-- cells of other regions hold the same, where only regions of this one are put -/
theorem dp_frX {E : dp_E} {M M' : dp_M} {r' c' : Nat} (hm : (r', c') ∈ dp_ps) (h1 : r' < 7 → M' r' = M r' ∧ M' (r' + 20) = M (r' + 20)) (h2 : r' = 7 → M' 7 = M 7) (h3 : r' = 8 → M' 8 = M 8 ∧ M' 9 = M 9 ∧ M' 10 = M 10 ∧ ∀ j, M' (40 + j) = M (40 + j)) : dp_x E M' r' c' = dp_x E M r' c' := by
  rcases dp_mem.mp hm with ⟨a, -⟩ | ⟨rfl, -⟩ | ⟨rfl, -⟩
  · rw [dp_x_S a, dp_x_S a, (h1 a).1, (h1 a).2]
  · rw [dp_x_C, dp_x_C]
    unfold dp_xC
    rw [h2 rfl]
  · obtain ⟨e8, e9, e10, e40⟩ := h3 rfl
    rw [dp_x_M, dp_x_M]
    unfold dp_xM
    simp only [e8, e9, e10, e40]
theorem dp_frS {E : dp_E} {M : dp_M} {V Y : dp_V} {r c k : Nat} {x : Int} (hr : r < 7) : ∀ r' c', (r', c') ∈ dp_ps → (r', c') ≠ (r, c) → dp_x E (dS M r (u2 V c k x) Y) r' c' = dp_x E (dS M r V Y) r' c' := by
  intro r' c' hm hne
  by_cases e : r' = r
  · subst e
    rw [dp_x_S hr, dp_x_S hr, dS_V, dS_V, dS_Y, dS_Y, dp_xS_u2 (fun q => hne (by rw [q]))]
  · refine dp_frX hm (fun h => ?_) (fun h => ?_) (fun h => ?_)
    · rw [dS_ne e (by omega), dS_ne e (by omega), dS_ne (by omega) (by omega), dS_ne (by omega) (by omega)]
      exact ⟨rfl, rfl⟩
    · subst h
      rw [dS_ne e (by omega), dS_ne e (by omega)]
    · subst h
      refine ⟨by rw [dS_ne (by omega) (by omega), dS_ne (by omega) (by omega)], by rw [dS_ne (by omega) (by omega), dS_ne (by omega) (by omega)], by rw [dS_ne (by omega) (by omega), dS_ne (by omega) (by omega)], fun j => by rw [dS_ne (by omega) (by omega), dS_ne (by omega) (by omega)]⟩
theorem dp_frY {E : dp_E} {M : dp_M} {V Y : dp_V} {r c k : Nat} {x : Int} (hr : r < 7) : ∀ r' c', (r', c') ∈ dp_ps → (r', c') ≠ (r, c) → dp_x E (dS M r V (u2 Y c k x)) r' c' = dp_x E (dS M r V Y) r' c' := by
  intro r' c' hm hne
  by_cases e : r' = r
  · subst e
    rw [dp_x_S hr, dp_x_S hr, dS_V, dS_V, dS_Y, dS_Y, dp_xS_w2 (fun q => hne (by rw [q]))]
  · refine dp_frX hm (fun h => ?_) (fun h => ?_) (fun h => ?_)
    · rw [dS_ne e (by omega), dS_ne e (by omega), dS_ne (by omega) (by omega), dS_ne (by omega) (by omega)]
      exact ⟨rfl, rfl⟩
    · subst h
      rw [dS_ne e (by omega), dS_ne e (by omega)]
    · subst h
      refine ⟨by rw [dS_ne (by omega) (by omega), dS_ne (by omega) (by omega)], by rw [dS_ne (by omega) (by omega), dS_ne (by omega) (by omega)], by rw [dS_ne (by omega) (by omega), dS_ne (by omega) (by omega)], fun j => by rw [dS_ne (by omega) (by omega), dS_ne (by omega) (by omega)]⟩
theorem dp_frC {E : dp_E} {M : dp_M} {c k : Nat} {x : Int} : ∀ r' c', (r', c') ∈ dp_ps → (r', c') ≠ (7, c) → dp_x E (dR M 7 (u2 (M 7) c k x)) r' c' = dp_x E M r' c' := by
  intro r' c' hm hne
  by_cases e : r' = 7
  · subst e
    have hc : c' ≠ c := fun q => hne (by rw [q])
    have hl : c' < 6 := by
      rcases dp_mem.mp hm with ⟨a, -⟩ | ⟨-, b⟩ | ⟨a, -⟩
      · omega
      · exact b
      · omega
    rw [dp_x_C, dp_x_C]
    unfold dp_xC
    rw [dR_same]
    rcases (by omega : c' = 0 ∨ c' = 1 ∨ c' = 2 ∨ c' = 3 ∨ c' = 4 ∨ c' = 5) with rfl | rfl | rfl | rfl | rfl | rfl
    · rfl
    all_goals simp only [u2_ne hc]
  · refine dp_frX hm (fun h => ?_) (fun h => absurd h e) (fun h => ?_)
    · rw [dR_ne e, dR_ne (by omega)]
      exact ⟨rfl, rfl⟩
    · rw [dR_ne (by omega), dR_ne (by omega), dR_ne (by omega)]
      exact ⟨rfl, rfl, rfl, fun j => dR_ne (by omega)⟩
theorem dp_frN {E : dp_E} {M : dp_M} {V X : dp_V} {c k : Nat} {x : Int} (hc0 : c = 0 ∨ c = 4 ∨ c = 5) : ∀ r' c', (r', c') ∈ dp_ps → (r', c') ≠ (8, c) → dp_x E (dN M V (u2 X c k x)) r' c' = dp_x E (dN M V X) r' c' := by
  intro r' c' hm hne
  by_cases e : r' = 8
  · subst e
    have hc : c' ≠ c := fun q => hne (by rw [q])
    have hl : c' < 6 := by
      rcases dp_mem.mp hm with ⟨a, -⟩ | ⟨a, -⟩ | ⟨-, b⟩
      · omega
      · omega
      · exact b
    rw [dp_x_M, dp_x_M]
    unfold dp_xM
    have e10 : dN M V (u2 X c k x) 10 = dN M V X 10 := by rw [dN_ne (by omega) (by omega), dN_ne (by omega) (by omega)]
    have e40 : ∀ j, dN M V (u2 X c k x) (40 + j) = dN M V X (40 + j) := fun j => by rw [dN_ne (by omega) (by omega), dN_ne (by omega) (by omega)]
    rw [dN_X, dN_X, dN_V, dN_V]
    rcases (by omega : c' = 0 ∨ c' = 1 ∨ c' = 2 ∨ c' = 3 ∨ c' = 4 ∨ c' = 5) with rfl | rfl | rfl | rfl | rfl | rfl
    · simp only [u2_ne hc]
    · rfl
    · simp only [e40]
    · simp only [e10]
    · simp only [u2_ne hc]
    · simp only [u2_ne hc]
  · refine dp_frX hm (fun h => ?_) (fun h => ?_) (fun h => absurd h e)
    · rw [dN_ne (by omega) (by omega), dN_ne (by omega) (by omega), dN_ne (by omega) (by omega), dN_ne (by omega) (by omega)]
      exact ⟨rfl, rfl⟩
    · rw [dN_ne (by omega) (by omega), dN_ne (by omega) (by omega)]
/-- the reference's numbers put: no other cell holds them -/
theorem dp_frM {E : dp_E} {M : dp_M} {V V' X : dp_V} : ∀ r' c', (r', c') ∈ dp_ps → (r', c') ≠ (8, 1) → dp_x E (dN M V' X) r' c' = dp_x E (dN M V X) r' c' := by
  intro r' c' hm hne
  by_cases e : r' = 8
  · subst e
    have hc : c' ≠ 1 := fun q => hne (by rw [q])
    have hl : c' < 6 := by
      rcases dp_mem.mp hm with ⟨a, -⟩ | ⟨a, -⟩ | ⟨-, b⟩
      · omega
      · omega
      · exact b
    rw [dp_x_M, dp_x_M]
    unfold dp_xM
    have e10 : dN M V' X 10 = dN M V X 10 := by rw [dN_ne (by omega) (by omega), dN_ne (by omega) (by omega)]
    have e40 : ∀ j, dN M V' X (40 + j) = dN M V X (40 + j) := fun j => by rw [dN_ne (by omega) (by omega), dN_ne (by omega) (by omega)]
    rw [dN_X, dN_X, dN_V, dN_V]
    rcases (by omega : c' = 0 ∨ c' = 2 ∨ c' = 3 ∨ c' = 4 ∨ c' = 5) with rfl | rfl | rfl | rfl | rfl
    · rfl
    · simp only [e40]
    · simp only [e10]
    · rfl
    · rfl
  · refine dp_frX hm (fun h => ?_) (fun h => ?_) (fun h => absurd h e)
    · rw [dN_ne (by omega) (by omega), dN_ne (by omega) (by omega), dN_ne (by omega) (by omega), dN_ne (by omega) (by omega)]
      exact ⟨rfl, rfl⟩
    · rw [dN_ne (by omega) (by omega), dN_ne (by omega) (by omega)]
theorem dp_f7_set {f : Nat → Int} {k : Nat} (h : k < 7) (x : Int) : dp_f7 (u1 f k x) = (dp_f7 f).set k (.int (dp_I x)) := by
  rcases (by omega : k = 0 ∨ k = 1 ∨ k = 2 ∨ k = 3 ∨ k = 4 ∨ k = 5 ∨ k = 6) with rfl | rfl | rfl | rfl | rfl | rfl | rfl <;> rfl
theorem dp_f14_set {f : Nat → Int} {k : Nat} (h : k < 14) (x : Int) : dp_f14 (u1 f k x) = (dp_f14 f).set k (.int (dp_I x)) := by
  rcases (by omega : k = 0 ∨ k = 1 ∨ k = 2 ∨ k = 3 ∨ k = 4 ∨ k = 5 ∨ k = 6 ∨ k = 7 ∨ k = 8 ∨ k = 9 ∨ k = 10 ∨ k = 11 ∨ k = 12 ∨ k = 13) with rfl | rfl | rfl | rfl | rfl | rfl | rfl | rfl | rfl | rfl | rfl | rfl | rfl | rfl <;> rfl
theorem dp_f7_at {f : Nat → Int} {k : Nat} (h : k < 7) : (dp_f7 f)[k]? = some (.int (dp_I (f k))) := by
  rcases (by omega : k = 0 ∨ k = 1 ∨ k = 2 ∨ k = 3 ∨ k = 4 ∨ k = 5 ∨ k = 6) with rfl | rfl | rfl | rfl | rfl | rfl | rfl <;> rfl
theorem dp_xax {E : dp_E} {M : dp_M} {V Y : dp_V} {r c : Nat} (h : r < 7) (hc : c = 3 ∨ c = 4) : dp_x E (dS M r V Y) r c = .inr (0, dp_fA c (V c)) := by
  rw [dp_x_S h, dS_V]
  rcases hc with rfl | rfl <;> rfl
theorem dp_xtg {E : dp_E} {M : dp_M} {V Y : dp_V} {r t : Nat} (h : r < 7) (ht : t < 10) : dp_x E (dS M r V Y) r (t + 6) = .inr (3, dp_f14 (V (t + 6))) := by
  rw [dp_x_S h, dS_V]
  exact if_pos ht
theorem dp_xwy {E : dp_E} {M : dp_M} {V Y : dp_V} {r c : Nat} (h : r < 7) (hc : c = 16 ∨ c = 17 ∨ c = 18) : dp_x E (dS M r V Y) r c = .inr (5, dp_f7 (Y c)) := by
  rw [dp_x_S h, dS_V, dS_Y]
  rcases hc with rfl | rfl | rfl <;> rfl
theorem dp_xst {E : dp_E} {M : dp_M} {V Y : dp_V} {r : Nat} (h : r < 7) : dp_x E (dS M r V Y) r 0 = .inr (2, dp_fS E r (V 0)) := by
  rw [dp_x_S h, dS_V]
  rfl
theorem dp_xse {E : dp_E} {M : dp_M} {V Y : dp_V} {r : Nat} (h : r < 7) : dp_x E (dS M r V Y) r 1 = dp_ints (eI E) 4 (V 1) := by
  rw [dp_x_S h, dS_V]
  rfl
theorem dp_xgu {E : dp_E} {M : dp_M} {V Y : dp_V} {r : Nat} (h : r < 7) : dp_x E (dS M r V Y) r 2 = dp_ints (eI E) 31 (V 2) := by
  rw [dp_x_S h, dS_V]
  rfl
theorem dp_xta {E : dp_E} {M : dp_M} {V Y : dp_V} {r : Nat} (h : r < 7) : dp_x E (dS M r V Y) r 5 = dp_refs (eT E) 10 (fun t => eAd E r (t + 6)) := by
  rw [dp_x_S h]
  rfl
theorem dp_xst0 {E : dp_E} {M : dp_M} {r : Nat} (h : r < 7) : dp_x E M r 0 = .inr (2, dp_fS E r (M r 0)) := by
  rw [dp_x_S h]
  rfl
theorem dp_xhi {E : dp_E} {M : dp_M} {V : dp_V} (hV : M 7 = V) : dp_x E M 7 1 = .inr (1, dp_fH E (V 1)) := by
  subst hV
  rfl
theorem dp_xtx {E : dp_E} {M : dp_M} {V : dp_V} (hV : M 7 = V) : dp_x E M 7 3 = .inr (4, dp_fX E (V 3)) := by
  subst hV
  rfl
theorem dp_xdp {E : dp_E} {M : dp_M} : dp_x E M 7 0 = .inr (6, dp_fD E) := rfl
theorem dp_xmo {E : dp_E} {M : dp_M} {V X : dp_V} : dp_x E (dN M V X) 8 0 = .inr (7, dp_fM E (X 0)) := by
  rw [dp_x_M]
  unfold dp_xM
  rw [dN_X]
  rfl
theorem dp_xms {E : dp_E} {M : dp_M} {V X : dp_V} : dp_x E (dN M V X) 8 1 = dp_ints (eI E) 193 (dp_fl V) := by
  rw [dp_x_M]
  unfold dp_xM
  rw [dN_V]
  rfl
theorem dp_xmt {E : dp_E} {M : dp_M} {V X : dp_V} : dp_x E (dN M V X) 8 4 = dp_ints (eI E) 100 (X 4) := by
  rw [dp_x_M]
  unfold dp_xM
  rw [dN_X]
  rfl
theorem dp_xmp {E : dp_E} {M : dp_M} {V X : dp_V} : dp_x E (dN M V X) 8 5 = dp_ints (eI E) 6 (X 5) := by
  rw [dp_x_M]
  unfold dp_xM
  rw [dN_X]
  rfl
theorem dp_cA {c : Nat} (h : c = 3 ∨ c = 4) : c < 19 := by omega
theorem dp_cW {c : Nat} (h : c = 16 ∨ c = 17 ∨ c = 18) : c < 19 := by omega
theorem dp_cT {t : Nat} (h : t < 10) : t + 6 < 19 := by omega
theorem dp_putA (C : dp_C E A p s m args meth co cc own nL Ts) {r c : Nat} (hr : r < 7) (hc : c = 3 ∨ c = 4) {V Y : dp_V} {k i : Nat} {x : Int} {ty : FieldType} (hin : ∀ w ∈ u_ws RX0 TX0 10, w ∈ Ts) (hk : k < 7) (hl : Cond.fieldLink own i (TX0 (k + 3)).1 (TX0 (k + 3)).2.1 (TX0 (k + 3)).2.2.1 ∈ Ts) (hfin : (TX0 (k + 3)).2.2.2 = false) (hd0 : parseFieldDescriptor (TX0 (k + 3)).2.2.1 = some ty) (hn : narrow ty (.int (dp_I x)) = .int (dp_I x)) (hfit : fits ty (.int (dp_I x)) = true) (hd : decode cc pc = .ok (.putfield i, 3)) (k9 : dp_G E A p l e R s m args below meth co ce sl Q (dS M r (u2 V c k x) Y) (pc + 3) L st) : dp_G E A p l e R s m args below meth co ce sl Q (dS M r V Y) pc L (.int (dp_I x) :: .ref (eAd E (r) (c)) :: st) := by
  refine dp_putf C (k := k + 3) (fs := dp_fA c (V c)) (dp_mS hr (dp_cA hc)) (dp_xax hr hc) rfl hin tyX0 tyX0_ok nmX0 (by omega) hl hfin hd0 hn hfit (by show k + 3 < 10; omega) ?_ (dp_frS hr) hd k9
  rw [dp_xax hr hc, u2_same]
  show (_ : va_E) = Sum.inr (0, _ :: _ :: _ :: (dp_f7 (V c)).set k _)
  rw [← dp_f7_set hk]
  rfl
theorem dp_putT (C : dp_C E A p s m args meth co cc own nL Ts) {r t : Nat} (hr : r < 7) (ht : t < 10) {V Y : dp_V} {k i : Nat} {x : Int} {ty : FieldType} (hin : ∀ w ∈ u_ws RX3 TX3 14, w ∈ Ts) (hk : k < 14) (hl : Cond.fieldLink own i (TX3 (k)).1 (TX3 (k)).2.1 (TX3 (k)).2.2.1 ∈ Ts) (hfin : (TX3 (k)).2.2.2 = false) (hd0 : parseFieldDescriptor (TX3 (k)).2.2.1 = some ty) (hn : narrow ty (.int (dp_I x)) = .int (dp_I x)) (hfit : fits ty (.int (dp_I x)) = true) (hd : decode cc pc = .ok (.putfield i, 3)) (k9 : dp_G E A p l e R s m args below meth co ce sl Q (dS M r (u2 V (t + 6) k x) Y) (pc + 3) L st) : dp_G E A p l e R s m args below meth co ce sl Q (dS M r V Y) pc L (.int (dp_I x) :: .ref (eAd E (r) (t + 6)) :: st) := by
  refine dp_putf C (k := k) (fs := dp_f14 (V (t + 6))) (dp_mS hr (dp_cT ht)) (dp_xtg hr ht) rfl hin tyX3 tyX3_ok nmX3 (by omega) hl hfin hd0 hn hfit (by show k < 14; omega) ?_ (dp_frS hr) hd k9
  rw [dp_xtg hr ht, u2_same, dp_f14_set hk]
theorem dp_putW (C : dp_C E A p s m args meth co cc own nL Ts) {r c : Nat} (hr : r < 7) (hc : c = 16 ∨ c = 17 ∨ c = 18) {V Y : dp_V} {k i : Nat} {x : Int} {ty : FieldType} (hin : ∀ w ∈ u_ws RX5 TX5 7, w ∈ Ts) (hk : k < 7) (hl : Cond.fieldLink own i (TX5 (k)).1 (TX5 (k)).2.1 (TX5 (k)).2.2.1 ∈ Ts) (hfin : (TX5 (k)).2.2.2 = false) (hd0 : parseFieldDescriptor (TX5 (k)).2.2.1 = some ty) (hn : narrow ty (.int (dp_I x)) = .int (dp_I x)) (hfit : fits ty (.int (dp_I x)) = true) (hd : decode cc pc = .ok (.putfield i, 3)) (k9 : dp_G E A p l e R s m args below meth co ce sl Q (dS M r V (u2 Y c k x)) (pc + 3) L st) : dp_G E A p l e R s m args below meth co ce sl Q (dS M r V Y) pc L (.int (dp_I x) :: .ref (eAd E (r) (c)) :: st) := by
  refine dp_putf C (k := k) (fs := dp_f7 (Y c)) (dp_mS hr (dp_cW hc)) (dp_xwy hr hc) rfl hin tyX5 tyX5_ok nmX5 (by omega) hl hfin hd0 hn hfit (by show k < 7; omega) ?_ (dp_frY hr) hd k9
  rw [dp_xwy hr hc, u2_same, dp_f7_set hk]
theorem dp_putS (C : dp_C E A p s m args meth co cc own nL Ts) {r : Nat} (hr : r < 7) {V Y : dp_V} {k i : Nat} {x : Int} {ty : FieldType} (hin : ∀ w ∈ u_ws RX2 TX2 11, w ∈ Ts) (hk : k < 3) (hl : Cond.fieldLink own i (TX2 (k)).1 (TX2 (k)).2.1 (TX2 (k)).2.2.1 ∈ Ts) (hfin : (TX2 (k)).2.2.2 = false) (hd0 : parseFieldDescriptor (TX2 (k)).2.2.1 = some ty) (hn : narrow ty (.int (dp_I x)) = .int (dp_I x)) (hfit : fits ty (.int (dp_I x)) = true) (hd : decode cc pc = .ok (.putfield i, 3)) (k9 : dp_G E A p l e R s m args below meth co ce sl Q (dS M r (u2 V 0 k x) Y) (pc + 3) L st) : dp_G E A p l e R s m args below meth co ce sl Q (dS M r V Y) pc L (.int (dp_I x) :: .ref (eAd E (r) (0)) :: st) := by
  refine dp_putf C (k := k) (fs := dp_fS E r (V 0)) (dp_mS hr (by omega)) (dp_xst hr) rfl hin tyX2 tyX2_ok nmX2 (by omega) hl hfin hd0 hn hfit (by show k < 11; omega) ?_ (dp_frS hr) hd k9
  rw [dp_xst hr, u2_same]
  rcases (by omega : k = 0 ∨ k = 1 ∨ k = 2) with rfl | rfl | rfl <;> rfl
theorem dp_putH (C : dp_C E A p s m args meth co cc own nL Ts)  {V Y : dp_V} {k i : Nat} {x : Int} {ty : FieldType} (hin : ∀ w ∈ u_ws RX1 TX1 2, w ∈ Ts) (hk : k < 1) (hl : Cond.fieldLink own i (TX1 (k + 1)).1 (TX1 (k + 1)).2.1 (TX1 (k + 1)).2.2.1 ∈ Ts) (hfin : (TX1 (k + 1)).2.2.2 = false) (hd0 : parseFieldDescriptor (TX1 (k + 1)).2.2.1 = some ty) (hn : narrow ty (.int (dp_I x)) = .int (dp_I x)) (hfit : fits ty (.int (dp_I x)) = true) (hd : decode cc pc = .ok (.putfield i, 3)) (k9 : dp_G E A p l e R s m args below meth co ce sl Q (dR M 7 (u2 (M 7) 1 k x)) (pc + 3) L st) : dp_G E A p l e R s m args below meth co ce sl Q (M) pc L (.int (dp_I x) :: .ref (eAd E (7) (1)) :: st) := by
  refine dp_putf C (k := k + 1) (fs := dp_fH E (M 7 1)) (dp_mC (by omega)) (dp_xhi rfl) rfl hin tyX1 tyX1_ok nmX1 (by omega) hl hfin hd0 hn hfit (by show k + 1 < 2; omega) ?_ dp_frC hd k9
  rw [dp_xhi (dR_same _ _ _), u2_same]
  rcases (by omega : k = 0) with rfl
  rfl
theorem dp_putX (C : dp_C E A p s m args meth co cc own nL Ts)  {V Y : dp_V} {k i : Nat} {x : Int} {ty : FieldType} (hin : ∀ w ∈ u_ws RX4 TX4 6, w ∈ Ts) (hk : k < 4) (hl : Cond.fieldLink own i (TX4 (if k = 0 then 1 else k + 2)).1 (TX4 (if k = 0 then 1 else k + 2)).2.1 (TX4 (if k = 0 then 1 else k + 2)).2.2.1 ∈ Ts) (hfin : (TX4 (if k = 0 then 1 else k + 2)).2.2.2 = false) (hd0 : parseFieldDescriptor (TX4 (if k = 0 then 1 else k + 2)).2.2.1 = some ty) (hn : narrow ty (.int (dp_I x)) = .int (dp_I x)) (hfit : fits ty (.int (dp_I x)) = true) (hd : decode cc pc = .ok (.putfield i, 3)) (k9 : dp_G E A p l e R s m args below meth co ce sl Q (dR M 7 (u2 (M 7) 3 k x)) (pc + 3) L st) : dp_G E A p l e R s m args below meth co ce sl Q (M) pc L (.int (dp_I x) :: .ref (eAd E (7) (3)) :: st) := by
  refine dp_putf C (k := if k = 0 then 1 else k + 2) (fs := dp_fX E (M 7 3)) (dp_mC (by omega)) (dp_xtx rfl) rfl hin tyX4 tyX4_ok nmX4 (by split <;> omega) hl hfin hd0 hn hfit (by show (if k = 0 then 1 else k + 2) < 6; split <;> omega) ?_ dp_frC hd k9
  rw [dp_xtx (dR_same _ _ _), u2_same]
  rcases (by omega : k = 0 ∨ k = 1 ∨ k = 2 ∨ k = 3) with rfl | rfl | rfl | rfl <;> rfl
def dp_km (k : Nat) : Nat := match k with
  | 0 => 3
  | 1 => 5
  | 2 => 6
  | 3 => 7
  | 4 => 8
  | 5 => 9
  | _ => 11
theorem dp_km_lt (k : Nat) : dp_km k < 12 := by
  unfold dp_km
  split <;> omega
theorem dp_putM (C : dp_C E A p s m args meth co cc own nL Ts) {X : dp_V} {V Y : dp_V} {k i : Nat} {x : Int} {ty : FieldType} (hin : ∀ w ∈ u_ws RX7 TX7 12, w ∈ Ts) (hk : k < 7) (hl : Cond.fieldLink own i (TX7 (dp_km k)).1 (TX7 (dp_km k)).2.1 (TX7 (dp_km k)).2.2.1 ∈ Ts) (hfin : (TX7 (dp_km k)).2.2.2 = false) (hd0 : parseFieldDescriptor (TX7 (dp_km k)).2.2.1 = some ty) (hn : narrow ty (.int (dp_I x)) = .int (dp_I x)) (hfit : fits ty (.int (dp_I x)) = true) (hd : decode cc pc = .ok (.putfield i, 3)) (k9 : dp_G E A p l e R s m args below meth co ce sl Q (dN M V (u2 X 0 k x)) (pc + 3) L st) : dp_G E A p l e R s m args below meth co ce sl Q (dN M V X) pc L (.int (dp_I x) :: .ref (eAd E (8) (0)) :: st) := by
  refine dp_putf C (k := dp_km k) (fs := dp_fM E (X 0)) (dp_mM (by omega)) dp_xmo rfl hin tyX7 tyX7_ok nmX7 (dp_km_lt k) hl hfin hd0 hn hfit (dp_km_lt k) ?_ (dp_frN (Or.inl rfl)) hd k9
  rw [dp_xmo, u2_same]
  rcases (by omega : k = 0 ∨ k = 1 ∨ k = 2 ∨ k = 3 ∨ k = 4 ∨ k = 5 ∨ k = 6) with rfl | rfl | rfl | rfl | rfl | rfl | rfl <;> rfl
theorem dp_asS (r : Nat) (k : dp_G E A p l e R s m args below meth co ce sl Q (dS M r (M r) (M (r + 20))) pc L st) : dp_G E A p l e R s m args below meth co ce sl Q M pc L st := by
  rw [dS_self] at k
  exact k
theorem dp_asN (k : dp_G E A p l e R s m args below meth co ce sl Q (dN M (M 9) (M 8)) pc L st) : dp_G E A p l e R s m args below meth co ce sl Q M pc L st := by
  rw [dN_self] at k
  exact k
end DM
end
section
section DC
variable {E : dp_E} {A : Nat → Prop} {p : Program} {l : Launch} {e : Env} {R : Room} {s : State} {m : MethodId} {args : Array Value} {below : List Frame} {meth : Method} {co : Code} {ce sl : Nat} {Q : State → Prop} {cc : ByteArray} {own : String} {nL : Nat} {Ts : List Cond} {M : dp_M} {pc : Nat} {L : List (Option Value)} {st : List Value}
theorem dp_iald (C : dp_C E A p s m args meth co cc own nL Ts) {r c n j : Nat} {f : Nat → Int} {i : Int} (hm : (r, c) ∈ dp_ps) (hx : dp_x E M r c = dp_ints (eI E) n f) (hi : 0 ≤ i ∧ i < n) (hn : n < 2147483648) (hj : i.toNat = j) (hd : decode cc pc = .ok (.iaload, 1)) (k : dp_G E A p l e R s m args below meth co ce sl Q M (pc + 1) L (.int (dp_I (f j)) :: st)) : dp_G E A p l e R s m args below meth co ce sl Q M pc L (.int (dp_I i) :: .ref (eAd E r c) :: st) := fun H locs ls hW hS hL => by
  obtain ⟨q0, hq⟩ := List.getElem?_of_mem hm
  subst hj
  refine va_iald C.1.1 C.1.2.1 C.2.2.2.2.1 hW.P q0 0 (cA := eI E) (n := n) (f := fun j => dp_I (f j)) (by rw [dp_ws_at hq, hx]; rfl) rfl (dp_in hi.1 hi.2 hn) hd ?_
  rw [dp_I_nat hi.1 (by omega)]
  exact k H locs ls hW hS hL
theorem dp_cald (C : dp_C E A p s m args meth co cc own nL Ts) {r c n j : Nat} {f : Nat → Int} {i : Int} (hm : (r, c) ∈ dp_ps) (hx : dp_x E M r c = dp_ints (eC E) n f) (hi : 0 ≤ i ∧ i < n) (hn : n < 2147483648) (hj : i.toNat = j) (hd : decode cc pc = .ok (.caload, 1)) (k : dp_G E A p l e R s m args below meth co ce sl Q M (pc + 1) L (.int (dp_I (f j)) :: st)) : dp_G E A p l e R s m args below meth co ce sl Q M pc L (.int (dp_I i) :: .ref (eAd E r c) :: st) := fun H locs ls hW hS hL => by
  obtain ⟨q0, hq⟩ := List.getElem?_of_mem hm
  subst hj
  refine va_cald C.1.1 C.1.2.1 C.2.2.2.2.1 hW.P q0 1 (cA := eC E) (n := n) (f := fun j => dp_I (f j)) (by rw [dp_ws_at hq, hx]; rfl) rfl (dp_in hi.1 hi.2 hn) hd ?_
  rw [dp_I_nat hi.1 (by omega)]
  exact k H locs ls hW hS hL
theorem dp_ald_se (C : dp_C E A p s m args meth co cc own nL Ts) {r : Nat} {V Y : dp_V} (hr : r < 7) {j : Nat} {i : Int} (hi : 0 ≤ i ∧ i < 4) (hj : i.toNat = j) (hd : decode cc pc = .ok (.iaload, 1)) (k : dp_G E A p l e R s m args below meth co ce sl Q (dS M r V Y) (pc + 1) L (.int (dp_I (V 1 j)) :: st)) : dp_G E A p l e R s m args below meth co ce sl Q (dS M r V Y) pc L (.int (dp_I i) :: .ref (eAd E r 1) :: st) := dp_iald C (dp_mS hr (by decide)) (dp_xse hr) ⟨hi.1, by omega⟩ (by decide) hj hd k
theorem dp_ald_gu (C : dp_C E A p s m args meth co cc own nL Ts) {r : Nat} {V Y : dp_V} (hr : r < 7) {j : Nat} {i : Int} (hi : 0 ≤ i ∧ i < 31) (hj : i.toNat = j) (hd : decode cc pc = .ok (.iaload, 1)) (k : dp_G E A p l e R s m args below meth co ce sl Q (dS M r V Y) (pc + 1) L (.int (dp_I (V 2 j)) :: st)) : dp_G E A p l e R s m args below meth co ce sl Q (dS M r V Y) pc L (.int (dp_I i) :: .ref (eAd E r 2) :: st) := dp_iald C (dp_mS hr (by decide)) (dp_xgu hr) ⟨hi.1, by omega⟩ (by decide) hj hd k
theorem dp_ald_nu (C : dp_C E A p s m args meth co cc own nL Ts)  {j : Nat} {i : Int} (hi : 0 ≤ i ∧ i < 6) (hj : i.toNat = j) (hd : decode cc pc = .ok (.iaload, 1)) (k : dp_G E A p l e R s m args below meth co ce sl Q (M) (pc + 1) L (.int (dp_I (M 7 5 j)) :: st)) : dp_G E A p l e R s m args below meth co ce sl Q (M) pc L (.int (dp_I i) :: .ref (eAd E 7 5) :: st) := dp_iald C (dp_mC (by decide)) (n := 6) (f := M 7 5) rfl ⟨hi.1, by omega⟩ (by decide) hj hd k
theorem dp_ald_sg (C : dp_C E A p s m args meth co cc own nL Ts)  {j : Nat} {i : Int} (hi : 0 ≤ i ∧ i < 100) (hj : i.toNat = j) (hd : decode cc pc = .ok (.caload, 1)) (k : dp_G E A p l e R s m args below meth co ce sl Q (M) (pc + 1) L (.int (dp_I (M 7 4 j)) :: st)) : dp_G E A p l e R s m args below meth co ce sl Q (M) pc L (.int (dp_I i) :: .ref (eAd E 7 4) :: st) := dp_cald C (dp_mC (by decide)) (n := 100) (f := M 7 4) rfl ⟨hi.1, by omega⟩ (by decide) hj hd k
theorem dp_ald_mt (C : dp_C E A p s m args meth co cc own nL Ts) {V X : dp_V} {j : Nat} {i : Int} (hi : 0 ≤ i ∧ i < 100) (hj : i.toNat = j) (hd : decode cc pc = .ok (.iaload, 1)) (k : dp_G E A p l e R s m args below meth co ce sl Q (dN M V X) (pc + 1) L (.int (dp_I (X 4 j)) :: st)) : dp_G E A p l e R s m args below meth co ce sl Q (dN M V X) pc L (.int (dp_I i) :: .ref (eAd E 8 4) :: st) := dp_iald C (dp_mM (by decide)) dp_xmt ⟨hi.1, by omega⟩ (by decide) hj hd k
theorem dp_ald_mp (C : dp_C E A p s m args meth co cc own nL Ts) {V X : dp_V} {j : Nat} {i : Int} (hi : 0 ≤ i ∧ i < 6) (hj : i.toNat = j) (hd : decode cc pc = .ok (.iaload, 1)) (k : dp_G E A p l e R s m args below meth co ce sl Q (dN M V X) (pc + 1) L (.int (dp_I (X 5 j)) :: st)) : dp_G E A p l e R s m args below meth co ce sl Q (dN M V X) pc L (.int (dp_I i) :: .ref (eAd E 8 5) :: st) := dp_iald C (dp_mM (by decide)) dp_xmp ⟨hi.1, by omega⟩ (by decide) hj hd k
theorem dp_ald_ms (C : dp_C E A p s m args meth co cc own nL Ts) {V X : dp_V} {j c9 k9 : Nat} {i : Int} (hi : 0 ≤ i ∧ i < 193) (hj : i.toNat = j) (hc : dp_ce j = c9) (hk : dp_sl j = k9) (hd : decode cc pc = .ok (.iaload, 1)) (k : dp_G E A p l e R s m args below meth co ce sl Q (dN M V X) (pc + 1) L (.int (dp_I (V c9 k9)) :: st)) : dp_G E A p l e R s m args below meth co ce sl Q (dN M V X) pc L (.int (dp_I i) :: .ref (eAd E 8 1) :: st) := by
  subst hc
  subst hk
  exact dp_iald C (dp_mM (by decide)) dp_xms ⟨hi.1, by omega⟩ (by decide) hj hd k
theorem dp_ints_upd {k : ClassId} {n : Nat} {f : Nat → Int} {i : Int} {x : Int} (h0 : 0 ≤ i) (h1 : i < 2147483648) : dp_ints k n (u1 f i.toNat x) = .inl (k, n, .inl (upd (fun j => dp_I (f j)) (dp_I i).toNatClampNeg (dp_I x))) := by
  unfold dp_ints
  rw [dp_I_nat h0 h1]
  congr 3
  congr 1
  funext j
  unfold u1 upd
  split <;> rfl
theorem dp_iast (C : dp_C E A p s m args meth co cc own nL Ts) {r c n : Nat} {f : Nat → Int} {i x : Int} {M' : dp_M} (hm : (r, c) ∈ dp_ps) (hx : dp_x E M r c = dp_ints (eI E) n f) (hi : 0 ≤ i ∧ i < n) (hn : n < 2147483648) (hx' : dp_x E M' r c = dp_ints (eI E) n (u1 f i.toNat x)) (hf : ∀ r' c', (r', c') ∈ dp_ps → (r', c') ≠ (r, c) → dp_x E M' r' c' = dp_x E M r' c') (hd : decode cc pc = .ok (.iastore, 1)) (k : dp_G E A p l e R s m args below meth co ce sl Q M' (pc + 1) L st) : dp_G E A p l e R s m args below meth co ce sl Q M pc L (.int (dp_I x) :: .int (dp_I i) :: .ref (eAd E r c) :: st) := fun H locs ls hW hS hL => by
  obtain ⟨q0, hq⟩ := List.getElem?_of_mem hm
  refine va_iast C.1.1 C.1.2.1 C.2.2.2.2.1 hW.P (dp_D C.2.2.1 C.2.2.2.1) hS q0 0 (cA := eI E) (n := n) (f := fun j => dp_I (f j)) (by rw [dp_ws_at hq, hx]; rfl) rfl (dp_in hi.1 hi.2 hn) hd (fun H1 locs1 hP hD hS1 => k H1 locs1 ls ?_ hS1 hL)
  exact dp_W.of_set hq hP (hx'.trans (dp_ints_upd hi.1 (by omega))) hf
theorem dp_nc {x : Int} (h0 : 0 ≤ x) (h1 : x < 65536) : narrow .char (.int (dp_I x)) = .int (dp_I x) := by
  show Value.int _ = Value.int _
  congr 1
  apply Int32.toBitVec_inj.mp
  apply BitVec.eq_of_toNat_eq
  have e : (dp_I x).toBitVec.toNat = x.toNat := by
    show (BitVec.ofInt 32 x).toNat = _
    rw [BitVec.toNat_ofInt]
    omega
  have e2 : (dp_I x).toUInt32.toUInt16.toUInt32.toInt32.toBitVec.toNat = ((dp_I x).toBitVec.toNat % 65536) := by
    show (((dp_I x).toBitVec.setWidth 16).setWidth 32).toNat = _
    rw [BitVec.toNat_setWidth, BitVec.toNat_setWidth]
    omega
  rw [e2, e]
  omega
theorem dp_nb {P : Prop} {_ : Decidable P} : narrow .boolean (.int (dp_I (dp_b P))) = .int (dp_I (dp_b P)) := by
  unfold dp_b
  by_cases h : P
  · rw [if_pos h]; decide
  · rw [if_neg h]; decide
theorem dp_cast (C : dp_C E A p s m args meth co cc own nL Ts) {r c n : Nat} {f : Nat → Int} {i x : Int} {M' : dp_M} (hm : (r, c) ∈ dp_ps) (hx : dp_x E M r c = dp_ints (eC E) n f) (hi : 0 ≤ i ∧ i < n) (hn : n < 2147483648) (h0 : 0 ≤ x ∧ x < 65536) (hx' : dp_x E M' r c = dp_ints (eC E) n (u1 f i.toNat x)) (hf : ∀ r' c', (r', c') ∈ dp_ps → (r', c') ≠ (r, c) → dp_x E M' r' c' = dp_x E M r' c') (hd : decode cc pc = .ok (.castore, 1)) (k : dp_G E A p l e R s m args below meth co ce sl Q M' (pc + 1) L st) : dp_G E A p l e R s m args below meth co ce sl Q M pc L (.int (dp_I x) :: .int (dp_I i) :: .ref (eAd E r c) :: st) := fun H locs ls hW hS hL => by
  obtain ⟨q0, hq⟩ := List.getElem?_of_mem hm
  have hnar : vp_nar .char (dp_I x) = dp_I x := Value.int.inj (dp_nc h0.1 h0.2)
  refine va_cast C.1.1 C.1.2.1 C.2.2.2.2.1 hW.P (dp_D C.2.2.1 C.2.2.2.1) hS q0 1 (cA := eC E) (n := n) (f := fun j => dp_I (f j)) (by rw [dp_ws_at hq, hx]; rfl) rfl (dp_in hi.1 hi.2 hn) hd (fun H1 locs1 hP hD hS1 => k H1 locs1 ls ?_ hS1 hL)
  rw [hnar] at hP
  exact dp_W.of_set hq hP (hx'.trans (dp_ints_upd hi.1 (by omega))) hf
theorem dp_ast_se (C : dp_C E A p s m args meth co cc own nL Ts) {r : Nat} {V Y : dp_V} (hr : r < 7) {j : Nat} {i x : Int} (hi : 0 ≤ i ∧ i < 4)  (hj : i.toNat = j) (hd : decode cc pc = .ok (.iastore, 1)) (k : dp_G E A p l e R s m args below meth co ce sl Q (dS M r (u2 V 1 j x) Y) (pc + 1) L st) : dp_G E A p l e R s m args below meth co ce sl Q (dS M r V Y) pc L (.int (dp_I x) :: .int (dp_I i) :: .ref (eAd E r 1) :: st) := by
  subst hj
  exact dp_iast C (dp_mS hr (by decide)) (dp_xse hr) ⟨hi.1, by omega⟩ (by decide)  (by rw [dp_xse hr, u2_same]) (dp_frS hr) hd k
theorem dp_ast_gu (C : dp_C E A p s m args meth co cc own nL Ts) {r : Nat} {V Y : dp_V} (hr : r < 7) {j : Nat} {i x : Int} (hi : 0 ≤ i ∧ i < 31)  (hj : i.toNat = j) (hd : decode cc pc = .ok (.iastore, 1)) (k : dp_G E A p l e R s m args below meth co ce sl Q (dS M r (u2 V 2 j x) Y) (pc + 1) L st) : dp_G E A p l e R s m args below meth co ce sl Q (dS M r V Y) pc L (.int (dp_I x) :: .int (dp_I i) :: .ref (eAd E r 2) :: st) := by
  subst hj
  exact dp_iast C (dp_mS hr (by decide)) (dp_xgu hr) ⟨hi.1, by omega⟩ (by decide)  (by rw [dp_xgu hr, u2_same]) (dp_frS hr) hd k
theorem dp_ast_nu (C : dp_C E A p s m args meth co cc own nL Ts)  {j : Nat} {i x : Int} (hi : 0 ≤ i ∧ i < 6)  (hj : i.toNat = j) (hd : decode cc pc = .ok (.iastore, 1)) (k : dp_G E A p l e R s m args below meth co ce sl Q (dR M 7 (u2 (M 7) 5 j x)) (pc + 1) L st) : dp_G E A p l e R s m args below meth co ce sl Q (M) pc L (.int (dp_I x) :: .int (dp_I i) :: .ref (eAd E 7 5) :: st) := by
  subst hj
  exact dp_iast C (dp_mC (by decide)) (n := 6) (f := M 7 5) rfl ⟨hi.1, by omega⟩ (by decide)  (by rw [dp_x_C]; unfold dp_xC; simp only [dR_same, u2_same]) dp_frC hd k
theorem dp_cst_sg (C : dp_C E A p s m args meth co cc own nL Ts)  {j : Nat} {i x : Int} (hi : 0 ≤ i ∧ i < 100) (h0 : 0 ≤ x ∧ x < 65536) (hj : i.toNat = j) (hd : decode cc pc = .ok (.castore, 1)) (k : dp_G E A p l e R s m args below meth co ce sl Q (dR M 7 (u2 (M 7) 4 j x)) (pc + 1) L st) : dp_G E A p l e R s m args below meth co ce sl Q (M) pc L (.int (dp_I x) :: .int (dp_I i) :: .ref (eAd E 7 4) :: st) := by
  subst hj
  exact dp_cast C (dp_mC (by decide)) (n := 100) (f := M 7 4) rfl ⟨hi.1, by omega⟩ (by decide) h0 (by rw [dp_x_C]; unfold dp_xC; simp only [dR_same, u2_same]) dp_frC hd k
theorem dp_ast_mt (C : dp_C E A p s m args meth co cc own nL Ts) {V X : dp_V} {j : Nat} {i x : Int} (hi : 0 ≤ i ∧ i < 100)  (hj : i.toNat = j) (hd : decode cc pc = .ok (.iastore, 1)) (k : dp_G E A p l e R s m args below meth co ce sl Q (dN M V (u2 X 4 j x)) (pc + 1) L st) : dp_G E A p l e R s m args below meth co ce sl Q (dN M V X) pc L (.int (dp_I x) :: .int (dp_I i) :: .ref (eAd E 8 4) :: st) := by
  subst hj
  exact dp_iast C (dp_mM (by decide)) dp_xmt ⟨hi.1, by omega⟩ (by decide)  (by rw [dp_xmt, u2_same]) (dp_frN (Or.inr (Or.inl rfl))) hd k
theorem dp_ast_mp (C : dp_C E A p s m args meth co cc own nL Ts) {V X : dp_V} {j : Nat} {i x : Int} (hi : 0 ≤ i ∧ i < 6)  (hj : i.toNat = j) (hd : decode cc pc = .ok (.iastore, 1)) (k : dp_G E A p l e R s m args below meth co ce sl Q (dN M V (u2 X 5 j x)) (pc + 1) L st) : dp_G E A p l e R s m args below meth co ce sl Q (dN M V X) pc L (.int (dp_I x) :: .int (dp_I i) :: .ref (eAd E 8 5) :: st) := by
  subst hj
  exact dp_iast C (dp_mM (by decide)) dp_xmp ⟨hi.1, by omega⟩ (by decide)  (by rw [dp_xmp, u2_same]) (dp_frN (Or.inr (Or.inr rfl))) hd k
theorem dp_fl_put {V : dp_V} {j : Nat} {x : Int} : dp_fl (u2 V (dp_ce j) (dp_sl j) x) = u1 (dp_fl V) j x := by
  funext i
  unfold dp_fl u1 u2
  by_cases h : i = j
  · subst h
    simp [u1]
  · rw [if_neg h]
    by_cases h1 : dp_ce i = dp_ce j
    · rw [if_pos h1]
      unfold u1
      rw [if_neg (fun h2 => h (dp_cs_inj h1 h2)), ← h1]
    · rw [if_neg h1]
theorem dp_ast_ms (C : dp_C E A p s m args meth co cc own nL Ts) {V X : dp_V} {j c9 k9 : Nat} {i x : Int} (hi : 0 ≤ i ∧ i < 193) (hj : i.toNat = j) (hc : dp_ce j = c9) (hk : dp_sl j = k9) (hd : decode cc pc = .ok (.iastore, 1)) (k : dp_G E A p l e R s m args below meth co ce sl Q (dN M (u2 V c9 k9 x) X) (pc + 1) L st) : dp_G E A p l e R s m args below meth co ce sl Q (dN M V X) pc L (.int (dp_I x) :: .int (dp_I i) :: .ref (eAd E 8 1) :: st) := by
  subst hj
  subst hc
  subst hk
  exact dp_iast C (dp_mM (by decide)) dp_xms ⟨hi.1, by omega⟩ (by decide) (by rw [dp_xms, dp_fl_put]) dp_frM hd k
theorem dp_ceT {t k : Nat} (hk : k < 14) : dp_ce (53 + 14 * t + k) = t + 6 := by
  unfold dp_ce
  repeat' (rw [if_neg (by omega)])
  omega
theorem dp_slT {t k : Nat} (hk : k < 14) : dp_sl (53 + 14 * t + k) = k := by
  unfold dp_sl
  repeat' (rw [if_neg (by omega)])
  omega
theorem dp_ceA {a k : Nat} (ha : a < 2) (hk : k < 7) : dp_ce (39 + 7 * a + k) = a + 3 := by
  unfold dp_ce
  rcases (by omega : a = 0 ∨ a = 1) with rfl | rfl
  · rw [if_neg (by omega), if_neg (by omega), if_neg (by omega), if_pos (by omega)]
  · rw [if_neg (by omega), if_neg (by omega), if_neg (by omega), if_neg (by omega), if_pos (by omega)]
theorem dp_slA {a k : Nat} (ha : a < 2) (hk : k < 7) : dp_sl (39 + 7 * a + k) = k := by
  unfold dp_sl
  rcases (by omega : a = 0 ∨ a = 1) with rfl | rfl
  · rw [if_neg (by omega), if_neg (by omega), if_neg (by omega), if_pos (by omega)]
    omega
  · rw [if_neg (by omega), if_neg (by omega), if_neg (by omega), if_neg (by omega), if_pos (by omega)]
    omega
theorem dp_aald (C : dp_C E A p s m args meth co cc own nL Ts) {r c n t0 : Nat} {cA : ClassId} {Cn : String} {f : Nat → Nat} {i : Int} (hm : (r, c) ∈ dp_ps) (hx : dp_x E M r c = dp_refs cA n f) (ht : (dp_ty E)[t0]? = some (cA, .object Cn)) (hi : 0 ≤ i ∧ i < n) (hn : n < 2147483648) (hd : decode cc pc = .ok (.aaload, 1)) (k : dp_G E A p l e R s m args below meth co ce sl Q M (pc + 1) L (.ref (f i.toNat) :: st)) : dp_G E A p l e R s m args below meth co ce sl Q M pc L (.int (dp_I i) :: .ref (eAd E r c) :: st) := fun H locs ls hW hS hL => by
  obtain ⟨q0, hq⟩ := List.getElem?_of_mem hm
  refine va_aldq C.1.1 C.1.2.1 C.2.2.2.2.1 hW.P q0 t0 (cA := cA) (C := Cn) (n := n) (f := fun j => some (f j)) (by rw [dp_ws_at hq, hx]; rfl) ht (dp_in hi.1 hi.2 hn) hd ?_
  rw [dp_I_nat hi.1 (by omega)]
  exact k H locs ls hW hS hL
theorem dp_aald_t (C : dp_C E A p s m args meth co cc own nL Ts) {r : Nat} {i : Int} (hr : r < 7) (hi : 0 ≤ i ∧ i < 10) {t : Nat} (ht : i.toNat = t) (hd : decode cc pc = .ok (.aaload, 1)) (k : dp_G E A p l e R s m args below meth co ce sl Q M (pc + 1) L (.ref (eAd E r (t + 6)) :: st)) : dp_G E A p l e R s m args below meth co ce sl Q M pc L (.int (dp_I i) :: .ref (eAd E r 5) :: st) := by
  subst ht
  exact dp_aald C (t0 := 2) (Cn := "DishPointer$Target") (f := fun t => eAd E r (t + 6)) (dp_mS hr (by omega)) (by rw [dp_x_S hr]; rfl) rfl hi (by decide) hd k
theorem dp_aald_s (C : dp_C E A p s m args meth co cc own nL Ts) {i : Int} (hi : 0 ≤ i ∧ i < 5) (hd : decode cc pc = .ok (.aaload, 1)) (k : dp_G E A p l e R s m args below meth co ce sl Q M (pc + 1) L (.ref (eAd E (M 7 2 i.toNat).toNat 0) :: st)) : dp_G E A p l e R s m args below meth co ce sl Q M pc L (.int (dp_I i) :: .ref (eAd E 7 2) :: st) := dp_aald C (t0 := 3) (Cn := "DishPointer$State") (f := fun i => eAd E (M 7 2 i).toNat 0) (dp_mC (by omega)) rfl rfl hi (by decide) hd k
theorem dp_aast_s (C : dp_C E A p s m args meth co cc own nL Ts) {i : Int} {r : Nat} (hi : 0 ≤ i ∧ i < 5) (hr : r < 7) (hd : decode cc pc = .ok (.aastore, 1)) (k : dp_G E A p l e R s m args below meth co ce sl Q (dR M 7 (u2 (M 7) 2 i.toNat r)) (pc + 1) L st) : dp_G E A p l e R s m args below meth co ce sl Q M pc L (.ref (eAd E r 0) :: .int (dp_I i) :: .ref (eAd E 7 2) :: st) := fun H locs ls hW hS hL => by
  obtain ⟨q0, hq⟩ := List.getElem?_of_mem (dp_mC (c := 2) (by omega))
  obtain ⟨q1, hq1⟩ := List.getElem?_of_mem (dp_mS (r := r) (c := 0) hr (by omega))
  refine va_astq C.1.1 C.1.2.1 C.2.2.2.2.1 hW.P (dp_D C.2.2.1 C.2.2.2.1) hS q0 3 q1 2 (cA := eS E) (r := (RX2, TX2, 11)) (n := 5) (v := eAd E r 0) (f := fun j => some (eAd E (M 7 2 j).toNat 0)) (by rw [dp_ws_at hq]; rfl) rfl (by rw [dp_ws_at hq1, dp_xst0 hr]) rfl (dp_in hi.1 hi.2 (by decide)) hd (fun H1 locs1 hP hD hS1 => k H1 locs1 ls ?_ hS1 hL)
  refine dp_W.of_set hq hP ?_ dp_frC
  rw [dp_x_C, dp_I_nat hi.1 (by omega)]
  show dp_refs _ _ _ = _
  unfold dp_refs
  congr 7
  funext j
  rw [dR_same, u2_same]
  unfold u1 va_up
  by_cases h : j = i.toNat
  · simp [h]
  · simp [h]
theorem dp_alen (C : dp_C E A p s m args meth co cc own nL Ts) {r c n t0 : Nat} {cA : ClassId} {x : va_E} {y : (Nat → Int32) ⊕ (Nat → Int64) ⊕ (Nat → UInt32) ⊕ (Nat → UInt64) ⊕ (Nat → Option Nat)} {ty : FieldType} (hm : (r, c) ∈ dp_ps) (hx : dp_x E M r c = .inl (cA, n, y)) (ht : (dp_ty E)[t0]? = some (cA, ty)) (hd : decode cc pc = .ok (.arraylength, 1)) (k : dp_G E A p l e R s m args below meth co ce sl Q M (pc + 1) L (.int (dp_I n) :: st)) : dp_G E A p l e R s m args below meth co ce sl Q M pc L (.ref (eAd E r c) :: st) := fun H locs ls hW hS hL => by
  obtain ⟨q0, hq⟩ := List.getElem?_of_mem hm
  refine va_alen C.1.1 C.1.2.1 C.2.2.2.2.1 hW.P q0 t0 (cA := cA) (x := (n, y)) (by rw [dp_ws_at hq, hx]) ht (v := dp_I n) ?_ hd (k H locs ls hW hS hL)
  exact Int32.ofInt_eq_ofNat.symm
theorem dp_gets (C : dp_C E A p s m args meth co cc own nL Ts) {n d : String} {ty : FieldType} {t N i : Nat} {f : Nat → Int} (hZ : dp_Z1 A n d ty t N f s s.heap) (hl : Cond.fieldLink own i "DishPointer" n d ∈ Ts) (hd : decode cc pc = .ok (.getstatic i, 3)) (k : dp_G E A p l e R s m args below meth co ce sl Q M (pc + 3) L (.ref t :: st)) : dp_G E A p l e R s m args below meth co ce sl Q M pc L st := fun H locs ls hW hS hL => va_gets C.1.1 C.1.2.1 hZ.1 hS C.1.2.2.2.1 (C.1.2.2.2.2 _ hl) (fun _ h => h) hd (k H locs ls hW hS hL)
theorem dp_tlen (C : dp_C E A p s m args meth co cc own nL Ts) {n d : String} {ty : FieldType} {t N : Nat} {f : Nat → Int} (hZ : dp_Z1 A n d ty t N f s s.heap) (hd : decode cc pc = .ok (.arraylength, 1)) (k : dp_G E A p l e R s m args below meth co ce sl Q M (pc + 1) L (.int (dp_I N) :: st)) : dp_G E A p l e R s m args below meth co ce sl Q M pc L (.ref t :: st) := fun H locs ls hW hS hL => va_tlen C.1.1 C.1.2.1 hZ.2 hS (v := dp_I N) Int32.ofInt_eq_ofNat.symm hd (k H locs ls hW hS hL)
theorem dp_tald (C : dp_C E A p s m args meth co cc own nL Ts) {n d : String} {t N j : Nat} {f : Nat → Int} {i : Int} (hZ : dp_Z1 A n d .int t N f s s.heap) (hi : 0 ≤ i ∧ i < N) (hN : N < 2147483648) (hj : i.toNat = j) (hd : decode cc pc = .ok (.iaload, 1)) (k : dp_G E A p l e R s m args below meth co ce sl Q M (pc + 1) L (.int (dp_I (f j)) :: st)) : dp_G E A p l e R s m args below meth co ce sl Q M pc L (.int (dp_I i) :: .ref t :: st) := fun H locs ls hW hS hL => va_ti C.1.1 C.1.2.1 hZ.2 hS (dp_in hi.1 hi.2 hN) (v := .int (dp_I (f j))) (by rw [dp_I_nat hi.1 (by omega), hj]) hd (k H locs ls hW hS hL)
theorem dp_tcld (C : dp_C E A p s m args meth co cc own nL Ts) {n d : String} {t N j : Nat} {f : Nat → Int} {i : Int} (hZ : dp_Z1 A n d .char t N f s s.heap) (hi : 0 ≤ i ∧ i < N) (hN : N < 2147483648) (hj : i.toNat = j) (hd : decode cc pc = .ok (.caload, 1)) (k : dp_G E A p l e R s m args below meth co ce sl Q M (pc + 1) L (.int (dp_I (f j)) :: st)) : dp_G E A p l e R s m args below meth co ce sl Q M pc L (.int (dp_I i) :: .ref t :: st) := fun H locs ls hW hS hL => va_tc C.1.1 C.1.2.1 hZ.2 hS (dp_in hi.1 hi.2 hN) (v := .int (dp_I (f j))) (by rw [dp_I_nat hi.1 (by omega), hj]) hd (k H locs ls hW hS hL)
theorem dp_mmax (C : dp_C E A p s m args meth co cc own nL Ts) {i : Nat} {x y : Int} (hx : dp_R x) (hy : dp_R y) (h1 : Cond.methodLink own i Lib.Math.max.name ∈ Ts) (h2 : Cond.static Lib.Math.max.name ∈ Ts) (h3 : Cond.initialized "java/lang/Math" ∈ Ts) (h4 : Cond.code Lib.Math.max.name Lib.Math.max.code 2 (some .int) ∈ Ts) (hf : 1 ≤ R.frames) (hlo : 21 ≤ R.locals) (hcat : (st.map fun v => v.category).sum ≤ 8) (hL0 : L.length = nL) (hce : ce ≤ R.cells ∧ sl ≤ R.slots) (hd : decode cc pc = .ok (.invokestatic i, 3)) (k : dp_G E A p l e R s m args below meth co ce sl Q M (pc + 3) L (.int (dp_I (if x < y then y else x)) :: st)) : dp_G E A p l e R s m args below meth co ce sl Q M pc L (.int (dp_I y) :: .int (dp_I x) :: st) := fun H locs ls hW hS hL => by
  refine va_mmax C.1.1 C.1.2.1 (by rw [hL.1, hL0]; exact C.1.2.2.1) C.1.2.2.2.1 (C.1.2.2.2.2 _ h1) (C.1.2.2.2.2 _ h2) (C.1.2.2.2.2 _ h3) (C.1.2.2.2.2 _ h4) hf (by omega) hce.1 hce.2 hd ?_
  have e := k H locs ls hW hS hL
  by_cases h : x < y
  · rw [if_pos h] at e
    rw [if_pos ((dp_I_lt hx hy).mpr h)]
    exact e
  · rw [if_neg h] at e
    rw [if_neg (fun q => h ((dp_I_lt hx hy).mp q))]
    exact e
theorem dp_mmin (C : dp_C E A p s m args meth co cc own nL Ts) {i : Nat} {x y : Int} (hx : dp_R x) (hy : dp_R y) (h1 : Cond.methodLink own i Lib.Math.min.name ∈ Ts) (h2 : Cond.static Lib.Math.min.name ∈ Ts) (h3 : Cond.initialized "java/lang/Math" ∈ Ts) (h4 : Cond.code Lib.Math.min.name Lib.Math.min.code 2 (some .int) ∈ Ts) (hf : 1 ≤ R.frames) (hlo : 21 ≤ R.locals) (hcat : (st.map fun v => v.category).sum ≤ 8) (hL0 : L.length = nL) (hce : ce ≤ R.cells ∧ sl ≤ R.slots) (hd : decode cc pc = .ok (.invokestatic i, 3)) (k : dp_G E A p l e R s m args below meth co ce sl Q M (pc + 3) L (.int (dp_I (if y < x then y else x)) :: st)) : dp_G E A p l e R s m args below meth co ce sl Q M pc L (.int (dp_I y) :: .int (dp_I x) :: st) := fun H locs ls hW hS hL => by
  refine va_mmin C.1.1 C.1.2.1 (by rw [hL.1, hL0]; exact C.1.2.2.1) C.1.2.2.2.1 (C.1.2.2.2.2 _ h1) (C.1.2.2.2.2 _ h2) (C.1.2.2.2.2 _ h3) (C.1.2.2.2.2 _ h4) hf (by omega) hce.1 hce.2 hd ?_
  have e := k H locs ls hW hS hL
  by_cases h : y < x
  · rw [if_pos h] at e
    rw [if_pos ((dp_I_lt hy hx).mpr h)]
    exact e
  · rw [if_neg h] at e
    rw [if_neg (fun q => h ((dp_I_lt hy hx).mp q))]
    exact e
theorem dp_mabs (C : dp_C E A p s m args meth co cc own nL Ts) {i : Nat} {x : Int} (hx : dp_R x) (h1 : Cond.methodLink own i Lib.Math.abs.name ∈ Ts) (h2 : Cond.static Lib.Math.abs.name ∈ Ts) (h3 : Cond.initialized "java/lang/Math" ∈ Ts) (h4 : Cond.code Lib.Math.abs.name Lib.Math.abs.code 1 (some .int) ∈ Ts) (hf : 1 ≤ R.frames) (hlo : 21 ≤ R.locals) (hcat : (st.map fun v => v.category).sum ≤ 8) (hL0 : L.length = nL) (hce : ce ≤ R.cells ∧ sl ≤ R.slots) (hd : decode cc pc = .ok (.invokestatic i, 3)) (k : dp_G E A p l e R s m args below meth co ce sl Q M (pc + 3) L (.int (dp_I (if x < 0 then -x else x)) :: st)) : dp_G E A p l e R s m args below meth co ce sl Q M pc L (.int (dp_I x) :: st) := fun H locs ls hW hS hL => by
  refine va_mabs C.1.1 C.1.2.1 (by rw [hL.1, hL0]; exact C.1.2.2.1) C.1.2.2.2.1 (C.1.2.2.2.2 _ h1) (C.1.2.2.2.2 _ h2) (C.1.2.2.2.2 _ h3) (C.1.2.2.2.2 _ h4) hf (by omega) hce.1 hce.2 hd ?_
  have e := k H locs ls hW hS hL
  by_cases h : x < 0
  · rw [if_pos h] at e
    rw [if_neg (fun q => by rw [dp_I_z, dp_I_le dp_R0 hx] at q; omega), dp_I_z, dp_I_sub]
    rw [show (0 : Int) - x = -x by omega]
    exact e
  · rw [if_neg h] at e
    rw [if_pos (by rw [dp_I_z, dp_I_le dp_R0 hx]; omega)]
    exact e
def dp_qi (E : dp_E) (P : Int → dp_M → Prop) : Array Value → State → Outcome → State → Prop := va_Qi (fun (y : Int32) (M' : dp_M) => ∃ x, y = dp_I x ∧ P x M') (dp_B E) (dp_A E)
def dp_qv (E : dp_E) (P : dp_M → Prop) : Array Value → State → Outcome → State → Prop := va_Qv P (dp_B E) (dp_A E)
def dp_qr (E : dp_E) (P : Nat → Nat → dp_M → Prop) : Array Value → State → Outcome → State → Prop := va_Qr (fun (u : Nat × Nat × dp_M) => P u.1 u.2.1 u.2.2) (fun u a t => a = eAd E u.1 u.2.1 ∧ dp_B E u.2.2 t) (dp_A E)
def dp_rm (fr lo : Nat) : Room := { frames := fr, cells := 0, slots := 0, locals := lo }
def dp_met (E : dp_E) (l : Launch) (y : MethodName) (ws : List Cond) (fr lo : Nat) (av : List Value) (M : dp_M) (Qc : Array Value → State → Outcome → State → Prop) : Prop := Met l y ws (dp_rm fr lo) (va_Pc av (dp_B E M)) Qc 0 0 (dp_A E)
theorem dp_args {av : List Value} (hcat : ∀ v ∈ av, v.category = 1) : lg_sl av = av.map .val ∧ ∀ (i j : Nat) (v : Value), av[j]? = some v → (i + j, v) ∈ lv_args i av := by
  induction av with
  | nil => exact ⟨rfl, fun i j v h => by simp at h⟩
  | cons a av ih =>
    have ha : a.category = 1 := hcat a List.mem_cons_self
    obtain ⟨h1, h2⟩ := ih (fun v hv => hcat v (List.mem_cons_of_mem _ hv))
    refine ⟨?_, fun i j v h => ?_⟩
    · have e : lg_sl (a :: av) = .val a :: lg_sl av := by simp [lg_sl, ha]
      rw [e, h1]
      rfl
    · have e : lv_args i (a :: av) = (i, a) :: lv_args (i + 1) av := by simp [lv_args, ha]
      rw [e]
      cases j with
      | zero =>
        simp at h
        subst h
        exact List.mem_cons_self
      | succ j =>
        have h3 := h2 (i + 1) j v (by simpa using h)
        rw [show i + (j + 1) = i + 1 + j by omega]
        exact List.mem_cons_of_mem _ h3
theorem dp_entry {av : List Value} {n : Nat} (hcat : ∀ v ∈ av, v.category = 1) (hlen : av.length ≤ n) : dp_L ((lg_sl av ++ List.replicate (n - (lg_sl av).length) Slot.unset).toArray) (av.map some ++ List.replicate (n - av.length) none) := by
  obtain ⟨h1, h2⟩ := dp_args hcat
  have hl : (lg_sl av).length = av.length := by rw [h1, List.length_map]
  have h := lv_entry av (n := n) (by omega)
  refine ⟨by rw [h.1]; simp; omega, h.2.1, fun i v hi => ?_⟩
  have hi2 : av[i]? = some v := by
    rcases Nat.lt_or_ge i av.length with q | q
    · rw [List.getElem?_append_left (by simpa using q), List.getElem?_map] at hi
      cases hv : av[i]? with
      | none => rw [hv] at hi; cases hi
      | some w => rw [hv] at hi; cases hi; rfl
    · rw [List.getElem?_append_right (by simpa using q)] at hi
      have := List.eq_of_mem_replicate (List.mem_of_getElem? hi)
      cases this
  have h3 := h2 0 i v hi2
  rw [Nat.zero_add] at h3
  exact ⟨h.2.2 _ h3, hcat v (List.mem_of_getElem? hi2)⟩
theorem dp_of {y : MethodName} {ws ws' : List Cond} {ret : Option FieldType} {fr lo : Nat} {av : List Value} {Qc : Array Value → State → Outcome → State → Prop} (hy : plainName y.cls = true) (ho : y.cls = own) (hw : ws = Cond.code y cc nL ret :: ws') (hok : dp_OK E) (hcat : ∀ v ∈ av, v.category = 1) (hlen : av.length ≤ nL)
    (body : ∀ (p : Program) (e : Env) (s : State) (m : MethodId) (below : List Frame) (meth : Method) (co : Code), dp_C E (dp_A E) p s m av.toArray meth co cc own nL ws → meth.sig.returnType = ret → dp_G E (dp_A E) p l e (dp_rm fr lo) s m av.toArray below meth co 0 0 (MQ below Qc av.toArray s 0 0 (dp_A E)) M 0 (av.map some ++ List.replicate (nL - av.length) none) []) : dp_met E l y ws fr lo av M Qc := by
  refine Met.ofW (cc := cc) (maxL := nL) (ret := ret) hy hw ?_
  intro p e s m args below meth c s₁ B hml hv
  obtain ⟨rfl, hWd, hK, hZ⟩ := hv
  have hts := atoms_spec (ws := ws) B.pre
  have hown : s.vm.findClass own = some m.cls := by rw [← ho]; exact findClass_of_methodNamed B.named
  rw [lg_entry_eq]
  exact body p e s m below meth c ⟨⟨B.exec, B.bytes, hml, hown, hts⟩, B.notSynchronized, hok, fun _ h => h, hK, hZ⟩ B.returns s.heap [] _ hWd va_S.rf (dp_entry hcat hlen)
theorem dp_blind {E : dp_E} {M : dp_M} {av : List Value} : FrameBlind (va_Pc av (dp_B E M)) := fun a U g mk q => ⟨q.1, q.2.calling g mk a⟩
theorem dp_pre {E : dp_E} {A : Nat → Prop} {M : dp_M} {s : State} {H : Heap} {locs : List Loc} {av : List Value} (hA : ∀ q, dp_A E q → A q) (hK : dp_K E s) (hZ : dp_Z E A s s.heap) (hW : dp_W E M H) (hS : va_S A s.heap H locs) : ∀ U : State, U.heap = H → s.WarmedH U.vm → va_Pc av (dp_B E M) av.toArray U := fun U hU hWm => ⟨rfl, by rw [hU]; exact hW, va_K.moved hWm.alike hK, by rw [hU]; exact hZ.mv hWm.alike hS.2.1 hA⟩
theorem dp_cVi (C : dp_C E A p s m args meth co cc own nL Ts) {y : MethodName} {ws ws' : List Cond} {fr lo maxL i n : Nat} {bytes : ByteArray} {ret : Option FieldType} {As rest : List Value} {r c ci N : Nat} {fs : List Value} {Cn : String} {T : u_T} {P : Int → dp_M → Prop} (hM : dp_met E l y ws fr lo (.ref (eAd E r c) :: As) M (dp_qi E P)) (hG : GoodIn Ts (wsV own i Cn y ws)) (hw : ws = Cond.code y bytes maxL ret :: ws') (hm : (r, c) ∈ dp_ps) (hx : dp_x E M r c = .inr (ci, fs)) (hc : vwCl[ci]? = some (Cn, T, N)) (hdy : y.cls = Cn ∧ y.cls ≠ "java/lang/invoke/MethodHandle" ∧ y.cls ≠ "java/lang/invoke/VarHandle" ∧ (parseMethodDescriptor y.desc).map (fun d => d.parameters.length) = some n) (hn : As.length = n) (hR : fr + 1 ≤ R.frames ∧ 8 + (maxL + 11) + lo ≤ R.locals) (hst : st = As.reverse ++ .ref (eAd E r c) :: rest) (hcat : (rest.map fun v => v.category).sum ≤ 8) (hL0 : L.length = nL) (hce : ce ≤ R.cells ∧ sl ≤ R.slots) (hd : decode cc pc = .ok (.invokevirtual i, 3)) (k : ∀ x M1, P x M1 → dp_G E A p l e R s m args below meth co ce sl Q M1 (pc + 3) L (.int (dp_I x) :: rest)) : dp_G E A p l e R s m args below meth co ce sl Q M pc L st := fun H locs ls hW hS hL => by
  obtain ⟨q0, hq⟩ := List.getElem?_of_mem hm
  subst hst
  have hr := va_runV (e := e) (below := below) (meth := meth) (locs := locs) (cells := ce) (slots := sl) (As := As) (rest := rest) (g := F0 m pc ls (As.reverse ++ .ref (eAd E r c) :: rest)) C.1 hM (cwV n C.1.2.2.2.2 hG hw rfl rfl hdy hR) ⟨dp_blind, va_recv C.2.2.2.2.1 hW.P (q0 := q0) (fs := fs) hc (by rw [dp_ws_at hq, hx]), dp_pre C.2.2.2.1 C.2.2.2.2.1 C.2.2.2.2.2 hW hS⟩ rfl hn (by rw [hL.1, hL0]) rfl (lv_room hcat) hd ⟨hce.1, hce.2⟩
  refine va_calli hr hS (fun q _ h => C.2.2.2.1 q h) (fun q h => C.2.2.2.1 q h) (fun y9 u t H1 locs1 ht hvm hw9 hB hz1 hk1 hS1 => ?_)
  obtain ⟨x, rfl, hp⟩ := hw9
  exact k x u hp H1 locs1 ls (by rw [← ht]; exact hB.1) hS1 hL
theorem dp_cSi (C : dp_C E A p s m args meth co cc own nL Ts) {y : MethodName} {ws ws' : List Cond} {fr lo maxL i n : Nat} {bytes : ByteArray} {ret : Option FieldType} {As rest : List Value} {P : Int → dp_M → Prop} (hM : dp_met E l y ws fr lo As M (dp_qi E P)) (hG : GoodIn Ts (va_wsS own i y ws)) (hw : ws = Cond.code y bytes maxL ret :: ws') (hdy : y.cls ≠ "java/lang/invoke/MethodHandle" ∧ y.cls ≠ "java/lang/invoke/VarHandle" ∧ (parseMethodDescriptor y.desc).map (fun d => d.parameters.length) = some n) (hn : As.length = n) (hR : fr + 1 ≤ R.frames ∧ 8 + (maxL + 11) + lo ≤ R.locals) (hst : st = As.reverse ++ rest) (hcat : (rest.map fun v => v.category).sum ≤ 8) (hL0 : L.length = nL) (hce : ce ≤ R.cells ∧ sl ≤ R.slots) (hd : decode cc pc = .ok (.invokestatic i, 3)) (k : ∀ x M1, P x M1 → dp_G E A p l e R s m args below meth co ce sl Q M1 (pc + 3) L (.int (dp_I x) :: rest)) : dp_G E A p l e R s m args below meth co ce sl Q M pc L st := fun H locs ls hW hS hL => by
  subst hst
  have hr := va_runS (e := e) (below := below) (meth := meth) (locs := locs) (cells := ce) (slots := sl) (As := As) (rest := rest) (g := F0 m pc ls (As.reverse ++ rest)) C.1 hM (va_cwS n C.1.2.2.2.2 hG hw rfl rfl hdy hR) ⟨dp_blind, dp_pre C.2.2.2.1 C.2.2.2.2.1 C.2.2.2.2.2 hW hS⟩ rfl hn (by rw [hL.1, hL0]) rfl (lv_room hcat) hd ⟨hce.1, hce.2⟩
  refine va_calli hr hS (fun q _ h => C.2.2.2.1 q h) (fun q h => C.2.2.2.1 q h) (fun y9 u t H1 locs1 ht hvm hw9 hB hz1 hk1 hS1 => ?_)
  obtain ⟨x, rfl, hp⟩ := hw9
  exact k x u hp H1 locs1 ls (by rw [← ht]; exact hB.1) hS1 hL
theorem dp_cVv (C : dp_C E A p s m args meth co cc own nL Ts) {y : MethodName} {ws ws' : List Cond} {fr lo maxL i n : Nat} {bytes : ByteArray} {ret : Option FieldType} {As rest : List Value} {r c ci N : Nat} {fs : List Value} {Cn : String} {T : u_T} {P : dp_M → Prop} (hM : dp_met E l y ws fr lo (.ref (eAd E r c) :: As) M (dp_qv E P)) (hG : GoodIn Ts (wsV own i Cn y ws)) (hw : ws = Cond.code y bytes maxL ret :: ws') (hm : (r, c) ∈ dp_ps) (hx : dp_x E M r c = .inr (ci, fs)) (hc : vwCl[ci]? = some (Cn, T, N)) (hdy : y.cls = Cn ∧ y.cls ≠ "java/lang/invoke/MethodHandle" ∧ y.cls ≠ "java/lang/invoke/VarHandle" ∧ (parseMethodDescriptor y.desc).map (fun d => d.parameters.length) = some n) (hn : As.length = n) (hR : fr + 1 ≤ R.frames ∧ 8 + (maxL + 11) + lo ≤ R.locals) (hst : st = As.reverse ++ .ref (eAd E r c) :: rest) (hcat : (rest.map fun v => v.category).sum ≤ 8) (hL0 : L.length = nL) (hce : ce ≤ R.cells ∧ sl ≤ R.slots) (hd : decode cc pc = .ok (.invokevirtual i, 3)) (k : ∀ M1, P M1 → dp_G E A p l e R s m args below meth co ce sl Q M1 (pc + 3) L rest) : dp_G E A p l e R s m args below meth co ce sl Q M pc L st := fun H locs ls hW hS hL => by
  obtain ⟨q0, hq⟩ := List.getElem?_of_mem hm
  subst hst
  have hr := va_runV (e := e) (below := below) (meth := meth) (locs := locs) (cells := ce) (slots := sl) (As := As) (rest := rest) (g := F0 m pc ls (As.reverse ++ .ref (eAd E r c) :: rest)) C.1 hM (cwV n C.1.2.2.2.2 hG hw rfl rfl hdy hR) ⟨dp_blind, va_recv C.2.2.2.2.1 hW.P (q0 := q0) (fs := fs) hc (by rw [dp_ws_at hq, hx]), dp_pre C.2.2.2.1 C.2.2.2.2.1 C.2.2.2.2.2 hW hS⟩ rfl hn (by rw [hL.1, hL0]) rfl (lv_room hcat) hd ⟨hce.1, hce.2⟩
  refine va_callv hr hS (fun q _ h => C.2.2.2.1 q h) (fun q h => C.2.2.2.1 q h) (fun u t H1 locs1 ht hvm hw9 hB hz1 hk1 hS1 => ?_)
  exact k u hw9 H1 locs1 ls (by rw [← ht]; exact hB.1) hS1 hL
theorem dp_cSv (C : dp_C E A p s m args meth co cc own nL Ts) {y : MethodName} {ws ws' : List Cond} {fr lo maxL i n : Nat} {bytes : ByteArray} {ret : Option FieldType} {As rest : List Value} {P : dp_M → Prop} (hM : dp_met E l y ws fr lo As M (dp_qv E P)) (hG : GoodIn Ts (va_wsS own i y ws)) (hw : ws = Cond.code y bytes maxL ret :: ws') (hdy : y.cls ≠ "java/lang/invoke/MethodHandle" ∧ y.cls ≠ "java/lang/invoke/VarHandle" ∧ (parseMethodDescriptor y.desc).map (fun d => d.parameters.length) = some n) (hn : As.length = n) (hR : fr + 1 ≤ R.frames ∧ 8 + (maxL + 11) + lo ≤ R.locals) (hst : st = As.reverse ++ rest) (hcat : (rest.map fun v => v.category).sum ≤ 8) (hL0 : L.length = nL) (hce : ce ≤ R.cells ∧ sl ≤ R.slots) (hd : decode cc pc = .ok (.invokestatic i, 3)) (k : ∀ M1, P M1 → dp_G E A p l e R s m args below meth co ce sl Q M1 (pc + 3) L rest) : dp_G E A p l e R s m args below meth co ce sl Q M pc L st := fun H locs ls hW hS hL => by
  subst hst
  have hr := va_runS (e := e) (below := below) (meth := meth) (locs := locs) (cells := ce) (slots := sl) (As := As) (rest := rest) (g := F0 m pc ls (As.reverse ++ rest)) C.1 hM (va_cwS n C.1.2.2.2.2 hG hw rfl rfl hdy hR) ⟨dp_blind, dp_pre C.2.2.2.1 C.2.2.2.2.1 C.2.2.2.2.2 hW hS⟩ rfl hn (by rw [hL.1, hL0]) rfl (lv_room hcat) hd ⟨hce.1, hce.2⟩
  refine va_callv hr hS (fun q _ h => C.2.2.2.1 q h) (fun q h => C.2.2.2.1 q h) (fun u t H1 locs1 ht hvm hw9 hB hz1 hk1 hS1 => ?_)
  exact k u hw9 H1 locs1 ls (by rw [← ht]; exact hB.1) hS1 hL
theorem dp_cVr (C : dp_C E A p s m args meth co cc own nL Ts) {y : MethodName} {ws ws' : List Cond} {fr lo maxL i n : Nat} {bytes : ByteArray} {ret : Option FieldType} {As rest : List Value} {r c ci N : Nat} {fs : List Value} {Cn : String} {T : u_T} {P : Nat → Nat → dp_M → Prop} (hM : dp_met E l y ws fr lo (.ref (eAd E r c) :: As) M (dp_qr E P)) (hG : GoodIn Ts (wsV own i Cn y ws)) (hw : ws = Cond.code y bytes maxL ret :: ws') (hm : (r, c) ∈ dp_ps) (hx : dp_x E M r c = .inr (ci, fs)) (hc : vwCl[ci]? = some (Cn, T, N)) (hdy : y.cls = Cn ∧ y.cls ≠ "java/lang/invoke/MethodHandle" ∧ y.cls ≠ "java/lang/invoke/VarHandle" ∧ (parseMethodDescriptor y.desc).map (fun d => d.parameters.length) = some n) (hn : As.length = n) (hR : fr + 1 ≤ R.frames ∧ 8 + (maxL + 11) + lo ≤ R.locals) (hst : st = As.reverse ++ .ref (eAd E r c) :: rest) (hcat : (rest.map fun v => v.category).sum ≤ 8) (hL0 : L.length = nL) (hce : ce ≤ R.cells ∧ sl ≤ R.slots) (hd : decode cc pc = .ok (.invokevirtual i, 3)) (k : ∀ r1 c1 M1, P r1 c1 M1 → dp_G E A p l e R s m args below meth co ce sl Q M1 (pc + 3) L (.ref (eAd E r1 c1) :: rest)) : dp_G E A p l e R s m args below meth co ce sl Q M pc L st := fun H locs ls hW hS hL => by
  obtain ⟨q0, hq⟩ := List.getElem?_of_mem hm
  subst hst
  have hr := va_runV (e := e) (below := below) (meth := meth) (locs := locs) (cells := ce) (slots := sl) (As := As) (rest := rest) (g := F0 m pc ls (As.reverse ++ .ref (eAd E r c) :: rest)) C.1 hM (cwV n C.1.2.2.2.2 hG hw rfl rfl hdy hR) ⟨dp_blind, va_recv C.2.2.2.2.1 hW.P (q0 := q0) (fs := fs) hc (by rw [dp_ws_at hq, hx]), dp_pre C.2.2.2.1 C.2.2.2.2.1 C.2.2.2.2.2 hW hS⟩ rfl hn (by rw [hL.1, hL0]) rfl (lv_room hcat) hd ⟨hce.1, hce.2⟩
  refine va_callr hr hS (fun q _ h => C.2.2.2.1 q h) (fun q h => C.2.2.2.1 q h) (fun u ra t H1 locs1 ht hvm hw9 hB hz1 hk1 hS1 => ?_)
  obtain ⟨rfl, hB⟩ := hB
  exact k u.1 u.2.1 u.2.2 hw9 H1 locs1 ls (by rw [← ht]; exact hB.1) hS1 hL
theorem dp_cSr (C : dp_C E A p s m args meth co cc own nL Ts) {y : MethodName} {ws ws' : List Cond} {fr lo maxL i n : Nat} {bytes : ByteArray} {ret : Option FieldType} {As rest : List Value} {P : Nat → Nat → dp_M → Prop} (hM : dp_met E l y ws fr lo As M (dp_qr E P)) (hG : GoodIn Ts (va_wsS own i y ws)) (hw : ws = Cond.code y bytes maxL ret :: ws') (hdy : y.cls ≠ "java/lang/invoke/MethodHandle" ∧ y.cls ≠ "java/lang/invoke/VarHandle" ∧ (parseMethodDescriptor y.desc).map (fun d => d.parameters.length) = some n) (hn : As.length = n) (hR : fr + 1 ≤ R.frames ∧ 8 + (maxL + 11) + lo ≤ R.locals) (hst : st = As.reverse ++ rest) (hcat : (rest.map fun v => v.category).sum ≤ 8) (hL0 : L.length = nL) (hce : ce ≤ R.cells ∧ sl ≤ R.slots) (hd : decode cc pc = .ok (.invokestatic i, 3)) (k : ∀ r1 c1 M1, P r1 c1 M1 → dp_G E A p l e R s m args below meth co ce sl Q M1 (pc + 3) L (.ref (eAd E r1 c1) :: rest)) : dp_G E A p l e R s m args below meth co ce sl Q M pc L st := fun H locs ls hW hS hL => by
  subst hst
  have hr := va_runS (e := e) (below := below) (meth := meth) (locs := locs) (cells := ce) (slots := sl) (As := As) (rest := rest) (g := F0 m pc ls (As.reverse ++ rest)) C.1 hM (va_cwS n C.1.2.2.2.2 hG hw rfl rfl hdy hR) ⟨dp_blind, dp_pre C.2.2.2.1 C.2.2.2.2.1 C.2.2.2.2.2 hW hS⟩ rfl hn (by rw [hL.1, hL0]) rfl (lv_room hcat) hd ⟨hce.1, hce.2⟩
  refine va_callr hr hS (fun q _ h => C.2.2.2.1 q h) (fun q h => C.2.2.2.1 q h) (fun u ra t H1 locs1 ht hvm hw9 hB hz1 hk1 hS1 => ?_)
  obtain ⟨rfl, hB⟩ := hB
  exact k u.1 u.2.1 u.2.2 hw9 H1 locs1 ls (by rw [← ht]; exact hB.1) hS1 hL
end DC
section DQ
variable {E : dp_E} {p : Program} {l : Launch} {e : Env} {R : Room} {s : State} {m : MethodId} {args : Array Value} {below : List Frame} {meth : Method} {co : Code} {cc : ByteArray} {own : String} {nL : Nat} {Ts : List Cond} {M : dp_M} {pc : Nat} {L : List (Option Value)}
theorem dp_end (C : dp_C E (dp_A E) p s m args meth co cc own nL Ts) {H : Heap} {locs : List Loc} {t : State} (hW : dp_W E M H) (hS : va_S (dp_A E) s.heap H locs) (ht : t.heap = H) (hWm : s.WarmedH t.vm) : dp_B E M t := ⟨by rw [ht]; exact hW, va_K.moved hWm.alike C.2.2.2.2.1, by rw [ht]; exact C.2.2.2.2.2.mv hWm.alike hS.2.1 (fun _ h => h)⟩
theorem dp_iret (C : dp_C E (dp_A E) p s m args meth co cc own nL Ts) {P : Int → dp_M → Prop} {x : Int} (hr : meth.sig.returnType = some .int) (hd : decode cc pc = .ok (.ireturn, 1)) (hp : P x M) : dp_G E (dp_A E) p l e R s m args below meth co 0 0 (MQ below (dp_qi E P) args s 0 0 (dp_A E)) M pc L [.int (dp_I x)] := fun H locs ls hW hS hL => W.iret (v := dp_I x) C.1.1 C.1.2.1 hr (fun t ht hWm => ⟨⟨dp_I x, M, rfl, ⟨x, rfl, hp⟩, dp_end C hW hS ht hWm⟩, hS.F ht⟩) hS.2.2 hd C.2.1
theorem dp_zret (C : dp_C E (dp_A E) p s m args meth co cc own nL Ts) {P : Int → dp_M → Prop} {x : Int} {ty : FieldType} (hr : meth.sig.returnType = some ty) (hn : narrow ty (.int (dp_I x)) = .int (dp_I x)) (hd : decode cc pc = .ok (.ireturn, 1)) (hp : P x M) : dp_G E (dp_A E) p l e R s m args below meth co 0 0 (MQ below (dp_qi E P) args s 0 0 (dp_A E)) M pc L [.int (dp_I x)] := fun H locs ls hW hS hL => W.zret (v := dp_I x) C.1.1 C.1.2.1 hr hn (fun t ht hWm => ⟨⟨dp_I x, M, rfl, ⟨x, rfl, hp⟩, dp_end C hW hS ht hWm⟩, hS.F ht⟩) hS.2.2 hd C.2.1
theorem dp_vret (C : dp_C E (dp_A E) p s m args meth co cc own nL Ts) {P : dp_M → Prop} (hr : meth.sig.returnType = none) (hd : decode cc pc = .ok (.return_, 1)) (hp : P M) : dp_G E (dp_A E) p l e R s m args below meth co 0 0 (MQ below (dp_qv E P) args s 0 0 (dp_A E)) M pc L [] := fun H locs ls hW hS hL => W.vret C.1.1 C.1.2.1 hr (fun t ht hWm => ⟨⟨M, rfl, hp, dp_end C hW hS ht hWm⟩, hS.F ht⟩) hS.2.2 hd C.2.1
theorem dp_aret (C : dp_C E (dp_A E) p s m args meth co cc own nL Ts) {P : Nat → Nat → dp_M → Prop} {r c : Nat} {Cn : String} (hr : meth.sig.returnType = some (.object Cn)) (hd : decode cc pc = .ok (.areturn, 1)) (hp : P r c M) : dp_G E (dp_A E) p l e R s m args below meth co 0 0 (MQ below (dp_qr E P) args s 0 0 (dp_A E)) M pc L [.ref (eAd E r c)] := fun H locs ls hW hS hL => W.aret (v := .ref (eAd E r c)) C.1.1 C.1.2.1 hr (Or.inl ⟨Cn, rfl⟩) (Or.inr ⟨_, rfl⟩) (fun t ht hWm => ⟨⟨(r, c, M), eAd E r c, rfl, hp, rfl, dp_end C hW hS ht hWm⟩, hS.F ht⟩) hS.2.2 hd C.2.1
end DQ
end
section
/-! WHAT THE METHODS ANSWER, over a region's numbers. An axis: 0 play, 1 side, 2 speed, 3 motor, 4 slack, 5 up, 6 down. Cells of a region: 0 time slews holds (targets); 1 settings; 2 gusts; 3, 4 the axes; t + 6 target t. -/
def ab (x : Int) : Int := if x < 0 then -x else x
def mx (x y : Int) : Int := if x < y then y else x
def mn (x y : Int) : Int := if y < x then y else x
/-- a row of cell c put in place of another -/
def uc (V : dp_V) (c : Nat) (f : Nat → Int) : dp_V := fun c' => if c' = c then f else V c'
theorem uc_same (V : dp_V) (c : Nat) (f : Nat → Int) : uc V c f c = f := by simp [uc]
theorem uc_ne {V : dp_V} {c c' : Nat} {f : Nat → Int} (h : c' ≠ c) : uc V c f c' = V c' := by simp [uc, h]
theorem u2_uc (V : dp_V) (c k : Nat) (x : Int) : u2 V c k x = uc V c (u1 (V c) k x) := rfl
theorem uc_uc (V : dp_V) (c : Nat) (f g : Nat → Int) : uc (uc V c f) c g = uc V c g := by
  funext c'
  unfold uc
  split <;> rfl
/-- a way from the axis f to the place to: does it turn (wyT), its end, where it turns or the motor, its length, its time, is it possible -/
def wyT (f : Nat → Int) (to : Int) : Int := if f 1 = 1 then (if f 3 - f 4 < to then 0 else if f 3 - f 4 = to then (if f 4 = f 0 then 0 else 1) else 1) else if f 1 = 2 then (if to < f 3 - f 4 then 0 else if f 3 - f 4 = to then (if f 4 = 0 then 0 else 1) else 1) else 0
def wyE (f : Nat → Int) (to : Int) : Int := if f 1 = 1 then (if f 3 - f 4 = to then (if f 4 = f 0 then f 3 else to + f 0) else to + f 0) else if f 1 = 2 then (if f 3 - f 4 = to then (if f 4 = 0 then f 3 else to) else to) else (if f 3 - f 4 = to then f 3 else if f 3 - f 4 < to then to + f 0 else to)
def wyU (f : Nat → Int) (to ov : Int) : Int := if wyT f to = 0 then f 3 else if f 1 = 1 then to - ov else to + f 0 + ov
def wyL (f : Nat → Int) (to ov : Int) : Int := ab (wyU f to ov - f 3) + ab (wyE f to - wyU f to ov)
def wyM (f : Nat → Int) (to ov : Int) : Int := (wyL f to ov + f 2 - 1) / f 2
def wyP (c : Nat) (f : Nat → Int) (to ov : Int) : Int := dp_b ((axL c ≤ wyU f to ov ∧ wyU f to ov ≤ axH c) ∧ axL c ≤ wyE f to ∧ wyE f to ≤ axH c)
/-- what a way's cell holds, planned -/
def wyOK (c : Nat) (f : Nat → Int) (to ov : Int) (g : Nat → Int) : Prop := g 0 = to ∧ g 1 = wyU f to ov ∧ g 2 = wyE f to ∧ g 3 = wyL f to ov ∧ g 4 = wyM f to ov ∧ g 5 = wyT f to ∧ g 6 = wyP c f to ov
/-- an axis within its ranges -/
def ivA (c : Nat) (f : Nat → Int) : Prop := 0 ≤ f 0 ∧ f 0 ≤ 300 ∧ 0 ≤ f 1 ∧ f 1 ≤ 2 ∧ 1 ≤ f 2 ∧ f 2 ≤ 2000 ∧ axL c ≤ f 3 ∧ f 3 ≤ axH c ∧ 0 ≤ f 4 ∧ f 4 ≤ f 0
theorem ax_bd {c : Nat} : -27000 ≤ axL c ∧ axL c ≤ 500 ∧ 9000 ≤ axH c ∧ axH c ≤ 27000 ∧ 0 ≤ axS c ∧ axS c ≤ 9000 := by
  unfold axL axH axS
  split <;> omega
/-- what tell says of an axis -/
def axT (c : Nat) (f : Nat → Int) (k : Int) : Int := if k = 0 then f 0 else if k = 1 then f 1 else if k = 2 then f 2 else if k = 3 then f 3 else if k = 4 then f 4 else if k = 5 then f 3 - f 4 else if k = 6 then f 5 else if k = 7 then f 6 else if k = 8 then axS c + f 5 - f 6 else -100001
/-- the motor of the axis c goes to p -/
def mvV (V : dp_V) (c : Nat) (p : Int) : dp_V := if p - V c 3 < 0 then u2 (u2 (u2 V c 3 p) c 6 (V c 6 - (p - V c 3))) c 4 (mx (V c 4 + (p - V c 3)) 0) else u2 (u2 (u2 V c 3 p) c 5 (V c 5 + (p - V c 3))) c 4 (mn (V c 4 + (p - V c 3)) (V c 0))
/-- a play, a side or a speed is set -/
def chV (V : dp_V) (c : Nat) (k x : Int) : dp_V := if k = 0 then u2 (u2 V c 0 x) c 4 (mn (V c 4) x) else if k = 1 then u2 V c 1 x else if k = 2 then u2 V c 2 x else V
theorem u2_ap (V : dp_V) (c k : Nat) (x : Int) (c' k' : Nat) : u2 V c k x c' k' = if c' = c then (if k' = k then x else V c' k') else V c' k' := by
  unfold u2 u1
  by_cases h : c' = c
  · subst h
    simp
  · simp [h]
theorem dp_fb {P : Prop} {_ : Decidable P} : fits .boolean (.int (dp_I (dp_b P))) = true := by
  unfold dp_b
  by_cases h : P
  · rw [if_pos h]; decide
  · rw [if_neg h]; decide
theorem wyU_bd {c : Nat} {f : Nat → Int} {to ov : Int} (hi : ivA c f) (h1 : -40000 ≤ to ∧ to ≤ 40000) (h2 : 0 ≤ ov ∧ ov ≤ 500) : -41000 ≤ wyU f to ov ∧ wyU f to ov ≤ 41000 := by
  have hb := @ax_bd c
  unfold ivA at hi
  unfold wyU
  repeat' split
  all_goals omega
theorem wyE_bd {c : Nat} {f : Nat → Int} {to : Int} (hi : ivA c f) (h1 : -40000 ≤ to ∧ to ≤ 40000) : -41000 ≤ wyE f to ∧ wyE f to ≤ 41000 := by
  have hb := @ax_bd c
  unfold ivA at hi
  unfold wyE
  repeat' split
  all_goals omega
theorem wyL_bd {c : Nat} {f : Nat → Int} {to ov : Int} (hi : ivA c f) (h1 : -40000 ≤ to ∧ to ≤ 40000) (h2 : 0 ≤ ov ∧ ov ≤ 500) : 0 ≤ wyL f to ov ∧ wyL f to ov ≤ 200000 := by
  have hb := @ax_bd c
  have a1 := wyU_bd hi h1 h2
  have a2 := wyE_bd hi h1
  unfold ivA at hi
  unfold wyL ab
  repeat' split
  all_goals omega
theorem wyT_b {f : Nat → Int} {to : Int} : wyT f to = 0 ∨ wyT f to = 1 := by
  unfold wyT
  repeat' split
  all_goals first | exact Or.inl rfl | exact Or.inr rfl
end
section
theorem yyX0_dish : yX0_dish.cls = RX0 ∧ yX0_dish.cls ≠ "java/lang/invoke/MethodHandle" ∧ yX0_dish.cls ≠ "java/lang/invoke/VarHandle" ∧ (parseMethodDescriptor yX0_dish.desc).map (fun d => d.parameters.length) = some 0 := by decide +kernel
set_option maxHeartbeats 4000000 in
set_option maxRecDepth 100000 in
theorem c_X0_dish {E : dp_E} (hE : dp_OK E) (l : Launch) {M : dp_M} {r c : Nat} {V Y : dp_V} (hr : r < 7) (hc : c = 3 ∨ c = 4) : dp_met E l yX0_dish wsX0_dish 0 0 [.ref (eAd E r c)] (dS M r V Y) (dp_qi E (fun x M1 => x = V c 3 - V c 4 ∧ M1 = dS M r V Y)) := by
  refine dp_of (cc := cX0_dish) (nL := 1) (own := RX0) (ret := some (.int)) (by decide) rfl rfl hE (by simp [Value.category]) (Nat.le_of_ble_eq_true rfl) ?_
  intro p e s m below meth co C hret
  show dp_G _ _ _ _ _ _ _ _ _ _ _ _ _ _ _ _ _ [some (.ref (eAd E r c))] _
  have hX0 : ∀ w ∈ u_ws RX0 TX0 10, w ∈ wsX0_dish := fun w h => List.mem_cons_of_mem _ (List.mem_append_right _ (h))
  refine dp_aload_n C dX0_dish_0 rfl ?_
  refine dp_getf C (k := 6) (dp_mS ‹_› (dp_cA ‹_›)) (dp_xax ‹_› ‹_›) rfl hX0 (by decide) (List.mem_of_getElem? (i := 1) rfl) rfl dX0_dish_1 ?_
  refine dp_aload_n C dX0_dish_4 rfl ?_
  refine dp_getf C (k := 7) (dp_mS ‹_› (dp_cA ‹_›)) (dp_xax ‹_› ‹_›) rfl hX0 (by decide) (List.mem_of_getElem? (i := 2) rfl) rfl dX0_dish_5 ?_
  refine dp_isub C dX0_dish_8 ?_
  refine dp_iret C hret dX0_dish_9 ?_
  exact ⟨rfl, rfl⟩
theorem yyX0_reaches : yX0_reaches.cls = RX0 ∧ yX0_reaches.cls ≠ "java/lang/invoke/MethodHandle" ∧ yX0_reaches.cls ≠ "java/lang/invoke/VarHandle" ∧ (parseMethodDescriptor yX0_reaches.desc).map (fun d => d.parameters.length) = some 1 := by decide +kernel
set_option maxHeartbeats 4000000 in
set_option maxRecDepth 100000 in
theorem c_X0_reaches {E : dp_E} (hE : dp_OK E) (l : Launch) {M : dp_M} {r c : Nat} {V Y : dp_V} (hr : r < 7) (hc : c = 3 ∨ c = 4) {x : Int} (hx : dp_R x) : dp_met E l yX0_reaches wsX0_reaches 0 0 [.ref (eAd E r c), .int (dp_I x)] (dS M r V Y) (dp_qi E (fun y M1 => y = dp_b (axL c ≤ x ∧ x ≤ axH c) ∧ M1 = dS M r V Y)) := by
  refine dp_of (cc := cX0_reaches) (nL := 2) (own := RX0) (ret := some (.boolean)) (by decide) rfl rfl hE (by simp [Value.category]) (Nat.le_of_ble_eq_true rfl) ?_
  intro p e s m below meth co C hret
  show dp_G _ _ _ _ _ _ _ _ _ _ _ _ _ _ _ _ _ [some (.ref (eAd E r c)), some (.int (dp_I x))] _
  have hX0 : ∀ w ∈ u_ws RX0 TX0 10, w ∈ wsX0_reaches := fun w h => List.mem_cons_of_mem _ (List.mem_append_right _ (h))
  have hb := @ax_bd c
  unfold dp_R at hx
  refine dp_iload_n C dX0_reaches_0 rfl ?_
  refine dp_aload_n C dX0_reaches_1 rfl ?_
  refine dp_getf C (k := 0) (dp_mS ‹_› (dp_cA ‹_›)) (dp_xax ‹_› ‹_›) rfl hX0 (by decide) (List.mem_of_getElem? (i := 1) rfl) rfl dX0_reaches_2 ?_
  refine dp_icmp_lt (tgt := 20) C dX0_reaches_5 (by decide) ⟨by omega, by omega⟩ ⟨by omega, by omega⟩ (fun c5 => ?_) (fun c5 => ?_)
  · skip
    refine dp_iconst C dX0_reaches_20 ?_
    refine dp_zret C hret (by first | decide | exact dp_nb) dX0_reaches_21 ?_
    exact ⟨by unfold dp_b; split <;> omega, rfl⟩
  · skip
    refine dp_iload_n C dX0_reaches_8 rfl ?_
    refine dp_aload_n C dX0_reaches_9 rfl ?_
    refine dp_getf C (k := 1) (dp_mS ‹_› (dp_cA ‹_›)) (dp_xax ‹_› ‹_›) rfl hX0 (by decide) (List.mem_of_getElem? (i := 2) rfl) rfl dX0_reaches_10 ?_
    refine dp_icmp_gt (tgt := 20) C dX0_reaches_13 (by decide) ⟨by omega, by omega⟩ ⟨by omega, by omega⟩ (fun c13 => ?_) (fun c13 => ?_)
    · skip
      refine dp_iconst C dX0_reaches_20 ?_
      refine dp_zret C hret (by first | decide | exact dp_nb) dX0_reaches_21 ?_
      exact ⟨by unfold dp_b; split <;> omega, rfl⟩
    · skip
      refine dp_iconst C dX0_reaches_16 ?_
      refine dp_goto (tgt := 21) C dX0_reaches_17 (by decide) ?_
      refine dp_zret C hret (by first | decide | exact dp_nb) dX0_reaches_21 ?_
      exact ⟨by unfold dp_b; split <;> omega, rfl⟩
theorem yyX0_tell : yX0_tell.cls = RX0 ∧ yX0_tell.cls ≠ "java/lang/invoke/MethodHandle" ∧ yX0_tell.cls ≠ "java/lang/invoke/VarHandle" ∧ (parseMethodDescriptor yX0_tell.desc).map (fun d => d.parameters.length) = some 1 := by decide +kernel
set_option maxHeartbeats 4000000 in
set_option maxRecDepth 100000 in
theorem c_X0_tell {E : dp_E} (hE : dp_OK E) (l : Launch) {M : dp_M} {r c : Nat} {V Y : dp_V} (hr : r < 7) (hc : c = 3 ∨ c = 4) {x : Int} (hx : dp_R x) : dp_met E l yX0_tell wsX0_tell 1 20 [.ref (eAd E r c), .int (dp_I x)] (dS M r V Y) (dp_qi E (fun y M1 => y = axT c (V c) x ∧ M1 = dS M r V Y)) := by
  refine dp_of (cc := cX0_tell) (nL := 2) (own := RX0) (ret := some (.int)) (by decide) rfl rfl hE (by simp [Value.category]) (Nat.le_of_ble_eq_true rfl) ?_
  intro p e s m below meth co C hret
  show dp_G _ _ _ _ _ _ _ _ _ _ _ _ _ _ _ _ _ [some (.ref (eAd E r c)), some (.int (dp_I x))] _
  have hX0 : ∀ w ∈ u_ws RX0 TX0 10, w ∈ wsX0_tell := fun w h => List.mem_cons_of_mem _ (List.mem_append_right _ (h))
  unfold dp_R at hx
  refine dp_iload_n C dX0_tell_0 rfl ?_
  refine dp_table (td := 107) C [52, 57, 62, 67, 72, 77, 82, 87, 92] dX0_tell_1 (by decide) (by decide) (by decide) ⟨by omega, by omega⟩ (fun c1 => ?_) ?_
  · skip
    refine dp_ldc C (-100001) (List.mem_of_getElem? (i := 9) rfl) rfl dX0_tell_107 ?_
    refine dp_iret C hret dX0_tell_109 ?_
    exact ⟨by unfold axT; repeat (first | rw [if_neg (by omega)] | rw [if_pos (by omega)] | rfl), rfl⟩
  · simp only [dp_sw]
    refine ⟨fun c1 => ?_, fun c1 => ?_, fun c1 => ?_, fun c1 => ?_, fun c1 => ?_, fun c1 => ?_, fun c1 => ?_, fun c1 => ?_, fun c1 => ?_, trivial⟩
    · skip
      refine dp_aload_n C dX0_tell_52 rfl ?_
      refine dp_getf C (k := 3) (dp_mS ‹_› (dp_cA ‹_›)) (dp_xax ‹_› ‹_›) rfl hX0 (by decide) (List.mem_of_getElem? (i := 1) rfl) rfl dX0_tell_53 ?_
      refine dp_iret C hret dX0_tell_56 ?_
      exact ⟨by unfold axT; repeat (first | rw [if_neg (by omega)] | rw [if_pos (by omega)] | rfl), rfl⟩
    · skip
      refine dp_aload_n C dX0_tell_57 rfl ?_
      refine dp_getf C (k := 4) (dp_mS ‹_› (dp_cA ‹_›)) (dp_xax ‹_› ‹_›) rfl hX0 (by decide) (List.mem_of_getElem? (i := 2) rfl) rfl dX0_tell_58 ?_
      refine dp_iret C hret dX0_tell_61 ?_
      exact ⟨by unfold axT; repeat (first | rw [if_neg (by omega)] | rw [if_pos (by omega)] | rfl), rfl⟩
    · skip
      refine dp_aload_n C dX0_tell_62 rfl ?_
      refine dp_getf C (k := 5) (dp_mS ‹_› (dp_cA ‹_›)) (dp_xax ‹_› ‹_›) rfl hX0 (by decide) (List.mem_of_getElem? (i := 3) rfl) rfl dX0_tell_63 ?_
      refine dp_iret C hret dX0_tell_66 ?_
      exact ⟨by unfold axT; repeat (first | rw [if_neg (by omega)] | rw [if_pos (by omega)] | rfl), rfl⟩
    · skip
      refine dp_aload_n C dX0_tell_67 rfl ?_
      refine dp_getf C (k := 6) (dp_mS ‹_› (dp_cA ‹_›)) (dp_xax ‹_› ‹_›) rfl hX0 (by decide) (List.mem_of_getElem? (i := 4) rfl) rfl dX0_tell_68 ?_
      refine dp_iret C hret dX0_tell_71 ?_
      exact ⟨by unfold axT; repeat (first | rw [if_neg (by omega)] | rw [if_pos (by omega)] | rfl), rfl⟩
    · skip
      refine dp_aload_n C dX0_tell_72 rfl ?_
      refine dp_getf C (k := 7) (dp_mS ‹_› (dp_cA ‹_›)) (dp_xax ‹_› ‹_›) rfl hX0 (by decide) (List.mem_of_getElem? (i := 5) rfl) rfl dX0_tell_73 ?_
      refine dp_iret C hret dX0_tell_76 ?_
      exact ⟨by unfold axT; repeat (first | rw [if_neg (by omega)] | rw [if_pos (by omega)] | rfl), rfl⟩
    · skip
      refine dp_aload_n C dX0_tell_77 rfl ?_
      refine dp_cVi C (c_X0_dish C.2.2.1 l ‹_› ‹_›) gX0_tell_X0_dish rfl (dp_mS ‹_› (dp_cA ‹_›)) (dp_xax ‹_› ‹_›) rfl yyX0_dish rfl ⟨Nat.le_of_ble_eq_true rfl, Nat.le_of_ble_eq_true rfl⟩ rfl (Nat.le_of_ble_eq_true rfl) rfl ⟨Nat.zero_le _, Nat.zero_le _⟩ dX0_tell_78 (fun x78 M78 h78 => ?_)
      obtain ⟨rfl, rfl⟩ := h78
      refine dp_iret C hret dX0_tell_81 ?_
      exact ⟨by unfold axT; repeat (first | rw [if_neg (by omega)] | rw [if_pos (by omega)] | rfl), rfl⟩
    · skip
      refine dp_aload_n C dX0_tell_82 rfl ?_
      refine dp_getf C (k := 8) (dp_mS ‹_› (dp_cA ‹_›)) (dp_xax ‹_› ‹_›) rfl hX0 (by decide) (List.mem_of_getElem? (i := 6) rfl) rfl dX0_tell_83 ?_
      refine dp_iret C hret dX0_tell_86 ?_
      exact ⟨by unfold axT; repeat (first | rw [if_neg (by omega)] | rw [if_pos (by omega)] | rfl), rfl⟩
    · skip
      refine dp_aload_n C dX0_tell_87 rfl ?_
      refine dp_getf C (k := 9) (dp_mS ‹_› (dp_cA ‹_›)) (dp_xax ‹_› ‹_›) rfl hX0 (by decide) (List.mem_of_getElem? (i := 7) rfl) rfl dX0_tell_88 ?_
      refine dp_iret C hret dX0_tell_91 ?_
      exact ⟨by unfold axT; repeat (first | rw [if_neg (by omega)] | rw [if_pos (by omega)] | rfl), rfl⟩
    · skip
      refine dp_aload_n C dX0_tell_92 rfl ?_
      refine dp_getf C (k := 2) (dp_mS ‹_› (dp_cA ‹_›)) (dp_xax ‹_› ‹_›) rfl hX0 (by decide) (List.mem_of_getElem? (i := 8) rfl) rfl dX0_tell_93 ?_
      refine dp_aload_n C dX0_tell_96 rfl ?_
      refine dp_getf C (k := 8) (dp_mS ‹_› (dp_cA ‹_›)) (dp_xax ‹_› ‹_›) rfl hX0 (by decide) (List.mem_of_getElem? (i := 6) rfl) rfl dX0_tell_97 ?_
      refine dp_iadd C dX0_tell_100 ?_
      refine dp_aload_n C dX0_tell_101 rfl ?_
      refine dp_getf C (k := 9) (dp_mS ‹_› (dp_cA ‹_›)) (dp_xax ‹_› ‹_›) rfl hX0 (by decide) (List.mem_of_getElem? (i := 7) rfl) rfl dX0_tell_102 ?_
      refine dp_isub C dX0_tell_105 ?_
      refine dp_iret C hret dX0_tell_106 ?_
      exact ⟨by unfold axT; repeat (first | rw [if_neg (by omega)] | rw [if_pos (by omega)] | rfl), rfl⟩
theorem yyX0_moveTo : yX0_moveTo.cls = RX0 ∧ yX0_moveTo.cls ≠ "java/lang/invoke/MethodHandle" ∧ yX0_moveTo.cls ≠ "java/lang/invoke/VarHandle" ∧ (parseMethodDescriptor yX0_moveTo.desc).map (fun d => d.parameters.length) = some 1 := by decide +kernel
set_option maxHeartbeats 4000000 in
set_option maxRecDepth 100000 in
theorem c_X0_moveTo {E : dp_E} (hE : dp_OK E) (l : Launch) {M : dp_M} {r c : Nat} {V Y : dp_V} (hr : r < 7) (hc : c = 3 ∨ c = 4) {x : Int} (hi : ivA c (V c)) (hx : -100000 ≤ x ∧ x ≤ 100000) : dp_met E l yX0_moveTo wsX0_moveTo 1 21 [.ref (eAd E r c), .int (dp_I x)] (dS M r V Y) (dp_qv E (fun M1 => M1 = dS M r (mvV V c x) Y)) := by
  refine dp_of (cc := cX0_moveTo) (nL := 3) (own := RX0) (ret := none) (by decide) rfl rfl hE (by simp [Value.category]) (Nat.le_of_ble_eq_true rfl) ?_
  intro p e s m below meth co C hret
  show dp_G _ _ _ _ _ _ _ _ _ _ _ _ _ _ _ _ _ [some (.ref (eAd E r c)), some (.int (dp_I x)), none] _
  have hX0 : ∀ w ∈ u_ws RX0 TX0 10, w ∈ wsX0_moveTo := fun w h => List.mem_cons_of_mem _ (List.mem_append_right _ (h))
  have hb := @ax_bd c
  unfold ivA at hi
  refine dp_iload_n C dX0_moveTo_0 rfl ?_
  refine dp_aload_n C dX0_moveTo_1 rfl ?_
  refine dp_getf C (k := 6) (dp_mS ‹_› (dp_cA ‹_›)) (dp_xax ‹_› ‹_›) rfl hX0 (by decide) (List.mem_of_getElem? (i := 1) rfl) rfl dX0_moveTo_2 ?_
  refine dp_isub C dX0_moveTo_5 ?_
  refine dp_istore_n C dX0_moveTo_6 (Nat.le_of_ble_eq_true rfl) ?_
  dsimp only [List.set]
  refine dp_aload_n C dX0_moveTo_7 rfl ?_
  refine dp_iload_n C dX0_moveTo_8 rfl ?_
  refine dp_putA C ‹_› ‹_› (k := 3) hX0 (by decide) (List.mem_of_getElem? (i := 1) rfl) rfl (tyX0_ok _ (by decide)) rfl rfl dX0_moveTo_9 ?_
  refine dp_iload_n C dX0_moveTo_12 rfl ?_
  refine dp_if_lt (tgt := 46) C dX0_moveTo_13 (by decide) ⟨by omega, by omega⟩ (fun c13 => ?_) (fun c13 => ?_)
  · skip
    refine dp_aload_n C dX0_moveTo_46 rfl ?_
    refine dp_dup C dX0_moveTo_47 rfl ?_
    refine dp_getf C (k := 9) (dp_mS ‹_› (dp_cA ‹_›)) (dp_xax ‹_› ‹_›) rfl hX0 (by decide) (List.mem_of_getElem? (i := 9) rfl) rfl dX0_moveTo_48 ?_
    simp only [u2_ap, reduceIte, Nat.reduceEqDiff]
    refine dp_iload_n C dX0_moveTo_51 rfl ?_
    refine dp_isub C dX0_moveTo_52 ?_
    refine dp_putA C ‹_› ‹_› (k := 6) hX0 (by decide) (List.mem_of_getElem? (i := 9) rfl) rfl (tyX0_ok _ (by decide)) rfl rfl dX0_moveTo_53 ?_
    refine dp_aload_n C dX0_moveTo_56 rfl ?_
    refine dp_aload_n C dX0_moveTo_57 rfl ?_
    refine dp_getf C (k := 7) (dp_mS ‹_› (dp_cA ‹_›)) (dp_xax ‹_› ‹_›) rfl hX0 (by decide) (List.mem_of_getElem? (i := 3) rfl) rfl dX0_moveTo_58 ?_
    simp only [u2_ap, reduceIte, Nat.reduceEqDiff]
    refine dp_iload_n C dX0_moveTo_61 rfl ?_
    refine dp_iadd C dX0_moveTo_62 ?_
    refine dp_iconst C dX0_moveTo_63 ?_
    refine dp_mmax C ⟨by omega, by omega⟩ ⟨by omega, by omega⟩ (List.mem_of_getElem? (i := 10) rfl) (List.mem_of_getElem? (i := 11) rfl) (List.mem_of_getElem? (i := 7) rfl) (List.mem_of_getElem? (i := 12) rfl) (Nat.le_of_ble_eq_true rfl) (Nat.le_of_ble_eq_true rfl) (Nat.le_of_ble_eq_true rfl) rfl ⟨Nat.zero_le _, Nat.zero_le _⟩ dX0_moveTo_64 ?_
    refine dp_putA C ‹_› ‹_› (k := 4) hX0 (by decide) (List.mem_of_getElem? (i := 3) rfl) rfl (tyX0_ok _ (by decide)) rfl rfl dX0_moveTo_67 ?_
    refine dp_vret C hret dX0_moveTo_70 ?_
    unfold mvV
    first | (rw [if_pos c13]; rfl) | (rw [if_neg c13]; rfl)
  · skip
    refine dp_aload_n C dX0_moveTo_16 rfl ?_
    refine dp_dup C dX0_moveTo_17 rfl ?_
    refine dp_getf C (k := 8) (dp_mS ‹_› (dp_cA ‹_›)) (dp_xax ‹_› ‹_›) rfl hX0 (by decide) (List.mem_of_getElem? (i := 2) rfl) rfl dX0_moveTo_18 ?_
    simp only [u2_ap, reduceIte, and_true, Nat.reduceEqDiff]
    refine dp_iload_n C dX0_moveTo_21 rfl ?_
    refine dp_iadd C dX0_moveTo_22 ?_
    refine dp_putA C ‹_› ‹_› (k := 5) hX0 (by decide) (List.mem_of_getElem? (i := 2) rfl) rfl (tyX0_ok _ (by decide)) rfl rfl dX0_moveTo_23 ?_
    refine dp_aload_n C dX0_moveTo_26 rfl ?_
    refine dp_aload_n C dX0_moveTo_27 rfl ?_
    refine dp_getf C (k := 7) (dp_mS ‹_› (dp_cA ‹_›)) (dp_xax ‹_› ‹_›) rfl hX0 (by decide) (List.mem_of_getElem? (i := 3) rfl) rfl dX0_moveTo_28 ?_
    simp only [u2_ap, reduceIte, Nat.reduceEqDiff]
    refine dp_iload_n C dX0_moveTo_31 rfl ?_
    refine dp_iadd C dX0_moveTo_32 ?_
    refine dp_aload_n C dX0_moveTo_33 rfl ?_
    refine dp_getf C (k := 3) (dp_mS ‹_› (dp_cA ‹_›)) (dp_xax ‹_› ‹_›) rfl hX0 (by decide) (List.mem_of_getElem? (i := 4) rfl) rfl dX0_moveTo_34 ?_
    simp only [u2_ap, reduceIte, Nat.reduceEqDiff]
    refine dp_mmin C ⟨by omega, by omega⟩ ⟨by omega, by omega⟩ (List.mem_of_getElem? (i := 5) rfl) (List.mem_of_getElem? (i := 6) rfl) (List.mem_of_getElem? (i := 7) rfl) (List.mem_of_getElem? (i := 8) rfl) (Nat.le_of_ble_eq_true rfl) (Nat.le_of_ble_eq_true rfl) (Nat.le_of_ble_eq_true rfl) rfl ⟨Nat.zero_le _, Nat.zero_le _⟩ dX0_moveTo_37 ?_
    refine dp_putA C ‹_› ‹_› (k := 4) hX0 (by decide) (List.mem_of_getElem? (i := 3) rfl) rfl (tyX0_ok _ (by decide)) rfl rfl dX0_moveTo_40 ?_
    refine dp_goto (tgt := 70) C dX0_moveTo_43 (by decide) ?_
    refine dp_vret C hret dX0_moveTo_70 ?_
    unfold mvV
    first | (rw [if_pos c13]; rfl) | (rw [if_neg c13]; rfl)
end
section
theorem yyX5_plan : yX5_plan.cls = RX5 ∧ yX5_plan.cls ≠ "java/lang/invoke/MethodHandle" ∧ yX5_plan.cls ≠ "java/lang/invoke/VarHandle" ∧ (parseMethodDescriptor yX5_plan.desc).map (fun d => d.parameters.length) = some 3 := by decide +kernel
set_option maxHeartbeats 4000000 in
set_option maxRecDepth 100000 in
theorem c_X5_plan {E : dp_E} (hE : dp_OK E) (l : Launch) {M : dp_M} {r w c : Nat} {V Y : dp_V} {to ov : Int} (hr : r < 7) (hw : w = 16 ∨ w = 17 ∨ w = 18) (hc : c = 3 ∨ c = 4) (hi : ivA c (V c)) (hto : -40000 ≤ to ∧ to ≤ 40000) (hov : 0 ≤ ov ∧ ov ≤ 500) : dp_met E l yX5_plan wsX5_plan 1 21 [.ref (eAd E r w), .ref (eAd E r c), .int (dp_I to), .int (dp_I ov)] (dS M r V Y) (dp_qv E (fun M1 => ∃ Y', M1 = dS M r V Y' ∧ (∀ c', c' ≠ w → Y' c' = Y c') ∧ wyOK c (V c) to ov (Y' w))) := by
  refine dp_of (cc := cX5_plan) (nL := 6) (own := RX5) (ret := none) (by decide) rfl rfl hE (by simp [Value.category]) (Nat.le_of_ble_eq_true rfl) ?_
  intro p e s m below meth co C hret
  show dp_G _ _ _ _ _ _ _ _ _ _ _ _ _ _ _ _ _ [some (.ref (eAd E r w)), some (.ref (eAd E r c)), some (.int (dp_I to)), some (.int (dp_I ov)), none, none] _
  have hX0 : ∀ w ∈ u_ws RX0 TX0 10, w ∈ wsX5_plan := fun w h => List.mem_cons_of_mem _ (List.mem_append_right _ (h))
  have hX5 : ∀ w ∈ u_ws RX5 TX5 7, w ∈ wsX5_plan := fun w h => List.mem_cons_of_mem _ (List.mem_append_left _ (List.mem_append_right _ (h)))
  have hb := @ax_bd c
  have bU := wyU_bd hi hto hov
  have bE := wyE_bd hi hto
  have bL := wyL_bd hi hto hov
  unfold ivA at hi
  have J258 : ∀ (Y' : dp_V) (sy d Pv : Int), Pv = wyP c (V c) to ov → (∀ c', c' ≠ w → Y' c' = Y c') → Y' w 0 = to → Y' w 1 = wyU (V c) to ov → Y' w 2 = wyE (V c) to → Y' w 5 = wyT (V c) to → dp_G E (dp_A E) p l e (dp_rm 1 21) s m [.ref (eAd E r w), .ref (eAd E r c), .int (dp_I to), .int (dp_I ov)].toArray below meth co 0 0 (MQ below (dp_qv E (fun M1 => ∃ Y', M1 = dS M r V Y' ∧ (∀ c', c' ≠ w → Y' c' = Y c') ∧ wyOK c (V c) to ov (Y' w))) [.ref (eAd E r w), .ref (eAd E r c), .int (dp_I to), .int (dp_I ov)].toArray s 0 0 (dp_A E)) (dS M r V Y') 258 [some (.ref (eAd E r w)), some (.ref (eAd E r c)), some (.int (dp_I to)), some (.int (dp_I ov)), some (.int (dp_I d)), some (.int (dp_I sy))] [.int (dp_I Pv), .ref (eAd E r w)] := by
    intro Y' sy d Pv hPv hY h0 hU hE hT
    subst hPv
    refine dp_putW C ‹_› ‹_› (k := 6) hX5 (by decide) (List.mem_of_getElem? (i := 9) rfl) rfl (tyX5_ok _ (by decide)) (by unfold wyP; exact dp_nb) (by unfold wyP; exact dp_fb) dX5_plan_258 ?_
    refine dp_aload_n C dX5_plan_261 rfl ?_
    refine dp_aload_n C dX5_plan_262 rfl ?_
    refine dp_getf C (k := 1) (dp_mS ‹_› (dp_cW ‹_›)) (dp_xwy ‹_› ‹_›) rfl hX5 (by decide) (List.mem_of_getElem? (i := 6) rfl) rfl dX5_plan_263 ?_
    simp (decide := true) only [u2_ap, reduceIte]
    rw [hU]
    refine dp_aload_n C dX5_plan_266 rfl ?_
    refine dp_getf C (k := 6) (dp_mS ‹_› (dp_cA ‹_›)) (dp_xax ‹_› ‹_›) rfl hX0 (by decide) (List.mem_of_getElem? (i := 8) rfl) rfl dX5_plan_267 ?_
    refine dp_isub C dX5_plan_270 ?_
    refine dp_mabs C ⟨by omega, by omega⟩ (List.mem_of_getElem? (i := 10) rfl) (List.mem_of_getElem? (i := 11) rfl) (List.mem_of_getElem? (i := 12) rfl) (List.mem_of_getElem? (i := 13) rfl) (Nat.le_of_ble_eq_true rfl) (Nat.le_of_ble_eq_true rfl) (Nat.le_of_ble_eq_true rfl) rfl ⟨Nat.zero_le _, Nat.zero_le _⟩ dX5_plan_271 ?_
    refine dp_aload_n C dX5_plan_274 rfl ?_
    refine dp_getf C (k := 2) (dp_mS ‹_› (dp_cW ‹_›)) (dp_xwy ‹_› ‹_›) rfl hX5 (by decide) (List.mem_of_getElem? (i := 7) rfl) rfl dX5_plan_275 ?_
    simp (decide := true) only [u2_ap, reduceIte]
    rw [hE]
    refine dp_aload_n C dX5_plan_278 rfl ?_
    refine dp_getf C (k := 1) (dp_mS ‹_› (dp_cW ‹_›)) (dp_xwy ‹_› ‹_›) rfl hX5 (by decide) (List.mem_of_getElem? (i := 6) rfl) rfl dX5_plan_279 ?_
    simp (decide := true) only [u2_ap, reduceIte]
    rw [hU]
    refine dp_isub C dX5_plan_282 ?_
    refine dp_mabs C ⟨by omega, by omega⟩ (List.mem_of_getElem? (i := 10) rfl) (List.mem_of_getElem? (i := 11) rfl) (List.mem_of_getElem? (i := 12) rfl) (List.mem_of_getElem? (i := 13) rfl) (Nat.le_of_ble_eq_true rfl) (Nat.le_of_ble_eq_true rfl) (Nat.le_of_ble_eq_true rfl) rfl ⟨Nat.zero_le _, Nat.zero_le _⟩ dX5_plan_283 ?_
    refine dp_iadd C dX5_plan_286 ?_
    show dp_G _ _ _ _ _ _ _ _ _ _ _ _ _ _ _ _ _ _ (.int (dp_I (wyL (V c) to ov)) :: _)
    refine dp_putW C ‹_› ‹_› (k := 3) hX5 (by decide) (List.mem_of_getElem? (i := 14) rfl) rfl (tyX5_ok _ (by decide)) rfl rfl dX5_plan_287 ?_
    refine dp_aload_n C dX5_plan_290 rfl ?_
    refine dp_aload_n C dX5_plan_291 rfl ?_
    refine dp_getf C (k := 5) (dp_mS ‹_› (dp_cA ‹_›)) (dp_xax ‹_› ‹_›) rfl hX0 (by decide) (List.mem_of_getElem? (i := 15) rfl) rfl dX5_plan_292 ?_
    refine dp_if_le (tgt := 317) C dX5_plan_295 (by decide) ⟨by omega, by omega⟩ (fun c295 => ?_) (fun c295 => ?_)
    · skip
      refine dp_iconst C dX5_plan_317 ?_
      refine dp_putW C ‹_› ‹_› (k := 4) hX5 (by decide) (List.mem_of_getElem? (i := 16) rfl) rfl (tyX5_ok _ (by decide)) rfl rfl dX5_plan_318 ?_
      refine dp_vret C hret dX5_plan_321 ?_
      exact ⟨_, rfl, fun c' h => by rw [← hY c' h]; simp only [u2_ne h], by simp (decide := true) only [u2_ap, reduceIte]; exact h0, by simp (decide := true) only [u2_ap, reduceIte]; exact hU, by simp (decide := true) only [u2_ap, reduceIte]; exact hE, by simp (decide := true) only [u2_ap, reduceIte], by simp (decide := true) only [u2_ap, reduceIte]; first | rfl | omega, by simp (decide := true) only [u2_ap, reduceIte]; exact hT, by simp (decide := true) only [u2_ap, reduceIte]⟩
    · skip
      refine dp_aload_n C dX5_plan_298 rfl ?_
      refine dp_getf C (k := 3) (dp_mS ‹_› (dp_cW ‹_›)) (dp_xwy ‹_› ‹_›) rfl hX5 (by decide) (List.mem_of_getElem? (i := 14) rfl) rfl dX5_plan_299 ?_
      simp (decide := true) only [u2_ap, reduceIte]
      refine dp_aload_n C dX5_plan_302 rfl ?_
      refine dp_getf C (k := 5) (dp_mS ‹_› (dp_cA ‹_›)) (dp_xax ‹_› ‹_›) rfl hX0 (by decide) (List.mem_of_getElem? (i := 15) rfl) rfl dX5_plan_303 ?_
      refine dp_iadd C dX5_plan_306 ?_
      refine dp_iconst C dX5_plan_307 ?_
      refine dp_isub C dX5_plan_308 ?_
      refine dp_aload_n C dX5_plan_309 rfl ?_
      refine dp_getf C (k := 5) (dp_mS ‹_› (dp_cA ‹_›)) (dp_xax ‹_› ‹_›) rfl hX0 (by decide) (List.mem_of_getElem? (i := 15) rfl) rfl dX5_plan_310 ?_
      refine dp_idiv C ⟨by omega, by omega, by omega, by omega⟩ dX5_plan_313 ?_
      refine dp_goto (tgt := 318) C dX5_plan_314 (by decide) ?_
      refine dp_putW C ‹_› ‹_› (k := 4) hX5 (by decide) (List.mem_of_getElem? (i := 16) rfl) rfl (tyX5_ok _ (by decide)) rfl rfl dX5_plan_318 ?_
      refine dp_vret C hret dX5_plan_321 ?_
      exact ⟨_, rfl, fun c' h => by rw [← hY c' h]; simp only [u2_ne h], by simp (decide := true) only [u2_ap, reduceIte]; exact h0, by simp (decide := true) only [u2_ap, reduceIte]; exact hU, by simp (decide := true) only [u2_ap, reduceIte]; exact hE, by simp (decide := true) only [u2_ap, reduceIte], by simp (decide := true) only [u2_ap, reduceIte]; first | rfl | omega, by simp (decide := true) only [u2_ap, reduceIte]; exact hT, by simp (decide := true) only [u2_ap, reduceIte]⟩
  have J230 : ∀ (Y' : dp_V) (sy d : Int), (∀ c', c' ≠ w → Y' c' = Y c') → Y' w 0 = to → Y' w 1 = wyU (V c) to ov → Y' w 2 = wyE (V c) to → Y' w 5 = wyT (V c) to → dp_G E (dp_A E) p l e (dp_rm 1 21) s m [.ref (eAd E r w), .ref (eAd E r c), .int (dp_I to), .int (dp_I ov)].toArray below meth co 0 0 (MQ below (dp_qv E (fun M1 => ∃ Y', M1 = dS M r V Y' ∧ (∀ c', c' ≠ w → Y' c' = Y c') ∧ wyOK c (V c) to ov (Y' w))) [.ref (eAd E r w), .ref (eAd E r c), .int (dp_I to), .int (dp_I ov)].toArray s 0 0 (dp_A E)) (dS M r V Y') 230 [some (.ref (eAd E r w)), some (.ref (eAd E r c)), some (.int (dp_I to)), some (.int (dp_I ov)), some (.int (dp_I d)), some (.int (dp_I sy))] [] := by
    intro Y' sy d hY h0 hU hE hT
    refine dp_aload_n C dX5_plan_230 rfl ?_
    refine dp_aload_n C dX5_plan_231 rfl ?_
    refine dp_aload_n C dX5_plan_232 rfl ?_
    refine dp_getf C (k := 1) (dp_mS ‹_› (dp_cW ‹_›)) (dp_xwy ‹_› ‹_›) rfl hX5 (by decide) (List.mem_of_getElem? (i := 6) rfl) rfl dX5_plan_233 ?_
    rw [hU]
    refine dp_cVi C (c_X0_reaches C.2.2.1 l ‹_› ‹_› ⟨by omega, by omega⟩) gX5_plan_X0_reaches rfl (dp_mS ‹_› (dp_cA ‹_›)) (dp_xax ‹_› ‹_›) rfl yyX0_reaches rfl ⟨Nat.le_of_ble_eq_true rfl, Nat.le_of_ble_eq_true rfl⟩ rfl (Nat.le_of_ble_eq_true rfl) rfl ⟨Nat.zero_le _, Nat.zero_le _⟩ dX5_plan_236 (fun x236 M236 h236 => ?_)
    obtain ⟨rfl, rfl⟩ := h236
    refine dp_ifz_eq (tgt := 257) C dX5_plan_239 (by decide) (fun c239 => ?_) (fun c239 => ?_)
    · skip
      refine dp_iconst C dX5_plan_257 ?_
      exact J258 _ _ _ _ (by unfold wyP dp_b; first | (rw [if_pos ⟨by assumption, by assumption⟩]; done) | (rw [if_neg (fun q => by first | exact absurd q.1 (by assumption) | exact absurd q.2 (by assumption))])) hY h0 hU hE hT
    · skip
      refine dp_aload_n C dX5_plan_242 rfl ?_
      refine dp_aload_n C dX5_plan_243 rfl ?_
      refine dp_getf C (k := 2) (dp_mS ‹_› (dp_cW ‹_›)) (dp_xwy ‹_› ‹_›) rfl hX5 (by decide) (List.mem_of_getElem? (i := 7) rfl) rfl dX5_plan_244 ?_
      rw [hE]
      refine dp_cVi C (c_X0_reaches C.2.2.1 l ‹_› ‹_› ⟨by omega, by omega⟩) gX5_plan_X0_reaches rfl (dp_mS ‹_› (dp_cA ‹_›)) (dp_xax ‹_› ‹_›) rfl yyX0_reaches rfl ⟨Nat.le_of_ble_eq_true rfl, Nat.le_of_ble_eq_true rfl⟩ rfl (Nat.le_of_ble_eq_true rfl) rfl ⟨Nat.zero_le _, Nat.zero_le _⟩ dX5_plan_247 (fun x247 M247 h247 => ?_)
      obtain ⟨rfl, rfl⟩ := h247
      refine dp_ifz_eq (tgt := 257) C dX5_plan_250 (by decide) (fun c250 => ?_) (fun c250 => ?_)
      · skip
        refine dp_iconst C dX5_plan_257 ?_
        exact J258 _ _ _ _ (by unfold wyP dp_b; first | (rw [if_pos ⟨by assumption, by assumption⟩]; done) | (rw [if_neg (fun q => by first | exact absurd q.1 (by assumption) | exact absurd q.2 (by assumption))])) hY h0 hU hE hT
      · skip
        refine dp_iconst C dX5_plan_253 ?_
        refine dp_goto (tgt := 258) C dX5_plan_254 (by decide) ?_
        exact J258 _ _ _ _ (by unfold wyP dp_b; first | (rw [if_pos ⟨by assumption, by assumption⟩]; done) | (rw [if_neg (fun q => by first | exact absurd q.1 (by assumption) | exact absurd q.2 (by assumption))])) hY h0 hU hE hT
  have J202 : ∀ (Y' : dp_V) (sy d : Int), (∀ c', c' ≠ w → Y' c' = Y c') → Y' w 0 = to → Y' w 5 = wyT (V c) to → (¬ wyT (V c) to = 0 → Y' w 1 = wyU (V c) to ov) → dp_R sy → (¬ sy = 0 → V c 3 = wyE (V c) to) → (sy = 0 → Y' w 2 = wyE (V c) to) → dp_G E (dp_A E) p l e (dp_rm 1 21) s m [.ref (eAd E r w), .ref (eAd E r c), .int (dp_I to), .int (dp_I ov)].toArray below meth co 0 0 (MQ below (dp_qv E (fun M1 => ∃ Y', M1 = dS M r V Y' ∧ (∀ c', c' ≠ w → Y' c' = Y c') ∧ wyOK c (V c) to ov (Y' w))) [.ref (eAd E r w), .ref (eAd E r c), .int (dp_I to), .int (dp_I ov)].toArray s 0 0 (dp_A E)) (dS M r V Y') 202 [some (.ref (eAd E r w)), some (.ref (eAd E r c)), some (.int (dp_I to)), some (.int (dp_I ov)), some (.int (dp_I d)), some (.int (dp_I sy))] [] := by
    intro Y' sy d hY h0 hT hU hsy hE1 hE0
    unfold dp_R at hsy
    have bT := @wyT_b (V c) to
    refine dp_iload C dX5_plan_202 rfl ?_
    refine dp_if_eq (tgt := 215) C dX5_plan_204 (by decide) ⟨by omega, by omega⟩ (fun c204 => ?_) (fun c204 => ?_)
    · skip
      refine dp_aload_n C dX5_plan_215 rfl ?_
      refine dp_getf C (k := 5) (dp_mS ‹_› (dp_cW ‹_›)) (dp_xwy ‹_› ‹_›) rfl hX5 (by decide) (List.mem_of_getElem? (i := 5) rfl) rfl dX5_plan_216 ?_
      try simp (decide := true) only [u2_ap, reduceIte]
      rw [hT]
      refine dp_if_ne (tgt := 230) C dX5_plan_219 (by decide) ⟨by omega, by omega⟩ (fun c219 => ?_) (fun c219 => ?_)
      · skip
        refine J230 _ _ _ (fun c' h => by first | exact hY c' h | (simp only [u2_ne h]; exact hY c' h)) (by first | exact h0 | (simp (decide := true) only [u2_ap, reduceIte]; exact h0)) ?_ ?_ ?_
        · first | exact hU (by assumption) | (simp (decide := true) only [u2_ap, reduceIte]; exact hU (by assumption)) | (simp (decide := true) only [u2_ap, reduceIte]; unfold wyU; rw [if_pos (by assumption)]; done)
        · try simp (decide := true) only [u2_ap, reduceIte]
          first | omega | (first | exact hE0 (by omega) | exact (hE1 (by omega)).symm)
        · try simp (decide := true) only [u2_ap, reduceIte]
          exact hT
      · skip
        refine dp_aload_n C dX5_plan_222 rfl ?_
        refine dp_aload_n C dX5_plan_223 rfl ?_
        refine dp_getf C (k := 6) (dp_mS ‹_› (dp_cA ‹_›)) (dp_xax ‹_› ‹_›) rfl hX0 (by decide) (List.mem_of_getElem? (i := 8) rfl) rfl dX5_plan_224 ?_
        refine dp_putW C ‹_› ‹_› (k := 1) hX5 (by decide) (List.mem_of_getElem? (i := 6) rfl) rfl (tyX5_ok _ (by decide)) rfl rfl dX5_plan_227 ?_
        refine J230 _ _ _ (fun c' h => by first | exact hY c' h | (simp only [u2_ne h]; exact hY c' h)) (by first | exact h0 | (simp (decide := true) only [u2_ap, reduceIte]; exact h0)) ?_ ?_ ?_
        · first | exact hU (by assumption) | (simp (decide := true) only [u2_ap, reduceIte]; exact hU (by assumption)) | (simp (decide := true) only [u2_ap, reduceIte]; unfold wyU; rw [if_pos (by assumption)]; done)
        · try simp (decide := true) only [u2_ap, reduceIte]
          first | omega | (first | exact hE0 (by omega) | exact (hE1 (by omega)).symm)
        · try simp (decide := true) only [u2_ap, reduceIte]
          exact hT
    · skip
      refine dp_aload_n C dX5_plan_207 rfl ?_
      refine dp_aload_n C dX5_plan_208 rfl ?_
      refine dp_getf C (k := 6) (dp_mS ‹_› (dp_cA ‹_›)) (dp_xax ‹_› ‹_›) rfl hX0 (by decide) (List.mem_of_getElem? (i := 8) rfl) rfl dX5_plan_209 ?_
      refine dp_putW C ‹_› ‹_› (k := 2) hX5 (by decide) (List.mem_of_getElem? (i := 7) rfl) rfl (tyX5_ok _ (by decide)) rfl rfl dX5_plan_212 ?_
      refine dp_aload_n C dX5_plan_215 rfl ?_
      refine dp_getf C (k := 5) (dp_mS ‹_› (dp_cW ‹_›)) (dp_xwy ‹_› ‹_›) rfl hX5 (by decide) (List.mem_of_getElem? (i := 5) rfl) rfl dX5_plan_216 ?_
      try simp (decide := true) only [u2_ap, reduceIte]
      rw [hT]
      refine dp_if_ne (tgt := 230) C dX5_plan_219 (by decide) ⟨by omega, by omega⟩ (fun c219 => ?_) (fun c219 => ?_)
      · skip
        refine J230 _ _ _ (fun c' h => by first | exact hY c' h | (simp only [u2_ne h]; exact hY c' h)) (by first | exact h0 | (simp (decide := true) only [u2_ap, reduceIte]; exact h0)) ?_ ?_ ?_
        · first | exact hU (by assumption) | (simp (decide := true) only [u2_ap, reduceIte]; exact hU (by assumption)) | (simp (decide := true) only [u2_ap, reduceIte]; unfold wyU; rw [if_pos (by assumption)]; done)
        · try simp (decide := true) only [u2_ap, reduceIte]
          first | omega | (first | exact hE0 (by omega) | exact (hE1 (by omega)).symm)
        · try simp (decide := true) only [u2_ap, reduceIte]
          exact hT
      · skip
        refine dp_aload_n C dX5_plan_222 rfl ?_
        refine dp_aload_n C dX5_plan_223 rfl ?_
        refine dp_getf C (k := 6) (dp_mS ‹_› (dp_cA ‹_›)) (dp_xax ‹_› ‹_›) rfl hX0 (by decide) (List.mem_of_getElem? (i := 8) rfl) rfl dX5_plan_224 ?_
        refine dp_putW C ‹_› ‹_› (k := 1) hX5 (by decide) (List.mem_of_getElem? (i := 6) rfl) rfl (tyX5_ok _ (by decide)) rfl rfl dX5_plan_227 ?_
        refine J230 _ _ _ (fun c' h => by first | exact hY c' h | (simp only [u2_ne h]; exact hY c' h)) (by first | exact h0 | (simp (decide := true) only [u2_ap, reduceIte]; exact h0)) ?_ ?_ ?_
        · first | exact hU (by assumption) | (simp (decide := true) only [u2_ap, reduceIte]; exact hU (by assumption)) | (simp (decide := true) only [u2_ap, reduceIte]; unfold wyU; rw [if_pos (by assumption)]; done)
        · try simp (decide := true) only [u2_ap, reduceIte]
          first | omega | (first | exact hE0 (by omega) | exact (hE1 (by omega)).symm)
        · try simp (decide := true) only [u2_ap, reduceIte]
          exact hT
  have J62 : ∀ (sy : Int), V c 1 = 1 → dp_R sy → (¬ sy = 0 → V c 3 - V c 4 = to ∧ V c 4 = V c 0) → (sy = 0 → ¬ (V c 3 - V c 4 = to ∧ V c 4 = V c 0)) → dp_G E (dp_A E) p l e (dp_rm 1 21) s m [.ref (eAd E r w), .ref (eAd E r c), .int (dp_I to), .int (dp_I ov)].toArray below meth co 0 0 (MQ below (dp_qv E (fun M1 => ∃ Y', M1 = dS M r V Y' ∧ (∀ c', c' ≠ w → Y' c' = Y c') ∧ wyOK c (V c) to ov (Y' w))) [.ref (eAd E r w), .ref (eAd E r c), .int (dp_I to), .int (dp_I ov)].toArray s 0 0 (dp_A E)) (dS M r V (u2 Y w 0 to)) 62 [some (.ref (eAd E r w)), some (.ref (eAd E r c)), some (.int (dp_I to)), some (.int (dp_I ov)), some (.int (dp_I (V c 3 - V c 4))), none] [.int (dp_I sy)] := by
    intro sy hside hsy hs1 hs0
    unfold dp_R at hsy
    refine dp_istore C dX5_plan_62 (Nat.le_of_ble_eq_true rfl) ?_
    dsimp only [List.set]
    refine dp_aload_n C dX5_plan_64 rfl ?_
    refine dp_iload C dX5_plan_65 rfl ?_
    refine dp_iload_n C dX5_plan_67 rfl ?_
    refine dp_icmp_lt (tgt := 80) C dX5_plan_68 (by decide) ⟨by omega, by omega⟩ ⟨by omega, by omega⟩ (fun c68 => ?_) (fun c68 => ?_)
    · skip
      refine dp_iconst C dX5_plan_80 ?_
      refine dp_putW C ‹_› ‹_› (k := 5) hX5 (by decide) (List.mem_of_getElem? (i := 5) rfl) rfl (tyX5_ok _ (by decide)) (by first | rfl | exact dp_nb) (by first | rfl | decide) dX5_plan_81 ?_
      refine dp_aload_n C dX5_plan_84 rfl ?_
      refine dp_iload_n C dX5_plan_85 rfl ?_
      refine dp_iload_n C dX5_plan_86 rfl ?_
      refine dp_isub C dX5_plan_87 ?_
      refine dp_putW C ‹_› ‹_› (k := 1) hX5 (by decide) (List.mem_of_getElem? (i := 6) rfl) rfl (tyX5_ok _ (by decide)) rfl rfl dX5_plan_88 ?_
      refine dp_aload_n C dX5_plan_91 rfl ?_
      refine dp_iload_n C dX5_plan_92 rfl ?_
      refine dp_aload_n C dX5_plan_93 rfl ?_
      refine dp_getf C (k := 3) (dp_mS ‹_› (dp_cA ‹_›)) (dp_xax ‹_› ‹_›) rfl hX0 (by decide) (List.mem_of_getElem? (i := 4) rfl) rfl dX5_plan_94 ?_
      refine dp_iadd C dX5_plan_97 ?_
      refine dp_putW C ‹_› ‹_› (k := 2) hX5 (by decide) (List.mem_of_getElem? (i := 7) rfl) rfl (tyX5_ok _ (by decide)) rfl rfl dX5_plan_98 ?_
      refine dp_goto (tgt := 202) C dX5_plan_101 (by decide) ?_
      refine J202 _ _ _ (fun c' h => by simp only [u2_ne h]) (by simp (decide := true) only [u2_ap, reduceIte]) ?_ ?_ (by first | assumption | exact ⟨by omega, by omega⟩) ?_ ?_
      · simp (decide := true) only [u2_ap, reduceIte]
        unfold wyT
        (repeat' split) <;> omega
      · intro hq
        first | (simp (decide := true) only [u2_ap, reduceIte]; unfold wyU; rw [if_neg hq]; (repeat' split) <;> omega; done) | (exfalso; apply hq; unfold wyT; (repeat' split) <;> omega)
      · intro hq
        unfold wyE
        (repeat' split) <;> omega
      · intro hq
        simp (decide := true) only [u2_ap, reduceIte]
        unfold wyE
        (repeat' split) <;> omega
    · skip
      refine dp_iload C dX5_plan_71 rfl ?_
      refine dp_if_ne (tgt := 80) C dX5_plan_73 (by decide) ⟨by omega, by omega⟩ (fun c73 => ?_) (fun c73 => ?_)
      · skip
        refine dp_iconst C dX5_plan_80 ?_
        refine dp_putW C ‹_› ‹_› (k := 5) hX5 (by decide) (List.mem_of_getElem? (i := 5) rfl) rfl (tyX5_ok _ (by decide)) (by first | rfl | exact dp_nb) (by first | rfl | decide) dX5_plan_81 ?_
        refine dp_aload_n C dX5_plan_84 rfl ?_
        refine dp_iload_n C dX5_plan_85 rfl ?_
        refine dp_iload_n C dX5_plan_86 rfl ?_
        refine dp_isub C dX5_plan_87 ?_
        refine dp_putW C ‹_› ‹_› (k := 1) hX5 (by decide) (List.mem_of_getElem? (i := 6) rfl) rfl (tyX5_ok _ (by decide)) rfl rfl dX5_plan_88 ?_
        refine dp_aload_n C dX5_plan_91 rfl ?_
        refine dp_iload_n C dX5_plan_92 rfl ?_
        refine dp_aload_n C dX5_plan_93 rfl ?_
        refine dp_getf C (k := 3) (dp_mS ‹_› (dp_cA ‹_›)) (dp_xax ‹_› ‹_›) rfl hX0 (by decide) (List.mem_of_getElem? (i := 4) rfl) rfl dX5_plan_94 ?_
        refine dp_iadd C dX5_plan_97 ?_
        refine dp_putW C ‹_› ‹_› (k := 2) hX5 (by decide) (List.mem_of_getElem? (i := 7) rfl) rfl (tyX5_ok _ (by decide)) rfl rfl dX5_plan_98 ?_
        refine dp_goto (tgt := 202) C dX5_plan_101 (by decide) ?_
        refine J202 _ _ _ (fun c' h => by simp only [u2_ne h]) (by simp (decide := true) only [u2_ap, reduceIte]) ?_ ?_ (by first | assumption | exact ⟨by omega, by omega⟩) ?_ ?_
        · simp (decide := true) only [u2_ap, reduceIte]
          unfold wyT
          (repeat' split) <;> omega
        · intro hq
          first | (simp (decide := true) only [u2_ap, reduceIte]; unfold wyU; rw [if_neg hq]; (repeat' split) <;> omega; done) | (exfalso; apply hq; unfold wyT; (repeat' split) <;> omega)
        · intro hq
          unfold wyE
          (repeat' split) <;> omega
        · intro hq
          simp (decide := true) only [u2_ap, reduceIte]
          unfold wyE
          (repeat' split) <;> omega
      · skip
        refine dp_iconst C dX5_plan_76 ?_
        refine dp_goto (tgt := 81) C dX5_plan_77 (by decide) ?_
        refine dp_putW C ‹_› ‹_› (k := 5) hX5 (by decide) (List.mem_of_getElem? (i := 5) rfl) rfl (tyX5_ok _ (by decide)) (by first | rfl | exact dp_nb) (by first | rfl | decide) dX5_plan_81 ?_
        refine dp_aload_n C dX5_plan_84 rfl ?_
        refine dp_iload_n C dX5_plan_85 rfl ?_
        refine dp_iload_n C dX5_plan_86 rfl ?_
        refine dp_isub C dX5_plan_87 ?_
        refine dp_putW C ‹_› ‹_› (k := 1) hX5 (by decide) (List.mem_of_getElem? (i := 6) rfl) rfl (tyX5_ok _ (by decide)) rfl rfl dX5_plan_88 ?_
        refine dp_aload_n C dX5_plan_91 rfl ?_
        refine dp_iload_n C dX5_plan_92 rfl ?_
        refine dp_aload_n C dX5_plan_93 rfl ?_
        refine dp_getf C (k := 3) (dp_mS ‹_› (dp_cA ‹_›)) (dp_xax ‹_› ‹_›) rfl hX0 (by decide) (List.mem_of_getElem? (i := 4) rfl) rfl dX5_plan_94 ?_
        refine dp_iadd C dX5_plan_97 ?_
        refine dp_putW C ‹_› ‹_› (k := 2) hX5 (by decide) (List.mem_of_getElem? (i := 7) rfl) rfl (tyX5_ok _ (by decide)) rfl rfl dX5_plan_98 ?_
        refine dp_goto (tgt := 202) C dX5_plan_101 (by decide) ?_
        refine J202 _ _ _ (fun c' h => by simp only [u2_ne h]) (by simp (decide := true) only [u2_ap, reduceIte]) ?_ ?_ (by first | assumption | exact ⟨by omega, by omega⟩) ?_ ?_
        · simp (decide := true) only [u2_ap, reduceIte]
          unfold wyT
          (repeat' split) <;> omega
        · intro hq
          first | (simp (decide := true) only [u2_ap, reduceIte]; unfold wyU; rw [if_neg hq]; (repeat' split) <;> omega; done) | (exfalso; apply hq; unfold wyT; (repeat' split) <;> omega)
        · intro hq
          unfold wyE
          (repeat' split) <;> omega
        · intro hq
          simp (decide := true) only [u2_ap, reduceIte]
          unfold wyE
          (repeat' split) <;> omega
  have J122 : ∀ (sy : Int), V c 1 = 2 → dp_R sy → (¬ sy = 0 → V c 3 - V c 4 = to ∧ V c 4 = 0) → (sy = 0 → ¬ (V c 3 - V c 4 = to ∧ V c 4 = 0)) → dp_G E (dp_A E) p l e (dp_rm 1 21) s m [.ref (eAd E r w), .ref (eAd E r c), .int (dp_I to), .int (dp_I ov)].toArray below meth co 0 0 (MQ below (dp_qv E (fun M1 => ∃ Y', M1 = dS M r V Y' ∧ (∀ c', c' ≠ w → Y' c' = Y c') ∧ wyOK c (V c) to ov (Y' w))) [.ref (eAd E r w), .ref (eAd E r c), .int (dp_I to), .int (dp_I ov)].toArray s 0 0 (dp_A E)) (dS M r V (u2 Y w 0 to)) 122 [some (.ref (eAd E r w)), some (.ref (eAd E r c)), some (.int (dp_I to)), some (.int (dp_I ov)), some (.int (dp_I (V c 3 - V c 4))), none] [.int (dp_I sy)] := by
    intro sy hside hsy hs1 hs0
    unfold dp_R at hsy
    refine dp_istore C dX5_plan_122 (Nat.le_of_ble_eq_true rfl) ?_
    dsimp only [List.set]
    refine dp_aload_n C dX5_plan_124 rfl ?_
    refine dp_iload C dX5_plan_125 rfl ?_
    refine dp_iload_n C dX5_plan_127 rfl ?_
    refine dp_icmp_gt (tgt := 140) C dX5_plan_128 (by decide) ⟨by omega, by omega⟩ ⟨by omega, by omega⟩ (fun c128 => ?_) (fun c128 => ?_)
    · skip
      refine dp_iconst C dX5_plan_140 ?_
      refine dp_putW C ‹_› ‹_› (k := 5) hX5 (by decide) (List.mem_of_getElem? (i := 5) rfl) rfl (tyX5_ok _ (by decide)) (by first | rfl | exact dp_nb) (by first | rfl | decide) dX5_plan_141 ?_
      refine dp_aload_n C dX5_plan_144 rfl ?_
      refine dp_iload_n C dX5_plan_145 rfl ?_
      refine dp_aload_n C dX5_plan_146 rfl ?_
      refine dp_getf C (k := 3) (dp_mS ‹_› (dp_cA ‹_›)) (dp_xax ‹_› ‹_›) rfl hX0 (by decide) (List.mem_of_getElem? (i := 4) rfl) rfl dX5_plan_147 ?_
      refine dp_iadd C dX5_plan_150 ?_
      refine dp_iload_n C dX5_plan_151 rfl ?_
      refine dp_iadd C dX5_plan_152 ?_
      refine dp_putW C ‹_› ‹_› (k := 1) hX5 (by decide) (List.mem_of_getElem? (i := 6) rfl) rfl (tyX5_ok _ (by decide)) rfl rfl dX5_plan_153 ?_
      refine dp_aload_n C dX5_plan_156 rfl ?_
      refine dp_iload_n C dX5_plan_157 rfl ?_
      refine dp_putW C ‹_› ‹_› (k := 2) hX5 (by decide) (List.mem_of_getElem? (i := 7) rfl) rfl (tyX5_ok _ (by decide)) rfl rfl dX5_plan_158 ?_
      refine dp_goto (tgt := 202) C dX5_plan_161 (by decide) ?_
      refine J202 _ _ _ (fun c' h => by simp only [u2_ne h]) (by simp (decide := true) only [u2_ap, reduceIte]) ?_ ?_ (by first | assumption | exact ⟨by omega, by omega⟩) ?_ ?_
      · simp (decide := true) only [u2_ap, reduceIte]
        unfold wyT
        (repeat' split) <;> omega
      · intro hq
        first | (simp (decide := true) only [u2_ap, reduceIte]; unfold wyU; rw [if_neg hq]; (repeat' split) <;> omega; done) | (exfalso; apply hq; unfold wyT; (repeat' split) <;> omega)
      · intro hq
        unfold wyE
        (repeat' split) <;> omega
      · intro hq
        simp (decide := true) only [u2_ap, reduceIte]
        unfold wyE
        (repeat' split) <;> omega
    · skip
      refine dp_iload C dX5_plan_131 rfl ?_
      refine dp_if_ne (tgt := 140) C dX5_plan_133 (by decide) ⟨by omega, by omega⟩ (fun c133 => ?_) (fun c133 => ?_)
      · skip
        refine dp_iconst C dX5_plan_140 ?_
        refine dp_putW C ‹_› ‹_› (k := 5) hX5 (by decide) (List.mem_of_getElem? (i := 5) rfl) rfl (tyX5_ok _ (by decide)) (by first | rfl | exact dp_nb) (by first | rfl | decide) dX5_plan_141 ?_
        refine dp_aload_n C dX5_plan_144 rfl ?_
        refine dp_iload_n C dX5_plan_145 rfl ?_
        refine dp_aload_n C dX5_plan_146 rfl ?_
        refine dp_getf C (k := 3) (dp_mS ‹_› (dp_cA ‹_›)) (dp_xax ‹_› ‹_›) rfl hX0 (by decide) (List.mem_of_getElem? (i := 4) rfl) rfl dX5_plan_147 ?_
        refine dp_iadd C dX5_plan_150 ?_
        refine dp_iload_n C dX5_plan_151 rfl ?_
        refine dp_iadd C dX5_plan_152 ?_
        refine dp_putW C ‹_› ‹_› (k := 1) hX5 (by decide) (List.mem_of_getElem? (i := 6) rfl) rfl (tyX5_ok _ (by decide)) rfl rfl dX5_plan_153 ?_
        refine dp_aload_n C dX5_plan_156 rfl ?_
        refine dp_iload_n C dX5_plan_157 rfl ?_
        refine dp_putW C ‹_› ‹_› (k := 2) hX5 (by decide) (List.mem_of_getElem? (i := 7) rfl) rfl (tyX5_ok _ (by decide)) rfl rfl dX5_plan_158 ?_
        refine dp_goto (tgt := 202) C dX5_plan_161 (by decide) ?_
        refine J202 _ _ _ (fun c' h => by simp only [u2_ne h]) (by simp (decide := true) only [u2_ap, reduceIte]) ?_ ?_ (by first | assumption | exact ⟨by omega, by omega⟩) ?_ ?_
        · simp (decide := true) only [u2_ap, reduceIte]
          unfold wyT
          (repeat' split) <;> omega
        · intro hq
          first | (simp (decide := true) only [u2_ap, reduceIte]; unfold wyU; rw [if_neg hq]; (repeat' split) <;> omega; done) | (exfalso; apply hq; unfold wyT; (repeat' split) <;> omega)
        · intro hq
          unfold wyE
          (repeat' split) <;> omega
        · intro hq
          simp (decide := true) only [u2_ap, reduceIte]
          unfold wyE
          (repeat' split) <;> omega
      · skip
        refine dp_iconst C dX5_plan_136 ?_
        refine dp_goto (tgt := 141) C dX5_plan_137 (by decide) ?_
        refine dp_putW C ‹_› ‹_› (k := 5) hX5 (by decide) (List.mem_of_getElem? (i := 5) rfl) rfl (tyX5_ok _ (by decide)) (by first | rfl | exact dp_nb) (by first | rfl | decide) dX5_plan_141 ?_
        refine dp_aload_n C dX5_plan_144 rfl ?_
        refine dp_iload_n C dX5_plan_145 rfl ?_
        refine dp_aload_n C dX5_plan_146 rfl ?_
        refine dp_getf C (k := 3) (dp_mS ‹_› (dp_cA ‹_›)) (dp_xax ‹_› ‹_›) rfl hX0 (by decide) (List.mem_of_getElem? (i := 4) rfl) rfl dX5_plan_147 ?_
        refine dp_iadd C dX5_plan_150 ?_
        refine dp_iload_n C dX5_plan_151 rfl ?_
        refine dp_iadd C dX5_plan_152 ?_
        refine dp_putW C ‹_› ‹_› (k := 1) hX5 (by decide) (List.mem_of_getElem? (i := 6) rfl) rfl (tyX5_ok _ (by decide)) rfl rfl dX5_plan_153 ?_
        refine dp_aload_n C dX5_plan_156 rfl ?_
        refine dp_iload_n C dX5_plan_157 rfl ?_
        refine dp_putW C ‹_› ‹_› (k := 2) hX5 (by decide) (List.mem_of_getElem? (i := 7) rfl) rfl (tyX5_ok _ (by decide)) rfl rfl dX5_plan_158 ?_
        refine dp_goto (tgt := 202) C dX5_plan_161 (by decide) ?_
        refine J202 _ _ _ (fun c' h => by simp only [u2_ne h]) (by simp (decide := true) only [u2_ap, reduceIte]) ?_ ?_ (by first | assumption | exact ⟨by omega, by omega⟩) ?_ ?_
        · simp (decide := true) only [u2_ap, reduceIte]
          unfold wyT
          (repeat' split) <;> omega
        · intro hq
          first | (simp (decide := true) only [u2_ap, reduceIte]; unfold wyU; rw [if_neg hq]; (repeat' split) <;> omega; done) | (exfalso; apply hq; unfold wyT; (repeat' split) <;> omega)
        · intro hq
          unfold wyE
          (repeat' split) <;> omega
        · intro hq
          simp (decide := true) only [u2_ap, reduceIte]
          unfold wyE
          (repeat' split) <;> omega
  have J175 : ∀ (sy : Int), ¬ V c 1 = 1 ∧ ¬ V c 1 = 2 → dp_R sy → (¬ sy = 0 → V c 3 - V c 4 = to) → (sy = 0 → ¬ (V c 3 - V c 4 = to)) → dp_G E (dp_A E) p l e (dp_rm 1 21) s m [.ref (eAd E r w), .ref (eAd E r c), .int (dp_I to), .int (dp_I ov)].toArray below meth co 0 0 (MQ below (dp_qv E (fun M1 => ∃ Y', M1 = dS M r V Y' ∧ (∀ c', c' ≠ w → Y' c' = Y c') ∧ wyOK c (V c) to ov (Y' w))) [.ref (eAd E r w), .ref (eAd E r c), .int (dp_I to), .int (dp_I ov)].toArray s 0 0 (dp_A E)) (dS M r V (u2 Y w 0 to)) 175 [some (.ref (eAd E r w)), some (.ref (eAd E r c)), some (.int (dp_I to)), some (.int (dp_I ov)), some (.int (dp_I (V c 3 - V c 4))), none] [.int (dp_I sy)] := by
    intro sy hside hsy hs1 hs0
    unfold dp_R at hsy
    refine dp_istore C dX5_plan_175 (Nat.le_of_ble_eq_true rfl) ?_
    dsimp only [List.set]
    refine dp_aload_n C dX5_plan_177 rfl ?_
    refine dp_iconst C dX5_plan_178 ?_
    refine dp_putW C ‹_› ‹_› (k := 5) hX5 (by decide) (List.mem_of_getElem? (i := 5) rfl) rfl (tyX5_ok _ (by decide)) (by first | rfl | exact dp_nb) (by first | rfl | decide) dX5_plan_179 ?_
    refine dp_aload_n C dX5_plan_182 rfl ?_
    refine dp_iload C dX5_plan_183 rfl ?_
    refine dp_iload_n C dX5_plan_185 rfl ?_
    refine dp_icmp_ge (tgt := 198) C dX5_plan_186 (by decide) ⟨by omega, by omega⟩ ⟨by omega, by omega⟩ (fun c186 => ?_) (fun c186 => ?_)
    · skip
      refine dp_iload_n C dX5_plan_198 rfl ?_
      refine dp_putW C ‹_› ‹_› (k := 2) hX5 (by decide) (List.mem_of_getElem? (i := 7) rfl) rfl (tyX5_ok _ (by decide)) rfl rfl dX5_plan_199 ?_
      refine J202 _ _ _ (fun c' h => by simp only [u2_ne h]) (by simp (decide := true) only [u2_ap, reduceIte]) ?_ ?_ (by first | assumption | exact ⟨by omega, by omega⟩) ?_ ?_
      · simp (decide := true) only [u2_ap, reduceIte]
        unfold wyT
        (repeat' split) <;> omega
      · intro hq
        first | (simp (decide := true) only [u2_ap, reduceIte]; unfold wyU; rw [if_neg hq]; (repeat' split) <;> omega; done) | (exfalso; apply hq; unfold wyT; (repeat' split) <;> omega)
      · intro hq
        unfold wyE
        (repeat' split) <;> omega
      · intro hq
        simp (decide := true) only [u2_ap, reduceIte]
        unfold wyE
        (repeat' split) <;> omega
    · skip
      refine dp_iload_n C dX5_plan_189 rfl ?_
      refine dp_aload_n C dX5_plan_190 rfl ?_
      refine dp_getf C (k := 3) (dp_mS ‹_› (dp_cA ‹_›)) (dp_xax ‹_› ‹_›) rfl hX0 (by decide) (List.mem_of_getElem? (i := 4) rfl) rfl dX5_plan_191 ?_
      refine dp_iadd C dX5_plan_194 ?_
      refine dp_goto (tgt := 199) C dX5_plan_195 (by decide) ?_
      refine dp_putW C ‹_› ‹_› (k := 2) hX5 (by decide) (List.mem_of_getElem? (i := 7) rfl) rfl (tyX5_ok _ (by decide)) rfl rfl dX5_plan_199 ?_
      refine J202 _ _ _ (fun c' h => by simp only [u2_ne h]) (by simp (decide := true) only [u2_ap, reduceIte]) ?_ ?_ (by first | assumption | exact ⟨by omega, by omega⟩) ?_ ?_
      · simp (decide := true) only [u2_ap, reduceIte]
        unfold wyT
        (repeat' split) <;> omega
      · intro hq
        first | (simp (decide := true) only [u2_ap, reduceIte]; unfold wyU; rw [if_neg hq]; (repeat' split) <;> omega; done) | (exfalso; apply hq; unfold wyT; (repeat' split) <;> omega)
      · intro hq
        unfold wyE
        (repeat' split) <;> omega
      · intro hq
        simp (decide := true) only [u2_ap, reduceIte]
        unfold wyE
        (repeat' split) <;> omega
  refine dp_aload_n C dX5_plan_0 rfl ?_
  refine dp_cVi C (c_X0_dish C.2.2.1 l ‹_› ‹_›) gX5_plan_X0_dish rfl (dp_mS ‹_› (dp_cA ‹_›)) (dp_xax ‹_› ‹_›) rfl yyX0_dish rfl ⟨Nat.le_of_ble_eq_true rfl, Nat.le_of_ble_eq_true rfl⟩ rfl (Nat.le_of_ble_eq_true rfl) rfl ⟨Nat.zero_le _, Nat.zero_le _⟩ dX5_plan_1 (fun x1 M1 h1 => ?_)
  obtain ⟨rfl, rfl⟩ := h1
  refine dp_istore C dX5_plan_4 (Nat.le_of_ble_eq_true rfl) ?_
  dsimp only [List.set]
  refine dp_aload_n C dX5_plan_6 rfl ?_
  refine dp_iload_n C dX5_plan_7 rfl ?_
  refine dp_putW C ‹_› ‹_› (k := 0) hX5 (by decide) (List.mem_of_getElem? (i := 1) rfl) rfl (tyX5_ok _ (by decide)) rfl rfl dX5_plan_8 ?_
  refine dp_aload_n C dX5_plan_11 rfl ?_
  refine dp_getf C (k := 4) (dp_mS ‹_› (dp_cA ‹_›)) (dp_xax ‹_› ‹_›) rfl hX0 (by decide) (List.mem_of_getElem? (i := 2) rfl) rfl dX5_plan_12 ?_
  refine dp_look2 (t1 := 40) (t2 := 104) (td := 164) C dX5_plan_15 (by decide) (by decide) (by decide) (by decide) ⟨by omega, by omega⟩ (fun c15 => ?_) (fun c15 => ?_) (fun c15 c15b => ?_)
  · skip
    refine dp_iload C dX5_plan_40 rfl ?_
    refine dp_iload_n C dX5_plan_42 rfl ?_
    refine dp_icmp_ne (tgt := 61) C dX5_plan_43 (by decide) ⟨by omega, by omega⟩ ⟨by omega, by omega⟩ (fun c43 => ?_) (fun c43 => ?_)
    · skip
      refine dp_iconst C dX5_plan_61 ?_
      exact J62 _ (by first | assumption | exact ⟨by assumption, by assumption⟩) ⟨by omega, by omega⟩ (fun _ => by omega) (fun _ => by omega)
    · skip
      refine dp_aload_n C dX5_plan_46 rfl ?_
      refine dp_getf C (k := 7) (dp_mS ‹_› (dp_cA ‹_›)) (dp_xax ‹_› ‹_›) rfl hX0 (by decide) (List.mem_of_getElem? (i := 3) rfl) rfl dX5_plan_47 ?_
      refine dp_aload_n C dX5_plan_50 rfl ?_
      refine dp_getf C (k := 3) (dp_mS ‹_› (dp_cA ‹_›)) (dp_xax ‹_› ‹_›) rfl hX0 (by decide) (List.mem_of_getElem? (i := 4) rfl) rfl dX5_plan_51 ?_
      refine dp_icmp_ne (tgt := 61) C dX5_plan_54 (by decide) ⟨by omega, by omega⟩ ⟨by omega, by omega⟩ (fun c54 => ?_) (fun c54 => ?_)
      · skip
        refine dp_iconst C dX5_plan_61 ?_
        exact J62 _ (by first | assumption | exact ⟨by assumption, by assumption⟩) ⟨by omega, by omega⟩ (fun _ => by omega) (fun _ => by omega)
      · skip
        refine dp_iconst C dX5_plan_57 ?_
        refine dp_goto (tgt := 62) C dX5_plan_58 (by decide) ?_
        exact J62 _ (by first | assumption | exact ⟨by assumption, by assumption⟩) ⟨by omega, by omega⟩ (fun _ => by omega) (fun _ => by omega)
  · skip
    refine dp_iload C dX5_plan_104 rfl ?_
    refine dp_iload_n C dX5_plan_106 rfl ?_
    refine dp_icmp_ne (tgt := 121) C dX5_plan_107 (by decide) ⟨by omega, by omega⟩ ⟨by omega, by omega⟩ (fun c107 => ?_) (fun c107 => ?_)
    · skip
      refine dp_iconst C dX5_plan_121 ?_
      exact J122 _ (by first | assumption | exact ⟨by assumption, by assumption⟩) ⟨by omega, by omega⟩ (fun _ => by omega) (fun _ => by omega)
    · skip
      refine dp_aload_n C dX5_plan_110 rfl ?_
      refine dp_getf C (k := 7) (dp_mS ‹_› (dp_cA ‹_›)) (dp_xax ‹_› ‹_›) rfl hX0 (by decide) (List.mem_of_getElem? (i := 3) rfl) rfl dX5_plan_111 ?_
      refine dp_if_ne (tgt := 121) C dX5_plan_114 (by decide) ⟨by omega, by omega⟩ (fun c114 => ?_) (fun c114 => ?_)
      · skip
        refine dp_iconst C dX5_plan_121 ?_
        exact J122 _ (by first | assumption | exact ⟨by assumption, by assumption⟩) ⟨by omega, by omega⟩ (fun _ => by omega) (fun _ => by omega)
      · skip
        refine dp_iconst C dX5_plan_117 ?_
        refine dp_goto (tgt := 122) C dX5_plan_118 (by decide) ?_
        exact J122 _ (by first | assumption | exact ⟨by assumption, by assumption⟩) ⟨by omega, by omega⟩ (fun _ => by omega) (fun _ => by omega)
  · skip
    refine dp_iload C dX5_plan_164 rfl ?_
    refine dp_iload_n C dX5_plan_166 rfl ?_
    refine dp_icmp_ne (tgt := 174) C dX5_plan_167 (by decide) ⟨by omega, by omega⟩ ⟨by omega, by omega⟩ (fun c167 => ?_) (fun c167 => ?_)
    · skip
      refine dp_iconst C dX5_plan_174 ?_
      exact J175 _ (by first | assumption | exact ⟨by assumption, by assumption⟩) ⟨by omega, by omega⟩ (fun _ => by omega) (fun _ => by omega)
    · skip
      refine dp_iconst C dX5_plan_170 ?_
      refine dp_goto (tgt := 175) C dX5_plan_171 (by decide) ?_
      exact J175 _ (by first | assumption | exact ⟨by assumption, by assumption⟩) ⟨by omega, by omega⟩ (fun _ => by omega) (fun _ => by omega)
end
