section
-- ===== PART A: goes FIRST, ahead of the names: the tables' words, and 'selects' of the private methods out of them =====
/-- a private method of a class that the tables say can be made, by its rows of tables_1 -/
def lw_okq (q : MethodName × Nat) : Prop := (q.1.cls ≠ "java/lang/invoke/MethodHandle" ∧ q.1.cls ≠ "java/lang/invoke/VarHandle") ∧ Cond.instantiable q.1.cls q.2 ∈ tables_1 ∧ Cond.privateMethod q.1 ∈ tables_1 ∧ Cond.instanceMethod q.1 ∈ tables_1
theorem lw_p0 : lw_okq (⟨"HallHeard", "lineOfHall", "()I"⟩, 11) := ⟨⟨by decide +kernel, by decide +kernel⟩, List.mem_of_getElem? (i := 13) (by decide +kernel), List.mem_of_getElem? (i := 358) (by decide +kernel), List.mem_of_getElem? (i := 359) (by decide +kernel)⟩
theorem lw_p1 : lw_okq (⟨"HallHeard", "lostInHall", "()I"⟩, 11) := ⟨⟨by decide +kernel, by decide +kernel⟩, List.mem_of_getElem? (i := 13) (by decide +kernel), List.mem_of_getElem? (i := 362) (by decide +kernel), List.mem_of_getElem? (i := 363) (by decide +kernel)⟩
theorem lw_p2 : lw_okq (⟨"HallHeard", "decayOfHall", "()I"⟩, 11) := ⟨⟨by decide +kernel, by decide +kernel⟩, List.mem_of_getElem? (i := 13) (by decide +kernel), List.mem_of_getElem? (i := 366) (by decide +kernel), List.mem_of_getElem? (i := 367) (by decide +kernel)⟩
theorem lw_p3 : lw_okq (⟨"HallHeard", "areThere", "(II)Z"⟩, 11) := ⟨⟨by decide +kernel, by decide +kernel⟩, List.mem_of_getElem? (i := 13) (by decide +kernel), List.mem_of_getElem? (i := 374) (by decide +kernel), List.mem_of_getElem? (i := 375) (by decide +kernel)⟩
theorem lw_p4 : lw_okq (⟨"HallHeard", "find", "(IIII)V"⟩, 11) := ⟨⟨by decide +kernel, by decide +kernel⟩, List.mem_of_getElem? (i := 13) (by decide +kernel), List.mem_of_getElem? (i := 378) (by decide +kernel), List.mem_of_getElem? (i := 379) (by decide +kernel)⟩
theorem lw_p5 : lw_okq (⟨"HallHeard", "startRoute", "(II)V"⟩, 11) := ⟨⟨by decide +kernel, by decide +kernel⟩, List.mem_of_getElem? (i := 13) (by decide +kernel), List.mem_of_getElem? (i := 386) (by decide +kernel), List.mem_of_getElem? (i := 387) (by decide +kernel)⟩
theorem lw_p6 : lw_okq (⟨"HallHeard", "tryRows", "(II)V"⟩, 11) := ⟨⟨by decide +kernel, by decide +kernel⟩, List.mem_of_getElem? (i := 13) (by decide +kernel), List.mem_of_getElem? (i := 394) (by decide +kernel), List.mem_of_getElem? (i := 395) (by decide +kernel)⟩
theorem lw_p7 : lw_okq (⟨"HallHeard$Route", "setBounce", "(IILHallHeard$Walls;)Z"⟩, 8) := ⟨⟨by decide +kernel, by decide +kernel⟩, List.mem_of_getElem? (i := 100) (by decide +kernel), List.mem_of_getElem? (i := 402) (by decide +kernel), List.mem_of_getElem? (i := 403) (by decide +kernel)⟩
theorem lw_p8 : lw_okq (⟨"HallHeard$Route", "isOnWall", "(IIJJLHallHeard$Walls;)Z"⟩, 8) := ⟨⟨by decide +kernel, by decide +kernel⟩, List.mem_of_getElem? (i := 100) (by decide +kernel), List.mem_of_getElem? (i := 409) (by decide +kernel), List.mem_of_getElem? (i := 410) (by decide +kernel)⟩
theorem lw_p9 : lw_okq (⟨"HallHeard$Route", "sidewaysAt", "(IIJJ)J"⟩, 8) := ⟨⟨by decide +kernel, by decide +kernel⟩, List.mem_of_getElem? (i := 100) (by decide +kernel), List.mem_of_getElem? (i := 413) (by decide +kernel), List.mem_of_getElem? (i := 414) (by decide +kernel)⟩
theorem lw_p10 : lw_okq (⟨"HallHeard$Route", "bouncesAtEnd", "(II)Z"⟩, 8) := ⟨⟨by decide +kernel, by decide +kernel⟩, List.mem_of_getElem? (i := 100) (by decide +kernel), List.mem_of_getElem? (i := 424) (by decide +kernel), List.mem_of_getElem? (i := 425) (by decide +kernel)⟩
theorem lw_p11 : lw_okq (⟨"HallHeard$Route", "meets", "(IILHallHeard$Walls;)Z"⟩, 8) := ⟨⟨by decide +kernel, by decide +kernel⟩, List.mem_of_getElem? (i := 100) (by decide +kernel), List.mem_of_getElem? (i := 428) (by decide +kernel), List.mem_of_getElem? (i := 429) (by decide +kernel)⟩
theorem lw_p12 : lw_okq (⟨"HallHeard$Route", "overlaps", "(IILHallHeard$Walls;)Z"⟩, 8) := ⟨⟨by decide +kernel, by decide +kernel⟩, List.mem_of_getElem? (i := 100) (by decide +kernel), List.mem_of_getElem? (i := 432) (by decide +kernel), List.mem_of_getElem? (i := 433) (by decide +kernel)⟩
theorem lw_p13 : lw_okq (⟨"HallHeard", "energyOf", "(II[I)J"⟩, 11) := ⟨⟨by decide +kernel, by decide +kernel⟩, List.mem_of_getElem? (i := 13) (by decide +kernel), List.mem_of_getElem? (i := 467) (by decide +kernel), List.mem_of_getElem? (i := 468) (by decide +kernel)⟩
theorem lw_p14 : lw_okq (⟨"HallHeard", "isWallOrNone", "(I)Z"⟩, 11) := ⟨⟨by decide +kernel, by decide +kernel⟩, List.mem_of_getElem? (i := 13) (by decide +kernel), List.mem_of_getElem? (i := 478) (by decide +kernel), List.mem_of_getElem? (i := 479) (by decide +kernel)⟩
theorem lw_p15 : lw_okq (⟨"HallHeard", "lengthenRoute", "(I)V"⟩, 11) := ⟨⟨by decide +kernel, by decide +kernel⟩, List.mem_of_getElem? (i := 13) (by decide +kernel), List.mem_of_getElem? (i := 482) (by decide +kernel), List.mem_of_getElem? (i := 483) (by decide +kernel)⟩
def lw_privs_1 : List (MethodName × Nat) := [(⟨"HallHeard", "lineOfHall", "()I"⟩, 11), (⟨"HallHeard", "lostInHall", "()I"⟩, 11), (⟨"HallHeard", "decayOfHall", "()I"⟩, 11), (⟨"HallHeard", "areThere", "(II)Z"⟩, 11), (⟨"HallHeard", "find", "(IIII)V"⟩, 11), (⟨"HallHeard", "startRoute", "(II)V"⟩, 11), (⟨"HallHeard", "tryRows", "(II)V"⟩, 11), (⟨"HallHeard$Route", "setBounce", "(IILHallHeard$Walls;)Z"⟩, 8), (⟨"HallHeard$Route", "isOnWall", "(IIJJLHallHeard$Walls;)Z"⟩, 8), (⟨"HallHeard$Route", "sidewaysAt", "(IIJJ)J"⟩, 8), (⟨"HallHeard$Route", "bouncesAtEnd", "(II)Z"⟩, 8), (⟨"HallHeard$Route", "meets", "(IILHallHeard$Walls;)Z"⟩, 8), (⟨"HallHeard$Route", "overlaps", "(IILHallHeard$Walls;)Z"⟩, 8), (⟨"HallHeard", "energyOf", "(II[I)J"⟩, 11), (⟨"HallHeard", "isWallOrNone", "(I)Z"⟩, 11), (⟨"HallHeard", "lengthenRoute", "(I)V"⟩, 11)]
theorem lw_r1 : ∀ q ∈ lw_privs_1, lw_okq q := List.forall_mem_cons.mpr ⟨lw_p0, List.forall_mem_cons.mpr ⟨lw_p1, List.forall_mem_cons.mpr ⟨lw_p2, List.forall_mem_cons.mpr ⟨lw_p3, List.forall_mem_cons.mpr ⟨lw_p4, List.forall_mem_cons.mpr ⟨lw_p5, List.forall_mem_cons.mpr ⟨lw_p6, List.forall_mem_cons.mpr ⟨lw_p7, List.forall_mem_cons.mpr ⟨lw_p8, List.forall_mem_cons.mpr ⟨lw_p9, List.forall_mem_cons.mpr ⟨lw_p10, List.forall_mem_cons.mpr ⟨lw_p11, List.forall_mem_cons.mpr ⟨lw_p12, List.forall_mem_cons.mpr ⟨lw_p13, List.forall_mem_cons.mpr ⟨lw_p14, List.forall_mem_cons.mpr ⟨lw_p15, fun _ h => absurd h List.not_mem_nil⟩⟩⟩⟩⟩⟩⟩⟩⟩⟩⟩⟩⟩⟩⟩⟩
theorem lw_p16 : lw_okq (⟨"HallHeard", "sumUp", "(I)V"⟩, 11) := ⟨⟨by decide +kernel, by decide +kernel⟩, List.mem_of_getElem? (i := 13) (by decide +kernel), List.mem_of_getElem? (i := 490) (by decide +kernel), List.mem_of_getElem? (i := 491) (by decide +kernel)⟩
theorem lw_p17 : lw_okq (⟨"HallHeard", "isEarly", "(I)Z"⟩, 11) := ⟨⟨by decide +kernel, by decide +kernel⟩, List.mem_of_getElem? (i := 13) (by decide +kernel), List.mem_of_getElem? (i := 498) (by decide +kernel), List.mem_of_getElem? (i := 499) (by decide +kernel)⟩
theorem lw_p18 : lw_okq (⟨"HallHeard", "isSet", "(I)Z"⟩, 11) := ⟨⟨by decide +kernel, by decide +kernel⟩, List.mem_of_getElem? (i := 13) (by decide +kernel), List.mem_of_getElem? (i := 526) (by decide +kernel), List.mem_of_getElem? (i := 527) (by decide +kernel)⟩
theorem lw_p19 : lw_okq (⟨"HallHeard$Choice", "groupOf", "(LHallHeard$Found;I)I"⟩, 13) := ⟨⟨by decide +kernel, by decide +kernel⟩, List.mem_of_getElem? (i := 182) (by decide +kernel), List.mem_of_getElem? (i := 545) (by decide +kernel), List.mem_of_getElem? (i := 546) (by decide +kernel)⟩
theorem lw_p20 : lw_okq (⟨"HallHeard", "choose", "(II)V"⟩, 11) := ⟨⟨by decide +kernel, by decide +kernel⟩, List.mem_of_getElem? (i := 13) (by decide +kernel), List.mem_of_getElem? (i := 550) (by decide +kernel), List.mem_of_getElem? (i := 551) (by decide +kernel)⟩
theorem lw_p21 : lw_okq (⟨"HallHeard", "hearGroup", "(I)V"⟩, 11) := ⟨⟨by decide +kernel, by decide +kernel⟩, List.mem_of_getElem? (i := 13) (by decide +kernel), List.mem_of_getElem? (i := 554) (by decide +kernel), List.mem_of_getElem? (i := 555) (by decide +kernel)⟩
theorem lw_p22 : lw_okq (⟨"HallHeardModel", "isStuff", "(I)Z"⟩, 30) := ⟨⟨by decide +kernel, by decide +kernel⟩, List.mem_of_getElem? (i := 562) (by decide +kernel), List.mem_of_getElem? (i := 672) (by decide +kernel), List.mem_of_getElem? (i := 673) (by decide +kernel)⟩
theorem lw_p23 : lw_okq (⟨"HallHeardModel", "isWall", "(I)Z"⟩, 30) := ⟨⟨by decide +kernel, by decide +kernel⟩, List.mem_of_getElem? (i := 562) (by decide +kernel), List.mem_of_getElem? (i := 683) (by decide +kernel), List.mem_of_getElem? (i := 684) (by decide +kernel)⟩
theorem lw_p24 : lw_okq (⟨"HallHeardModel", "isSource", "(I)Z"⟩, 30) := ⟨⟨by decide +kernel, by decide +kernel⟩, List.mem_of_getElem? (i := 562) (by decide +kernel), List.mem_of_getElem? (i := 703) (by decide +kernel), List.mem_of_getElem? (i := 704) (by decide +kernel)⟩
theorem lw_p25 : lw_okq (⟨"HallHeardModel", "isSeat", "(I)Z"⟩, 30) := ⟨⟨by decide +kernel, by decide +kernel⟩, List.mem_of_getElem? (i := 562) (by decide +kernel), List.mem_of_getElem? (i := 707) (by decide +kernel), List.mem_of_getElem? (i := 708) (by decide +kernel)⟩
theorem lw_p26 : lw_okq (⟨"HallHeardModel", "lengthOf", "(I)I"⟩, 30) := ⟨⟨by decide +kernel, by decide +kernel⟩, List.mem_of_getElem? (i := 562) (by decide +kernel), List.mem_of_getElem? (i := 721) (by decide +kernel), List.mem_of_getElem? (i := 722) (by decide +kernel)⟩
theorem lw_p27 : lw_okq (⟨"HallHeardModel", "line", "()I"⟩, 30) := ⟨⟨by decide +kernel, by decide +kernel⟩, List.mem_of_getElem? (i := 562) (by decide +kernel), List.mem_of_getElem? (i := 732) (by decide +kernel), List.mem_of_getElem? (i := 733) (by decide +kernel)⟩
theorem lw_p28 : lw_okq (⟨"HallHeardModel", "lost", "()I"⟩, 30) := ⟨⟨by decide +kernel, by decide +kernel⟩, List.mem_of_getElem? (i := 562) (by decide +kernel), List.mem_of_getElem? (i := 736) (by decide +kernel), List.mem_of_getElem? (i := 737) (by decide +kernel)⟩
theorem lw_p29 : lw_okq (⟨"HallHeardModel", "decay", "()I"⟩, 30) := ⟨⟨by decide +kernel, by decide +kernel⟩, List.mem_of_getElem? (i := 562) (by decide +kernel), List.mem_of_getElem? (i := 740) (by decide +kernel), List.mem_of_getElem? (i := 741) (by decide +kernel)⟩
theorem lw_p30 : lw_okq (⟨"HallHeardModel", "areThere", "(II)Z"⟩, 30) := ⟨⟨by decide +kernel, by decide +kernel⟩, List.mem_of_getElem? (i := 562) (by decide +kernel), List.mem_of_getElem? (i := 748) (by decide +kernel), List.mem_of_getElem? (i := 749) (by decide +kernel)⟩
theorem lw_p31 : lw_okq (⟨"HallHeardModel", "findPaths", "(II)V"⟩, 30) := ⟨⟨by decide +kernel, by decide +kernel⟩, List.mem_of_getElem? (i := 562) (by decide +kernel), List.mem_of_getElem? (i := 753) (by decide +kernel), List.mem_of_getElem? (i := 754) (by decide +kernel)⟩
def lw_privs_2 : List (MethodName × Nat) := [(⟨"HallHeard", "sumUp", "(I)V"⟩, 11), (⟨"HallHeard", "isEarly", "(I)Z"⟩, 11), (⟨"HallHeard", "isSet", "(I)Z"⟩, 11), (⟨"HallHeard$Choice", "groupOf", "(LHallHeard$Found;I)I"⟩, 13), (⟨"HallHeard", "choose", "(II)V"⟩, 11), (⟨"HallHeard", "hearGroup", "(I)V"⟩, 11), (⟨"HallHeardModel", "isStuff", "(I)Z"⟩, 30), (⟨"HallHeardModel", "isWall", "(I)Z"⟩, 30), (⟨"HallHeardModel", "isSource", "(I)Z"⟩, 30), (⟨"HallHeardModel", "isSeat", "(I)Z"⟩, 30), (⟨"HallHeardModel", "lengthOf", "(I)I"⟩, 30), (⟨"HallHeardModel", "line", "()I"⟩, 30), (⟨"HallHeardModel", "lost", "()I"⟩, 30), (⟨"HallHeardModel", "decay", "()I"⟩, 30), (⟨"HallHeardModel", "areThere", "(II)Z"⟩, 30), (⟨"HallHeardModel", "findPaths", "(II)V"⟩, 30)]
theorem lw_r2 : ∀ q ∈ lw_privs_2, lw_okq q := List.forall_mem_cons.mpr ⟨lw_p16, List.forall_mem_cons.mpr ⟨lw_p17, List.forall_mem_cons.mpr ⟨lw_p18, List.forall_mem_cons.mpr ⟨lw_p19, List.forall_mem_cons.mpr ⟨lw_p20, List.forall_mem_cons.mpr ⟨lw_p21, List.forall_mem_cons.mpr ⟨lw_p22, List.forall_mem_cons.mpr ⟨lw_p23, List.forall_mem_cons.mpr ⟨lw_p24, List.forall_mem_cons.mpr ⟨lw_p25, List.forall_mem_cons.mpr ⟨lw_p26, List.forall_mem_cons.mpr ⟨lw_p27, List.forall_mem_cons.mpr ⟨lw_p28, List.forall_mem_cons.mpr ⟨lw_p29, List.forall_mem_cons.mpr ⟨lw_p30, List.forall_mem_cons.mpr ⟨lw_p31, fun _ h => absurd h List.not_mem_nil⟩⟩⟩⟩⟩⟩⟩⟩⟩⟩⟩⟩⟩⟩⟩⟩
theorem lw_p32 : lw_okq (⟨"HallHeardModel", "findOrder", "(III)V"⟩, 30) := ⟨⟨by decide +kernel, by decide +kernel⟩, List.mem_of_getElem? (i := 562) (by decide +kernel), List.mem_of_getElem? (i := 757) (by decide +kernel), List.mem_of_getElem? (i := 758) (by decide +kernel)⟩
theorem lw_p33 : lw_okq (⟨"HallHeardModel", "tryRow", "(III)V"⟩, 30) := ⟨⟨by decide +kernel, by decide +kernel⟩, List.mem_of_getElem? (i := 562) (by decide +kernel), List.mem_of_getElem? (i := 761) (by decide +kernel), List.mem_of_getElem? (i := 762) (by decide +kernel)⟩
theorem lw_p34 : lw_okq (⟨"HallHeardModel", "findBounces", "(II)Z"⟩, 30) := ⟨⟨by decide +kernel, by decide +kernel⟩, List.mem_of_getElem? (i := 562) (by decide +kernel), List.mem_of_getElem? (i := 765) (by decide +kernel), List.mem_of_getElem? (i := 766) (by decide +kernel)⟩
theorem lw_p35 : lw_okq (⟨"HallHeardModel", "axisOf", "(I)I"⟩, 30) := ⟨⟨by decide +kernel, by decide +kernel⟩, List.mem_of_getElem? (i := 562) (by decide +kernel), List.mem_of_getElem? (i := 769) (by decide +kernel), List.mem_of_getElem? (i := 770) (by decide +kernel)⟩
theorem lw_p36 : lw_okq (⟨"HallHeardModel", "lineOf", "(I)I"⟩, 30) := ⟨⟨by decide +kernel, by decide +kernel⟩, List.mem_of_getElem? (i := 562) (by decide +kernel), List.mem_of_getElem? (i := 774) (by decide +kernel), List.mem_of_getElem? (i := 775) (by decide +kernel)⟩
theorem lw_p37 : lw_okq (⟨"HallHeardModel", "cross", "(II)Z"⟩, 30) := ⟨⟨by decide +kernel, by decide +kernel⟩, List.mem_of_getElem? (i := 562) (by decide +kernel), List.mem_of_getElem? (i := 778) (by decide +kernel), List.mem_of_getElem? (i := 779) (by decide +kernel)⟩
theorem lw_p38 : lw_okq (⟨"HallHeardModel", "isOnAt", "(IIJJ)Z"⟩, 30) := ⟨⟨by decide +kernel, by decide +kernel⟩, List.mem_of_getElem? (i := 562) (by decide +kernel), List.mem_of_getElem? (i := 782) (by decide +kernel), List.mem_of_getElem? (i := 783) (by decide +kernel)⟩
theorem lw_p39 : lw_okq (⟨"HallHeardModel", "placeAt", "(IIJJ)J"⟩, 30) := ⟨⟨by decide +kernel, by decide +kernel⟩, List.mem_of_getElem? (i := 562) (by decide +kernel), List.mem_of_getElem? (i := 786) (by decide +kernel), List.mem_of_getElem? (i := 787) (by decide +kernel)⟩
theorem lw_p40 : lw_okq (⟨"HallHeardModel", "lowOf", "(I)I"⟩, 30) := ⟨⟨by decide +kernel, by decide +kernel⟩, List.mem_of_getElem? (i := 562) (by decide +kernel), List.mem_of_getElem? (i := 790) (by decide +kernel), List.mem_of_getElem? (i := 791) (by decide +kernel)⟩
theorem lw_p41 : lw_okq (⟨"HallHeardModel", "highOf", "(I)I"⟩, 30) := ⟨⟨by decide +kernel, by decide +kernel⟩, List.mem_of_getElem? (i := 562) (by decide +kernel), List.mem_of_getElem? (i := 794) (by decide +kernel), List.mem_of_getElem? (i := 795) (by decide +kernel)⟩
theorem lw_p42 : lw_okq (⟨"HallHeardModel", "isSeen", "()Z"⟩, 30) := ⟨⟨by decide +kernel, by decide +kernel⟩, List.mem_of_getElem? (i := 562) (by decide +kernel), List.mem_of_getElem? (i := 798) (by decide +kernel), List.mem_of_getElem? (i := 799) (by decide +kernel)⟩
theorem lw_p43 : lw_okq (⟨"HallHeardModel", "meets", "(II)Z"⟩, 30) := ⟨⟨by decide +kernel, by decide +kernel⟩, List.mem_of_getElem? (i := 562) (by decide +kernel), List.mem_of_getElem? (i := 802) (by decide +kernel), List.mem_of_getElem? (i := 803) (by decide +kernel)⟩
theorem lw_p44 : lw_okq (⟨"HallHeardModel", "wallOf", "(II)I"⟩, 30) := ⟨⟨by decide +kernel, by decide +kernel⟩, List.mem_of_getElem? (i := 562) (by decide +kernel), List.mem_of_getElem? (i := 813) (by decide +kernel), List.mem_of_getElem? (i := 814) (by decide +kernel)⟩
theorem lw_p45 : lw_okq (⟨"HallHeardModel", "energyOf", "(II)J"⟩, 30) := ⟨⟨by decide +kernel, by decide +kernel⟩, List.mem_of_getElem? (i := 562) (by decide +kernel), List.mem_of_getElem? (i := 817) (by decide +kernel), List.mem_of_getElem? (i := 818) (by decide +kernel)⟩
theorem lw_p46 : lw_okq (⟨"HallHeardModel", "tickOf", "(I)I"⟩, 30) := ⟨⟨by decide +kernel, by decide +kernel⟩, List.mem_of_getElem? (i := 562) (by decide +kernel), List.mem_of_getElem? (i := 822) (by decide +kernel), List.mem_of_getElem? (i := 823) (by decide +kernel)⟩
theorem lw_p47 : lw_okq (⟨"HallHeardModel", "heardBy", "(II)J"⟩, 30) := ⟨⟨by decide +kernel, by decide +kernel⟩, List.mem_of_getElem? (i := 562) (by decide +kernel), List.mem_of_getElem? (i := 837) (by decide +kernel), List.mem_of_getElem? (i := 838) (by decide +kernel)⟩
def lw_privs_3 : List (MethodName × Nat) := [(⟨"HallHeardModel", "findOrder", "(III)V"⟩, 30), (⟨"HallHeardModel", "tryRow", "(III)V"⟩, 30), (⟨"HallHeardModel", "findBounces", "(II)Z"⟩, 30), (⟨"HallHeardModel", "axisOf", "(I)I"⟩, 30), (⟨"HallHeardModel", "lineOf", "(I)I"⟩, 30), (⟨"HallHeardModel", "cross", "(II)Z"⟩, 30), (⟨"HallHeardModel", "isOnAt", "(IIJJ)Z"⟩, 30), (⟨"HallHeardModel", "placeAt", "(IIJJ)J"⟩, 30), (⟨"HallHeardModel", "lowOf", "(I)I"⟩, 30), (⟨"HallHeardModel", "highOf", "(I)I"⟩, 30), (⟨"HallHeardModel", "isSeen", "()Z"⟩, 30), (⟨"HallHeardModel", "meets", "(II)Z"⟩, 30), (⟨"HallHeardModel", "wallOf", "(II)I"⟩, 30), (⟨"HallHeardModel", "energyOf", "(II)J"⟩, 30), (⟨"HallHeardModel", "tickOf", "(I)I"⟩, 30), (⟨"HallHeardModel", "heardBy", "(II)J"⟩, 30)]
theorem lw_r3 : ∀ q ∈ lw_privs_3, lw_okq q := List.forall_mem_cons.mpr ⟨lw_p32, List.forall_mem_cons.mpr ⟨lw_p33, List.forall_mem_cons.mpr ⟨lw_p34, List.forall_mem_cons.mpr ⟨lw_p35, List.forall_mem_cons.mpr ⟨lw_p36, List.forall_mem_cons.mpr ⟨lw_p37, List.forall_mem_cons.mpr ⟨lw_p38, List.forall_mem_cons.mpr ⟨lw_p39, List.forall_mem_cons.mpr ⟨lw_p40, List.forall_mem_cons.mpr ⟨lw_p41, List.forall_mem_cons.mpr ⟨lw_p42, List.forall_mem_cons.mpr ⟨lw_p43, List.forall_mem_cons.mpr ⟨lw_p44, List.forall_mem_cons.mpr ⟨lw_p45, List.forall_mem_cons.mpr ⟨lw_p46, List.forall_mem_cons.mpr ⟨lw_p47, fun _ h => absurd h List.not_mem_nil⟩⟩⟩⟩⟩⟩⟩⟩⟩⟩⟩⟩⟩⟩⟩⟩
theorem lw_p48 : lw_okq (⟨"HallHeardModel", "leastTick", "()I"⟩, 30) := ⟨⟨by decide +kernel, by decide +kernel⟩, List.mem_of_getElem? (i := 562) (by decide +kernel), List.mem_of_getElem? (i := 841) (by decide +kernel), List.mem_of_getElem? (i := 842) (by decide +kernel)⟩
def lw_privs_4 : List (MethodName × Nat) := [(⟨"HallHeardModel", "leastTick", "()I"⟩, 30)]
theorem lw_r4 : ∀ q ∈ lw_privs_4, lw_okq q := List.forall_mem_cons.mpr ⟨lw_p48, fun _ h => absurd h List.not_mem_nil⟩
def lw_privs : List (MethodName × Nat) := lw_privs_1 ++ (lw_privs_2 ++ (lw_privs_3 ++ (lw_privs_4)))
def lw_tbl : List Cond := k2_sels lw_privs ++ tables_1
theorem lw_privs_ok : ∀ q ∈ lw_privs, lw_okq q := by
  show ∀ q ∈ lw_privs_1 ++ (lw_privs_2 ++ (lw_privs_3 ++ (lw_privs_4))), lw_okq q
  exact List.forall_mem_append.mpr ⟨lw_r1, List.forall_mem_append.mpr ⟨lw_r2, List.forall_mem_append.mpr ⟨lw_r3, lw_r4⟩⟩⟩
end
section
def RX0 : String := "HallHeard$Choice"
def TX0 : u_T := fun k => match k with
  | 0 => ("HallHeard$Choice", "walls", "[I", true)
  | 1 => ("HallHeard$Choice", "stuffOf", "[I", true)
  | 2 => ("HallHeard$Choice", "grouped", "[I", true)
  | 3 => ("HallHeard$Choice", "starts", "[I", true)
  | 4 => ("HallHeard$Choice", "early", "[J", true)
  | 5 => ("HallHeard$Choice", "later", "[J", true)
  | 6 => ("HallHeard$Choice", "size", "I", false)
  | 7 => ("HallHeard$Choice", "money", "I", false)
  | 8 => ("HallHeard$Choice", "power", "I", false)
  | 9 => ("HallHeard$Choice", "isMade", "Z", false)
  | 10 => ("HallHeard$Choice", "clarity", "I", false)
  | 11 => ("HallHeard$Choice", "cost", "I", false)
  | _ => ("HallHeard$Choice", "figures", "I", false)
def tyX0 : Nat → FieldType := fun k => match k with
  | 0 => .array .int
  | 1 => .array .int
  | 2 => .array .int
  | 3 => .array .int
  | 4 => .array .long
  | 5 => .array .long
  | 6 => .int
  | 7 => .int
  | 8 => .int
  | 9 => .boolean
  | 10 => .int
  | 11 => .int
  | _ => .int
abbrev wsX00 : List Cond := u_ws RX0 TX0 13
theorem nmX0 : ∀ a, a < 13 → ∀ b, b < 13 → a ≠ b → (TX0 a).2.1 ≠ (TX0 b).2.1 := by decide +kernel
theorem tyX0_ok : ∀ k, k < 13 → parseFieldDescriptor (TX0 k).2.2.1 = some (tyX0 k) := by decide +kernel
abbrev cX0_init : ByteArray := prog_2_method_1_code
def yX0_init : MethodName := ⟨RX0, "<init>", "()V"⟩
abbrev cX0_begin : ByteArray := prog_2_method_2_code
def yX0_begin : MethodName := ⟨RX0, "begin", "(LHallHeard$Walls;III)V"⟩
abbrev cX0_group : ByteArray := prog_2_method_3_code
def yX0_group : MethodName := ⟨RX0, "group", "(LHallHeard$Found;)V"⟩
abbrev cX0_groupOf : ByteArray := prog_2_method_4_code
def yX0_groupOf : MethodName := ⟨RX0, "groupOf", "(LHallHeard$Found;I)I"⟩
abbrev cX0_weigh : ByteArray := prog_2_method_5_code
def yX0_weigh : MethodName := ⟨RX0, "weigh", "(II)V"⟩
def RX1 : String := "HallHeard$Found"
def TX1 : u_T := fun k => match k with
  | 0 => ("HallHeard$Found", "rows", "[I", true)
  | 1 => ("HallHeard$Found", "squares", "[J", true)
  | 2 => ("HallHeard$Found", "ticks", "[I", true)
  | 3 => ("HallHeard$Found", "held", "I", false)
  | _ => ("HallHeard$Found", "least", "I", false)
def tyX1 : Nat → FieldType := fun k => match k with
  | 0 => .array .int
  | 1 => .array .long
  | 2 => .array .int
  | 3 => .int
  | _ => .int
abbrev wsX10 : List Cond := u_ws RX1 TX1 5
theorem nmX1 : ∀ a, a < 5 → ∀ b, b < 5 → a ≠ b → (TX1 a).2.1 ≠ (TX1 b).2.1 := by decide +kernel
theorem tyX1_ok : ∀ k, k < 5 → parseFieldDescriptor (TX1 k).2.2.1 = some (tyX1 k) := by decide +kernel
abbrev cX1_init : ByteArray := prog_3_method_1_code
def yX1_init : MethodName := ⟨RX1, "<init>", "()V"⟩
abbrev cX1_clear : ByteArray := prog_3_method_2_code
def yX1_clear : MethodName := ⟨RX1, "clear", "()V"⟩
abbrev cX1_add : ByteArray := prog_3_method_3_code
def yX1_add : MethodName := ⟨RX1, "add", "(LHallHeard$Route;)V"⟩
abbrev cX1_wallOf : ByteArray := prog_3_method_4_code
def yX1_wallOf : MethodName := ⟨RX1, "wallOf", "(II)I"⟩
abbrev cX1_orderOf : ByteArray := prog_3_method_5_code
def yX1_orderOf : MethodName := ⟨RX1, "orderOf", "(I)I"⟩
abbrev cX1_wholeRoot : ByteArray := prog_3_method_6_code
def yX1_wholeRoot : MethodName := ⟨RX1, "wholeRoot", "(J)I"⟩
def RX2 : String := "HallHeard$Points"
def TX2 : u_T := fun k => match k with
  | 0 => ("HallHeard$Points", "x", "[I", true)
  | 1 => ("HallHeard$Points", "y", "[I", true)
  | _ => ("HallHeard$Points", "held", "I", false)
def tyX2 : Nat → FieldType := fun k => match k with
  | 0 => .array .int
  | 1 => .array .int
  | _ => .int
abbrev wsX20 : List Cond := u_ws RX2 TX2 3
theorem nmX2 : ∀ a, a < 3 → ∀ b, b < 3 → a ≠ b → (TX2 a).2.1 ≠ (TX2 b).2.1 := by decide +kernel
theorem tyX2_ok : ∀ k, k < 3 → parseFieldDescriptor (TX2 k).2.2.1 = some (tyX2 k) := by decide +kernel
abbrev cX2_init : ByteArray := prog_4_method_1_code
def yX2_init : MethodName := ⟨RX2, "<init>", "(I)V"⟩
abbrev cX2_has : ByteArray := prog_4_method_2_code
def yX2_has : MethodName := ⟨RX2, "has", "(I)Z"⟩
abbrev cX2_add : ByteArray := prog_4_method_3_code
def yX2_add : MethodName := ⟨RX2, "add", "(II)I"⟩
abbrev cX2_put : ByteArray := prog_4_method_4_code
def yX2_put : MethodName := ⟨RX2, "put", "(III)V"⟩
def RX3 : String := "HallHeard$Route"
def TX3 : u_T := fun k => match k with
  | 0 => ("HallHeard$Route", "row", "[I", true)
  | 1 => ("HallHeard$Route", "images", "[I", true)
  | 2 => ("HallHeard$Route", "eyes", "[I", true)
  | 3 => ("HallHeard$Route", "parts", "[J", true)
  | 4 => ("HallHeard$Route", "wholes", "[J", true)
  | 5 => ("HallHeard$Route", "seatX", "I", false)
  | 6 => ("HallHeard$Route", "seatY", "I", false)
  | _ => ("HallHeard$Route", "order", "I", false)
def tyX3 : Nat → FieldType := fun k => match k with
  | 0 => .array .int
  | 1 => .array .int
  | 2 => .array .int
  | 3 => .array .long
  | 4 => .array .long
  | 5 => .int
  | 6 => .int
  | _ => .int
abbrev wsX30 : List Cond := u_ws RX3 TX3 8
theorem nmX3 : ∀ a, a < 8 → ∀ b, b < 8 → a ≠ b → (TX3 a).2.1 ≠ (TX3 b).2.1 := by decide +kernel
theorem tyX3_ok : ∀ k, k < 8 → parseFieldDescriptor (TX3 k).2.2.1 = some (tyX3 k) := by decide +kernel
abbrev cX3_init : ByteArray := prog_5_method_1_code
def yX3_init : MethodName := ⟨RX3, "<init>", "()V"⟩
abbrev cX3_start : ByteArray := prog_5_method_2_code
def yX3_start : MethodName := ⟨RX3, "start", "(IIII)V"⟩
abbrev cX3_put : ByteArray := prog_5_method_3_code
def yX3_put : MethodName := ⟨RX3, "put", "(IILHallHeard$Walls;)V"⟩
abbrev cX3_mirror : ByteArray := prog_5_method_4_code
def yX3_mirror : MethodName := ⟨RX3, "mirror", "([IIIILHallHeard$Walls;)V"⟩
abbrev cX3_lengthSquared : ByteArray := prog_5_method_5_code
def yX3_lengthSquared : MethodName := ⟨RX3, "lengthSquared", "()J"⟩
abbrev cX3_hasBounces : ByteArray := prog_5_method_6_code
def yX3_hasBounces : MethodName := ⟨RX3, "hasBounces", "(LHallHeard$Walls;)Z"⟩
abbrev cX3_setBounce : ByteArray := prog_5_method_7_code
def yX3_setBounce : MethodName := ⟨RX3, "setBounce", "(IILHallHeard$Walls;)Z"⟩
abbrev cX3_isOnWall : ByteArray := prog_5_method_8_code
def yX3_isOnWall : MethodName := ⟨RX3, "isOnWall", "(IIJJLHallHeard$Walls;)Z"⟩
abbrev cX3_sidewaysAt : ByteArray := prog_5_method_9_code
def yX3_sidewaysAt : MethodName := ⟨RX3, "sidewaysAt", "(IIJJ)J"⟩
abbrev cX3_isSeen : ByteArray := prog_5_method_10_code
def yX3_isSeen : MethodName := ⟨RX3, "isSeen", "(LHallHeard$Walls;)Z"⟩
abbrev cX3_bouncesAtEnd : ByteArray := prog_5_method_11_code
def yX3_bouncesAtEnd : MethodName := ⟨RX3, "bouncesAtEnd", "(II)Z"⟩
abbrev cX3_meets : ByteArray := prog_5_method_12_code
def yX3_meets : MethodName := ⟨RX3, "meets", "(IILHallHeard$Walls;)Z"⟩
abbrev cX3_overlaps : ByteArray := prog_5_method_13_code
def yX3_overlaps : MethodName := ⟨RX3, "overlaps", "(IILHallHeard$Walls;)Z"⟩
def RX4 : String := "HallHeard$Stuffs"
def TX4 : u_T := fun k => match k with
  | 0 => ("HallHeard$Stuffs", "shares", "[I", true)
  | 1 => ("HallHeard$Stuffs", "costs", "[I", true)
  | _ => ("HallHeard$Stuffs", "held", "I", false)
def tyX4 : Nat → FieldType := fun k => match k with
  | 0 => .array .int
  | 1 => .array .int
  | _ => .int
abbrev wsX40 : List Cond := u_ws RX4 TX4 3
theorem nmX4 : ∀ a, a < 3 → ∀ b, b < 3 → a ≠ b → (TX4 a).2.1 ≠ (TX4 b).2.1 := by decide +kernel
theorem tyX4_ok : ∀ k, k < 3 → parseFieldDescriptor (TX4 k).2.2.1 = some (tyX4 k) := by decide +kernel
abbrev cX4_init : ByteArray := prog_6_method_1_code
def yX4_init : MethodName := ⟨RX4, "<init>", "()V"⟩
abbrev cX4_has : ByteArray := prog_6_method_2_code
def yX4_has : MethodName := ⟨RX4, "has", "(I)Z"⟩
abbrev cX4_add : ByteArray := prog_6_method_3_code
def yX4_add : MethodName := ⟨RX4, "add", "(II)I"⟩
def RX5 : String := "HallHeard$Sums"
def TX5 : u_T := fun k => match k with
  | 0 => ("HallHeard$Sums", "early", "J", false)
  | 1 => ("HallHeard$Sums", "later", "J", false)
  | _ => ("HallHeard$Sums", "delayed", "J", false)
def tyX5 : Nat → FieldType := fun k => match k with
  | 0 => .long
  | 1 => .long
  | _ => .long
abbrev wsX50 : List Cond := u_ws RX5 TX5 3
theorem nmX5 : ∀ a, a < 3 → ∀ b, b < 3 → a ≠ b → (TX5 a).2.1 ≠ (TX5 b).2.1 := by decide +kernel
theorem tyX5_ok : ∀ k, k < 3 → parseFieldDescriptor (TX5 k).2.2.1 = some (tyX5 k) := by decide +kernel
abbrev cX5_init : ByteArray := prog_7_method_1_code
def yX5_init : MethodName := ⟨RX5, "<init>", "()V"⟩
abbrev cX5_clear : ByteArray := prog_7_method_2_code
def yX5_clear : MethodName := ⟨RX5, "clear", "()V"⟩
def RX6 : String := "HallHeard$Walls"
def TX6 : u_T := fun k => match k with
  | 0 => ("HallHeard$Walls", "coordinates", "[I", true)
  | 1 => ("HallHeard$Walls", "stuffOf", "[I", true)
  | 2 => ("HallHeard$Walls", "axis", "[I", true)
  | 3 => ("HallHeard$Walls", "line", "[I", true)
  | 4 => ("HallHeard$Walls", "low", "[I", true)
  | 5 => ("HallHeard$Walls", "high", "[I", true)
  | _ => ("HallHeard$Walls", "held", "I", false)
def tyX6 : Nat → FieldType := fun k => match k with
  | 0 => .array .int
  | 1 => .array .int
  | 2 => .array .int
  | 3 => .array .int
  | 4 => .array .int
  | 5 => .array .int
  | _ => .int
abbrev wsX60 : List Cond := u_ws RX6 TX6 7
theorem nmX6 : ∀ a, a < 7 → ∀ b, b < 7 → a ≠ b → (TX6 a).2.1 ≠ (TX6 b).2.1 := by decide +kernel
theorem tyX6_ok : ∀ k, k < 7 → parseFieldDescriptor (TX6 k).2.2.1 = some (tyX6 k) := by decide +kernel
abbrev cX6_init : ByteArray := prog_8_method_1_code
def yX6_init : MethodName := ⟨RX6, "<init>", "()V"⟩
abbrev cX6_has : ByteArray := prog_8_method_2_code
def yX6_has : MethodName := ⟨RX6, "has", "(I)Z"⟩
abbrev cX6_add : ByteArray := prog_8_method_3_code
def yX6_add : MethodName := ⟨RX6, "add", "(IIIII)I"⟩
abbrev cX6_lengthOf : ByteArray := prog_8_method_4_code
def yX6_lengthOf : MethodName := ⟨RX6, "lengthOf", "(I)I"⟩
def RX7 : String := "HallHeard"
def TX7 : u_T := fun k => match k with
  | 0 => ("HallHeard", "stuffs", "LHallHeard$Stuffs;", true)
  | 1 => ("HallHeard", "walls", "LHallHeard$Walls;", true)
  | 2 => ("HallHeard", "sources", "LHallHeard$Points;", true)
  | 3 => ("HallHeard", "seats", "LHallHeard$Points;", true)
  | 4 => ("HallHeard", "powers", "[I", true)
  | 5 => ("HallHeard", "route", "LHallHeard$Route;", true)
  | 6 => ("HallHeard", "found", "LHallHeard$Found;", true)
  | 7 => ("HallHeard", "sums", "LHallHeard$Sums;", true)
  | 8 => ("HallHeard", "choice", "LHallHeard$Choice;", true)
  | 9 => ("HallHeard", "most", "I", false)
  | _ => ("HallHeard", "border", "I", false)
def tyX7 : Nat → FieldType := fun k => match k with
  | 0 => .object "HallHeard$Stuffs"
  | 1 => .object "HallHeard$Walls"
  | 2 => .object "HallHeard$Points"
  | 3 => .object "HallHeard$Points"
  | 4 => .array .int
  | 5 => .object "HallHeard$Route"
  | 6 => .object "HallHeard$Found"
  | 7 => .object "HallHeard$Sums"
  | 8 => .object "HallHeard$Choice"
  | 9 => .int
  | _ => .int
abbrev wsX70 : List Cond := u_ws RX7 TX7 11
theorem nmX7 : ∀ a, a < 11 → ∀ b, b < 11 → a ≠ b → (TX7 a).2.1 ≠ (TX7 b).2.1 := by decide +kernel
theorem tyX7_ok : ∀ k, k < 11 → parseFieldDescriptor (TX7 k).2.2.1 = some (tyX7 k) := by decide +kernel
abbrev cX7_init : ByteArray := prog_1_method_1_code
def yX7_init : MethodName := ⟨RX7, "<init>", "()V"⟩
abbrev cX7_stuff : ByteArray := prog_1_method_2_code
def yX7_stuff : MethodName := ⟨RX7, "stuff", "(II)I"⟩
abbrev cX7_wall : ByteArray := prog_1_method_3_code
def yX7_wall : MethodName := ⟨RX7, "wall", "(IIIII)I"⟩
abbrev cX7_cover : ByteArray := prog_1_method_4_code
def yX7_cover : MethodName := ⟨RX7, "cover", "(II)I"⟩
abbrev cX7_back : ByteArray := prog_1_method_5_code
def yX7_back : MethodName := ⟨RX7, "back", "()I"⟩
abbrev cX7_source : ByteArray := prog_1_method_6_code
def yX7_source : MethodName := ⟨RX7, "source", "(III)I"⟩
abbrev cX7_seat : ByteArray := prog_1_method_7_code
def yX7_seat : MethodName := ⟨RX7, "seat", "(II)I"⟩
abbrev cX7_move : ByteArray := prog_1_method_8_code
def yX7_move : MethodName := ⟨RX7, "move", "(IIII)I"⟩
abbrev cX7_rule : ByteArray := prog_1_method_9_code
def yX7_rule : MethodName := ⟨RX7, "rule", "(II)I"⟩
abbrev cX7_told : ByteArray := prog_1_method_10_code
def yX7_told : MethodName := ⟨RX7, "told", "(II)I"⟩
abbrev cX7_count : ByteArray := prog_1_method_11_code
def yX7_count : MethodName := ⟨RX7, "count", "(I)I"⟩
abbrev cX7_paths : ByteArray := prog_1_method_12_code
def yX7_paths : MethodName := ⟨RX7, "paths", "(III)I"⟩
abbrev cX7_path : ByteArray := prog_1_method_13_code
def yX7_path : MethodName := ⟨RX7, "path", "(IIII)J"⟩
abbrev cX7_sees : ByteArray := prog_1_method_14_code
def yX7_sees : MethodName := ⟨RX7, "sees", "(IIIII)I"⟩
abbrev cX7_heard : ByteArray := prog_1_method_15_code
def yX7_heard : MethodName := ⟨RX7, "heard", "(III)J"⟩
abbrev cX7_at : ByteArray := prog_1_method_16_code
def yX7_at : MethodName := ⟨RX7, "at", "(III)J"⟩
abbrev cX7_left : ByteArray := prog_1_method_17_code
def yX7_left : MethodName := ⟨RX7, "left", "(JI)J"⟩
abbrev cX7_worst : ByteArray := prog_1_method_18_code
def yX7_worst : MethodName := ⟨RX7, "worst", "(I)I"⟩
abbrev cX7_best : ByteArray := prog_1_method_19_code
def yX7_best : MethodName := ⟨RX7, "best", "(IIIII)I"⟩
abbrev cX7_isWithin : ByteArray := prog_1_method_20_code
def yX7_isWithin : MethodName := ⟨RX7, "isWithin", "(III)Z"⟩
abbrev cX7_isPoint : ByteArray := prog_1_method_21_code
def yX7_isPoint : MethodName := ⟨RX7, "isPoint", "(II)Z"⟩
abbrev cX7_areThere : ByteArray := prog_1_method_22_code
def yX7_areThere : MethodName := ⟨RX7, "areThere", "(II)Z"⟩
abbrev cX7_isWallOrNone : ByteArray := prog_1_method_23_code
def yX7_isWallOrNone : MethodName := ⟨RX7, "isWallOrNone", "(I)Z"⟩
abbrev cX7_isSet : ByteArray := prog_1_method_24_code
def yX7_isSet : MethodName := ⟨RX7, "isSet", "(I)Z"⟩
abbrev cX7_lineOfHall : ByteArray := prog_1_method_25_code
def yX7_lineOfHall : MethodName := ⟨RX7, "lineOfHall", "()I"⟩
abbrev cX7_lostInHall : ByteArray := prog_1_method_26_code
def yX7_lostInHall : MethodName := ⟨RX7, "lostInHall", "()I"⟩
abbrev cX7_decayOfHall : ByteArray := prog_1_method_27_code
def yX7_decayOfHall : MethodName := ⟨RX7, "decayOfHall", "()I"⟩
abbrev cX7_startRoute : ByteArray := prog_1_method_28_code
def yX7_startRoute : MethodName := ⟨RX7, "startRoute", "(II)V"⟩
abbrev cX7_lengthenRoute : ByteArray := prog_1_method_29_code
def yX7_lengthenRoute : MethodName := ⟨RX7, "lengthenRoute", "(I)V"⟩
abbrev cX7_find : ByteArray := prog_1_method_30_code
def yX7_find : MethodName := ⟨RX7, "find", "(IIII)V"⟩
abbrev cX7_tryRows : ByteArray := prog_1_method_31_code
def yX7_tryRows : MethodName := ⟨RX7, "tryRows", "(II)V"⟩
abbrev cX7_energyOf : ByteArray := prog_1_method_32_code
def yX7_energyOf : MethodName := ⟨RX7, "energyOf", "(II[I)J"⟩
abbrev cX7_isEarly : ByteArray := prog_1_method_33_code
def yX7_isEarly : MethodName := ⟨RX7, "isEarly", "(I)Z"⟩
abbrev cX7_sumUp : ByteArray := prog_1_method_34_code
def yX7_sumUp : MethodName := ⟨RX7, "sumUp", "(I)V"⟩
abbrev cX7_clarityOf : ByteArray := prog_1_method_35_code
def yX7_clarityOf : MethodName := ⟨RX7, "clarityOf", "(JJ)I"⟩
abbrev cX7_centreOf : ByteArray := prog_1_method_36_code
def yX7_centreOf : MethodName := ⟨RX7, "centreOf", "(JJ)J"⟩
abbrev cX7_choose : ByteArray := prog_1_method_37_code
def yX7_choose : MethodName := ⟨RX7, "choose", "(II)V"⟩
abbrev cX7_hearGroup : ByteArray := prog_1_method_38_code
def yX7_hearGroup : MethodName := ⟨RX7, "hearGroup", "(I)V"⟩
def RX8 : String := "HallHeardModel"
def TX8 : u_T := fun k => match k with
  | 0 => ("HallHeardModel", "stuffs", "I", false)
  | 1 => ("HallHeardModel", "shares", "[I", true)
  | 2 => ("HallHeardModel", "costs", "[I", true)
  | 3 => ("HallHeardModel", "walls", "I", false)
  | 4 => ("HallHeardModel", "ends", "[I", true)
  | 5 => ("HallHeardModel", "stuffOf", "[I", true)
  | 6 => ("HallHeardModel", "sources", "I", false)
  | 7 => ("HallHeardModel", "sourceX", "[I", true)
  | 8 => ("HallHeardModel", "sourceY", "[I", true)
  | 9 => ("HallHeardModel", "powers", "[I", true)
  | 10 => ("HallHeardModel", "seats", "I", false)
  | 11 => ("HallHeardModel", "seatX", "[I", true)
  | 12 => ("HallHeardModel", "seatY", "[I", true)
  | 13 => ("HallHeardModel", "most", "I", false)
  | 14 => ("HallHeardModel", "border", "I", false)
  | 15 => ("HallHeardModel", "start", "[J", true)
  | 16 => ("HallHeardModel", "way", "[J", true)
  | 17 => ("HallHeardModel", "turn", "[J", true)
  | 18 => ("HallHeardModel", "shift", "[J", true)
  | 19 => ("HallHeardModel", "shareN", "[J", true)
  | 20 => ("HallHeardModel", "shareD", "[J", true)
  | 21 => ("HallHeardModel", "row", "[I", true)
  | 22 => ("HallHeardModel", "order", "I", false)
  | 23 => ("HallHeardModel", "crossN", "J", false)
  | 24 => ("HallHeardModel", "crossD", "J", false)
  | 25 => ("HallHeardModel", "many", "I", false)
  | 26 => ("HallHeardModel", "pathRow", "[I", true)
  | 27 => ("HallHeardModel", "pathOrder", "[I", true)
  | 28 => ("HallHeardModel", "pathSquare", "[J", true)
  | _ => ("HallHeardModel", "kept", "[I", true)
def tyX8 : Nat → FieldType := fun k => match k with
  | 0 => .int
  | 1 => .array .int
  | 2 => .array .int
  | 3 => .int
  | 4 => .array .int
  | 5 => .array .int
  | 6 => .int
  | 7 => .array .int
  | 8 => .array .int
  | 9 => .array .int
  | 10 => .int
  | 11 => .array .int
  | 12 => .array .int
  | 13 => .int
  | 14 => .int
  | 15 => .array .long
  | 16 => .array .long
  | 17 => .array .long
  | 18 => .array .long
  | 19 => .array .long
  | 20 => .array .long
  | 21 => .array .int
  | 22 => .int
  | 23 => .long
  | 24 => .long
  | 25 => .int
  | 26 => .array .int
  | 27 => .array .int
  | 28 => .array .long
  | _ => .array .int
abbrev wsX80 : List Cond := u_ws RX8 TX8 30
theorem nmX8 : ∀ a, a < 30 → ∀ b, b < 30 → a ≠ b → (TX8 a).2.1 ≠ (TX8 b).2.1 := by decide +kernel
theorem tyX8_ok : ∀ k, k < 30 → parseFieldDescriptor (TX8 k).2.2.1 = some (tyX8 k) := by decide +kernel
abbrev cX8_init : ByteArray := prog_10_method_1_code
def yX8_init : MethodName := ⟨RX8, "<init>", "()V"⟩
abbrev cX8_in : ByteArray := prog_10_method_3_code
def yX8_in : MethodName := ⟨RX8, "in", "(JJJ)Z"⟩
abbrev cX8_isPoint : ByteArray := prog_10_method_4_code
def yX8_isPoint : MethodName := ⟨RX8, "isPoint", "(II)Z"⟩
abbrev cX8_stuff : ByteArray := prog_10_method_5_code
def yX8_stuff : MethodName := ⟨RX8, "stuff", "(II)I"⟩
abbrev cX8_isStuff : ByteArray := prog_10_method_6_code
def yX8_isStuff : MethodName := ⟨RX8, "isStuff", "(I)Z"⟩
abbrev cX8_isWall : ByteArray := prog_10_method_7_code
def yX8_isWall : MethodName := ⟨RX8, "isWall", "(I)Z"⟩
abbrev cX8_wall : ByteArray := prog_10_method_8_code
def yX8_wall : MethodName := ⟨RX8, "wall", "(IIIII)I"⟩
abbrev cX8_cover : ByteArray := prog_10_method_9_code
def yX8_cover : MethodName := ⟨RX8, "cover", "(II)I"⟩
abbrev cX8_back : ByteArray := prog_10_method_10_code
def yX8_back : MethodName := ⟨RX8, "back", "()I"⟩
abbrev cX8_source : ByteArray := prog_10_method_11_code
def yX8_source : MethodName := ⟨RX8, "source", "(III)I"⟩
abbrev cX8_seat : ByteArray := prog_10_method_12_code
def yX8_seat : MethodName := ⟨RX8, "seat", "(II)I"⟩
abbrev cX8_isSource : ByteArray := prog_10_method_13_code
def yX8_isSource : MethodName := ⟨RX8, "isSource", "(I)Z"⟩
abbrev cX8_isSeat : ByteArray := prog_10_method_14_code
def yX8_isSeat : MethodName := ⟨RX8, "isSeat", "(I)Z"⟩
abbrev cX8_move : ByteArray := prog_10_method_15_code
def yX8_move : MethodName := ⟨RX8, "move", "(IIII)I"⟩
abbrev cX8_rule : ByteArray := prog_10_method_16_code
def yX8_rule : MethodName := ⟨RX8, "rule", "(II)I"⟩
abbrev cX8_size : ByteArray := prog_10_method_17_code
def yX8_size : MethodName := ⟨RX8, "size", "(I)I"⟩
abbrev cX8_lengthOf : ByteArray := prog_10_method_18_code
def yX8_lengthOf : MethodName := ⟨RX8, "lengthOf", "(I)I"⟩
abbrev cX8_told : ByteArray := prog_10_method_19_code
def yX8_told : MethodName := ⟨RX8, "told", "(II)I"⟩
abbrev cX8_line : ByteArray := prog_10_method_20_code
def yX8_line : MethodName := ⟨RX8, "line", "()I"⟩
abbrev cX8_lost : ByteArray := prog_10_method_21_code
def yX8_lost : MethodName := ⟨RX8, "lost", "()I"⟩
abbrev cX8_decay : ByteArray := prog_10_method_22_code
def yX8_decay : MethodName := ⟨RX8, "decay", "()I"⟩
abbrev cX8_count : ByteArray := prog_10_method_23_code
def yX8_count : MethodName := ⟨RX8, "count", "(I)I"⟩
abbrev cX8_axisOf : ByteArray := prog_10_method_24_code
def yX8_axisOf : MethodName := ⟨RX8, "axisOf", "(I)I"⟩
abbrev cX8_lineOf : ByteArray := prog_10_method_25_code
def yX8_lineOf : MethodName := ⟨RX8, "lineOf", "(I)I"⟩
abbrev cX8_lowOf : ByteArray := prog_10_method_26_code
def yX8_lowOf : MethodName := ⟨RX8, "lowOf", "(I)I"⟩
abbrev cX8_highOf : ByteArray := prog_10_method_27_code
def yX8_highOf : MethodName := ⟨RX8, "highOf", "(I)I"⟩
abbrev cX8_placeAt : ByteArray := prog_10_method_28_code
def yX8_placeAt : MethodName := ⟨RX8, "placeAt", "(IIJJ)J"⟩
abbrev cX8_cross : ByteArray := prog_10_method_29_code
def yX8_cross : MethodName := ⟨RX8, "cross", "(II)Z"⟩
abbrev cX8_isOnAt : ByteArray := prog_10_method_30_code
def yX8_isOnAt : MethodName := ⟨RX8, "isOnAt", "(IIJJ)Z"⟩
abbrev cX8_findBounces : ByteArray := prog_10_method_31_code
def yX8_findBounces : MethodName := ⟨RX8, "findBounces", "(II)Z"⟩
abbrev cX8_meets : ByteArray := prog_10_method_32_code
def yX8_meets : MethodName := ⟨RX8, "meets", "(II)Z"⟩
abbrev cX8_isSeen : ByteArray := prog_10_method_33_code
def yX8_isSeen : MethodName := ⟨RX8, "isSeen", "()Z"⟩
abbrev cX8_tryRow : ByteArray := prog_10_method_34_code
def yX8_tryRow : MethodName := ⟨RX8, "tryRow", "(III)V"⟩
abbrev cX8_findOrder : ByteArray := prog_10_method_35_code
def yX8_findOrder : MethodName := ⟨RX8, "findOrder", "(III)V"⟩
abbrev cX8_findPaths : ByteArray := prog_10_method_36_code
def yX8_findPaths : MethodName := ⟨RX8, "findPaths", "(II)V"⟩
abbrev cX8_wallOf : ByteArray := prog_10_method_37_code
def yX8_wallOf : MethodName := ⟨RX8, "wallOf", "(II)I"⟩
abbrev cX8_energyOf : ByteArray := prog_10_method_38_code
def yX8_energyOf : MethodName := ⟨RX8, "energyOf", "(II)J"⟩
abbrev cX8_tickOf : ByteArray := prog_10_method_39_code
def yX8_tickOf : MethodName := ⟨RX8, "tickOf", "(I)I"⟩
abbrev cX8_areThere : ByteArray := prog_10_method_40_code
def yX8_areThere : MethodName := ⟨RX8, "areThere", "(II)Z"⟩
abbrev cX8_paths : ByteArray := prog_10_method_41_code
def yX8_paths : MethodName := ⟨RX8, "paths", "(III)I"⟩
abbrev cX8_path : ByteArray := prog_10_method_42_code
def yX8_path : MethodName := ⟨RX8, "path", "(IIII)J"⟩
abbrev cX8_sees : ByteArray := prog_10_method_43_code
def yX8_sees : MethodName := ⟨RX8, "sees", "(IIIII)I"⟩
abbrev cX8_leastTick : ByteArray := prog_10_method_44_code
def yX8_leastTick : MethodName := ⟨RX8, "leastTick", "()I"⟩
abbrev cX8_heardBy : ByteArray := prog_10_method_45_code
def yX8_heardBy : MethodName := ⟨RX8, "heardBy", "(II)J"⟩
abbrev cX8_heard : ByteArray := prog_10_method_46_code
def yX8_heard : MethodName := ⟨RX8, "heard", "(III)J"⟩
abbrev cX8_at : ByteArray := prog_10_method_47_code
def yX8_at : MethodName := ⟨RX8, "at", "(III)J"⟩
abbrev cX8_left : ByteArray := prog_10_method_48_code
def yX8_left : MethodName := ⟨RX8, "left", "(JI)J"⟩
abbrev cX8_worst : ByteArray := prog_10_method_49_code
def yX8_worst : MethodName := ⟨RX8, "worst", "(I)I"⟩
abbrev cX8_bits : ByteArray := prog_10_method_50_code
def yX8_bits : MethodName := ⟨RX8, "bits", "(I)I"⟩
abbrev cX8_best : ByteArray := prog_10_method_51_code
def yX8_best : MethodName := ⟨RX8, "best", "(IIIII)I"⟩
def RJ6 : String := "java/lang/Integer"
def TJ6 : u_T := fun k => match k with
  | _ => ("", "", "", false)
def tyJ6 : Nat → FieldType := fun k => match k with
  | _ => .int
abbrev wsJ60 : List Cond := u_ws RJ6 TJ6 0
theorem nmJ6 : ∀ a, a < 0 → ∀ b, b < 0 → a ≠ b → (TJ6 a).2.1 ≠ (TJ6 b).2.1 := by decide +kernel
theorem tyJ6_ok : ∀ k, k < 0 → parseFieldDescriptor (TJ6 k).2.2.1 = some (tyJ6 k) := by decide +kernel
abbrev cJ6_bitCount_0f7a4 : ByteArray := prog_11_method_49_code
def yJ6_bitCount_0f7a4 : MethodName := ⟨RJ6, "bitCount", "(I)I"⟩
def RJ9 : String := "java/lang/Math"
def TJ9 : u_T := fun k => match k with
  | _ => ("", "", "", false)
def tyJ9 : Nat → FieldType := fun k => match k with
  | _ => .int
abbrev wsJ90 : List Cond := u_ws RJ9 TJ9 0
theorem nmJ9 : ∀ a, a < 0 → ∀ b, b < 0 → a ≠ b → (TJ9 a).2.1 ≠ (TJ9 b).2.1 := by decide +kernel
theorem tyJ9_ok : ∀ k, k < 0 → parseFieldDescriptor (TJ9 k).2.2.1 = some (tyJ9 k) := by decide +kernel
abbrev cJ9_abs_067f4 : ByteArray := prog_12_method_61_code
def yJ9_abs_067f4 : MethodName := ⟨RJ9, "abs", "(J)J"⟩
abbrev cJ9_max_7cf53 : ByteArray := prog_12_method_65_code
def yJ9_max_7cf53 : MethodName := ⟨RJ9, "max", "(II)I"⟩
abbrev cJ9_min_7cf53 : ByteArray := prog_12_method_69_code
def yJ9_min_7cf53 : MethodName := ⟨RJ9, "min", "(II)I"⟩
def RL : String := "HallHeardLaw"
abbrev cL_law : ByteArray := code
def yL_law : MethodName := ⟨RL, "law", "([I)Z"⟩
abbrev vwCl : List vw_C := [(RX0, TX0, 13), (RX1, TX1, 5), (RX2, TX2, 3), (RX3, TX3, 8), (RX4, TX4, 3), (RX5, TX5, 3), (RX6, TX6, 7), (RX7, TX7, 11), (RX8, TX8, 30)]
theorem inX0 : ∀ w ∈ wsX00, w ∈ lw_tbl := by decide +kernel
theorem inX1 : ∀ w ∈ wsX10, w ∈ lw_tbl := by decide +kernel
theorem inX2 : ∀ w ∈ wsX20, w ∈ lw_tbl := by decide +kernel
theorem inX3 : ∀ w ∈ wsX30, w ∈ lw_tbl := by decide +kernel
theorem inX4 : ∀ w ∈ wsX40, w ∈ lw_tbl := by decide +kernel
theorem inX5 : ∀ w ∈ wsX50, w ∈ lw_tbl := by decide +kernel
theorem inX6 : ∀ w ∈ wsX60, w ∈ lw_tbl := by decide +kernel
theorem inX7 : ∀ w ∈ wsX70, w ∈ lw_tbl := by decide +kernel
theorem inX8 : ∀ w ∈ wsX80, w ∈ lw_tbl := by decide +kernel
def fTB : List Cond := lw_tbl.filter goodWord
theorem fTB_good (w : Cond) (h : w ∈ fTB) : goodWord w = true := (List.mem_filter.mp h).2
theorem fTB_in (w : Cond) (h : w ∈ fTB) : w ∈ lw_tbl := (List.mem_filter.mp h).1
theorem fTB_of {w : Cond} (h : w ∈ lw_tbl) (hg : goodWord w = true) : w ∈ fTB := List.mem_filter.mpr ⟨h, hg⟩
theorem fTB_at {w : Cond} (i : Nat) (h : lw_tbl[i]? = some w) (hg : goodWord w = true) : w ∈ fTB := fTB_of (List.mem_of_getElem? h) hg
theorem inT0 : ∀ w ∈ wsX00, w ∈ fTB := fun w h => fTB_of (inX0 w h) ((by decide +kernel : ∀ w ∈ wsX00, goodWord w = true) w h)
theorem inT1 : ∀ w ∈ wsX10, w ∈ fTB := fun w h => fTB_of (inX1 w h) ((by decide +kernel : ∀ w ∈ wsX10, goodWord w = true) w h)
theorem inT2 : ∀ w ∈ wsX20, w ∈ fTB := fun w h => fTB_of (inX2 w h) ((by decide +kernel : ∀ w ∈ wsX20, goodWord w = true) w h)
theorem inT3 : ∀ w ∈ wsX30, w ∈ fTB := fun w h => fTB_of (inX3 w h) ((by decide +kernel : ∀ w ∈ wsX30, goodWord w = true) w h)
theorem inT4 : ∀ w ∈ wsX40, w ∈ fTB := fun w h => fTB_of (inX4 w h) ((by decide +kernel : ∀ w ∈ wsX40, goodWord w = true) w h)
theorem inT5 : ∀ w ∈ wsX50, w ∈ fTB := fun w h => fTB_of (inX5 w h) ((by decide +kernel : ∀ w ∈ wsX50, goodWord w = true) w h)
theorem inT6 : ∀ w ∈ wsX60, w ∈ fTB := fun w h => fTB_of (inX6 w h) ((by decide +kernel : ∀ w ∈ wsX60, goodWord w = true) w h)
theorem inT7 : ∀ w ∈ wsX70, w ∈ fTB := fun w h => fTB_of (inX7 w h) ((by decide +kernel : ∀ w ∈ wsX70, goodWord w = true) w h)
theorem inT8 : ∀ w ∈ wsX80, w ∈ fTB := fun w h => fTB_of (inX8 w h) ((by decide +kernel : ∀ w ∈ wsX80, goodWord w = true) w h)
end
section
/-! THE FRAME: a small machine over numbers (a heap of fixed cells), and that the JVM does what it does. -/
/-- a half of the state: int fields (cell, slot), long fields, int arrays (cell, place), long arrays -/
abbrev fH : Type := (Nat → Nat → Int32) × (Nat → Nat → Int64) × (Nat → Nat → Int32) × (Nat → Nat → Int64)
/-- the state: the half of the landed program (cells below 36), the half of the reference -/
abbrev fS : Type := fH × fH
def fup {α : Type} (f : Nat → α) (k : Nat) (x : α) : Nat → α := fun j => if j = k then x else f j
theorem fup_s {α : Type} (f : Nat → α) (k : Nat) (x : α) : fup f k x k = x := if_pos rfl
theorem fup_n {α : Type} (f : Nat → α) {k j : Nat} (x : α) (h : j ≠ k) : fup f k x j = f j := if_neg h
def gI (S : fS) (o k : Nat) : Int32 := bif Nat.blt o 36 then S.1.1 o k else S.2.1 o k
def gJ (S : fS) (o k : Nat) : Int64 := bif Nat.blt o 36 then S.1.2.1 o k else S.2.2.1 o k
def gA (S : fS) (o : Nat) : Nat → Int32 := bif Nat.blt o 36 then S.1.2.2.1 o else S.2.2.2.1 o
def gB (S : fS) (o : Nat) : Nat → Int64 := bif Nat.blt o 36 then S.1.2.2.2 o else S.2.2.2.2 o
def wI (S : fS) (o k : Nat) (x : Int32) : fS := bif Nat.blt o 36 then ((fup S.1.1 o (fup (S.1.1 o) k x), S.1.2), S.2) else (S.1, (fup S.2.1 o (fup (S.2.1 o) k x), S.2.2))
def wJ (S : fS) (o k : Nat) (x : Int64) : fS := bif Nat.blt o 36 then ((S.1.1, fup S.1.2.1 o (fup (S.1.2.1 o) k x), S.1.2.2), S.2) else (S.1, (S.2.1, fup S.2.2.1 o (fup (S.2.2.1 o) k x), S.2.2.2))
def wA (S : fS) (o : Nat) (g : Nat → Int32) : fS := bif Nat.blt o 36 then ((S.1.1, S.1.2.1, fup S.1.2.2.1 o g, S.1.2.2.2), S.2) else (S.1, (S.2.1, S.2.2.1, fup S.2.2.2.1 o g, S.2.2.2.2))
def wB (S : fS) (o : Nat) (g : Nat → Int64) : fS := bif Nat.blt o 36 then ((S.1.1, S.1.2.1, S.1.2.2.1, fup S.1.2.2.2 o g), S.2) else (S.1, (S.2.1, S.2.2.1, S.2.2.2.1, fup S.2.2.2.2 o g))
section ReadWrite
variable (S : fS) (o k a b : Nat)
theorem gI_wI (x : Int32) : gI (wI S o k x) a b = if a = o then (if b = k then x else gI S a b) else gI S a b := by
  unfold gI wI
  cases h : Nat.blt o 36 <;> cases h2 : Nat.blt a 36 <;> simp only [cond_true, cond_false, fup] <;> (by_cases e : a = o)
  all_goals first | (subst e; rw [h] at h2; cases h2; done) | (subst e; simp [fup]; done) | (simp [e]; done)
theorem gJ_wJ (x : Int64) : gJ (wJ S o k x) a b = if a = o then (if b = k then x else gJ S a b) else gJ S a b := by
  unfold gJ wJ
  cases h : Nat.blt o 36 <;> cases h2 : Nat.blt a 36 <;> simp only [cond_true, cond_false, fup] <;> (by_cases e : a = o)
  all_goals first | (subst e; rw [h] at h2; cases h2; done) | (subst e; simp [fup]; done) | (simp [e]; done)
theorem gA_wA (g : Nat → Int32) : gA (wA S o g) a = if a = o then g else gA S a := by
  unfold gA wA
  cases h : Nat.blt o 36 <;> cases h2 : Nat.blt a 36 <;> simp only [cond_true, cond_false, fup] <;> (by_cases e : a = o)
  all_goals first | (subst e; rw [h] at h2; cases h2; done) | (subst e; simp [fup]; done) | (simp [e]; done)
theorem gB_wB (g : Nat → Int64) : gB (wB S o g) a = if a = o then g else gB S a := by
  unfold gB wB
  cases h : Nat.blt o 36 <;> cases h2 : Nat.blt a 36 <;> simp only [cond_true, cond_false, fup] <;> (by_cases e : a = o)
  all_goals first | (subst e; rw [h] at h2; cases h2; done) | (subst e; simp [fup]; done) | (simp [e]; done)
theorem gI_wJ (x : Int64) : gI (wJ S o k x) = gI S := by funext a b; unfold gI wJ; cases Nat.blt o 36 <;> rfl
theorem gI_wA (g : Nat → Int32) : gI (wA S o g) = gI S := by funext a b; unfold gI wA; cases Nat.blt o 36 <;> rfl
theorem gI_wB (g : Nat → Int64) : gI (wB S o g) = gI S := by funext a b; unfold gI wB; cases Nat.blt o 36 <;> rfl
theorem gJ_wI (x : Int32) : gJ (wI S o k x) = gJ S := by funext a b; unfold gJ wI; cases Nat.blt o 36 <;> rfl
theorem gJ_wA (g : Nat → Int32) : gJ (wA S o g) = gJ S := by funext a b; unfold gJ wA; cases Nat.blt o 36 <;> rfl
theorem gJ_wB (g : Nat → Int64) : gJ (wB S o g) = gJ S := by funext a b; unfold gJ wB; cases Nat.blt o 36 <;> rfl
theorem gA_wI (x : Int32) : gA (wI S o k x) = gA S := by funext a; unfold gA wI; cases Nat.blt o 36 <;> rfl
theorem gA_wJ (x : Int64) : gA (wJ S o k x) = gA S := by funext a; unfold gA wJ; cases Nat.blt o 36 <;> rfl
theorem gA_wB (g : Nat → Int64) : gA (wB S o g) = gA S := by funext a; unfold gA wB; cases Nat.blt o 36 <;> rfl
theorem gB_wI (x : Int32) : gB (wI S o k x) = gB S := by funext a; unfold gB wI; cases Nat.blt o 36 <;> rfl
theorem gB_wJ (x : Int64) : gB (wJ S o k x) = gB S := by funext a; unfold gB wJ; cases Nat.blt o 36 <;> rfl
theorem gB_wA (g : Nat → Int32) : gB (wA S o g) = gB S := by funext a; unfold gB wA; cases Nat.blt o 36 <;> rfl
end ReadWrite
/-- the cells: an object (its kind below 20; its slots: 0 a reference and to which cell, 1 an int, 2 a long, 3 a boolean), 20 an int array, 21 a long array (its length) -/
def fLay : List (Nat × List (Nat × Nat)) := [
  (7, [(0, 1), (0, 4), (0, 11), (0, 14), (0, 17), (0, 18), (0, 24), (0, 28), (0, 29), (1, 0), (1, 0)]),
  (4, [(0, 2), (0, 3), (1, 0)]), (20, [(8, 0)]), (20, [(8, 0)]),
  (6, [(0, 5), (0, 6), (0, 7), (0, 8), (0, 9), (0, 10), (1, 0)]), (20, [(64, 0)]), (20, [(16, 0)]), (20, [(16, 0)]), (20, [(16, 0)]), (20, [(16, 0)]), (20, [(16, 0)]),
  (2, [(0, 12), (0, 13), (1, 0)]), (20, [(4, 0)]), (20, [(4, 0)]),
  (2, [(0, 15), (0, 16), (1, 0)]), (20, [(8, 0)]), (20, [(8, 0)]),
  (20, [(4, 0)]),
  (3, [(0, 19), (0, 20), (0, 21), (0, 22), (0, 23), (1, 0), (1, 0), (1, 0)]), (20, [(3, 0)]), (20, [(8, 0)]), (20, [(8, 0)]), (21, [(5, 0)]), (21, [(5, 0)]),
  (1, [(0, 25), (0, 26), (0, 27), (1, 0), (1, 0)]), (20, [(3857, 0)]), (21, [(3857, 0)]), (20, [(3857, 0)]),
  (5, [(2, 0), (2, 0), (2, 0)]),
  (0, [(0, 30), (0, 31), (0, 32), (0, 33), (0, 34), (0, 35), (1, 0), (1, 0), (1, 0), (3, 0), (1, 0), (1, 0), (1, 0)]), (20, [(4, 0)]), (20, [(16, 0)]), (20, [(3857, 0)]), (20, [(6, 0)]), (21, [(5, 0)]), (21, [(5, 0)]),
  (8, [(1, 0), (0, 37), (0, 38), (1, 0), (0, 39), (0, 40), (1, 0), (0, 41), (0, 42), (0, 43), (1, 0), (0, 44), (0, 45), (1, 0), (1, 0), (0, 46), (0, 47), (0, 48), (0, 49), (0, 50), (0, 51), (0, 52), (1, 0), (2, 0), (2, 0), (1, 0), (0, 53), (0, 54), (0, 55), (0, 56)]),
  (20, [(8, 0)]), (20, [(8, 0)]), (20, [(64, 0)]), (20, [(16, 0)]), (20, [(4, 0)]), (20, [(4, 0)]), (20, [(4, 0)]), (20, [(8, 0)]), (20, [(8, 0)]),
  (21, [(2, 0)]), (21, [(2, 0)]), (21, [(8, 0)]), (21, [(8, 0)]), (21, [(5, 0)]), (21, [(5, 0)]), (20, [(3, 0)]), (20, [(4000, 0)]), (20, [(4000, 0)]), (21, [(4000, 0)]), (20, [(16, 0)])]
theorem fLay_len : fLay.length = 57 := by decide
/-- a value of the small machine (its references are cells' numbers) as the JVM has it -/
def cv (ad : Nat → Nat) (v : Value) : Value := match v with
  | .ref o => .ref (ad o)
  | v => v
theorem cv_cat (ad : Nat → Nat) (v : Value) : (cv ad v).category = v.category := by cases v <;> rfl
def fFld (S : fS) (o k : Nat) (d : Nat × Nat) : Value := match d.1 with
  | 0 => .ref d.2
  | 2 => .long (gJ S o k)
  | _ => .int (gI S o k)
def fLen (e : Nat × List (Nat × Nat)) : Nat := (e.2.headD (0, 0)).1
def fCell (ad : Nat → Nat) (cI cJ : ClassId) (S : fS) (o : Nat) (e : Nat × List (Nat × Nat)) : va_E := match e.1 with
  | 20 => .inl (cI, fLen e, .inl (gA S o))
  | 21 => .inl (cJ, fLen e, .inr (.inl (gB S o)))
  | ci => .inr (ci, e.2.mapIdx fun k d => cv ad (fFld S o k d))
def fW (ad : Nat → Nat) (cI cJ : ClassId) (S : fS) : va_W := fLay.mapIdx fun o e => (ad o, fCell ad cI cJ S o e)
theorem fW_at (ad : Nat → Nat) (cI cJ : ClassId) (S : fS) {o : Nat} {e : Nat × List (Nat × Nat)} (h : fLay[o]? = some e) : (fW ad cI cJ S)[o]? = some (ad o, fCell ad cI cJ S o e) := by
  simp [fW, List.getElem?_mapIdx, h]
theorem fCell_obj (ad : Nat → Nat) (cI cJ : ClassId) (S : fS) (o ci : Nat) (fs : List (Nat × Nat)) (h : ci < 20) : fCell ad cI cJ S o (ci, fs) = .inr (ci, fs.mapIdx fun k d => cv ad (fFld S o k d)) := by
  unfold fCell
  split
  · rename_i q; simp only at q; omega
  · rename_i q; simp only at q; omega
  · rfl
theorem fCell_int (ad : Nat → Nat) (cI cJ : ClassId) (S : fS) (o : Nat) (fs : List (Nat × Nat)) : fCell ad cI cJ S o (20, fs) = .inl (cI, fLen (20, fs), .inl (gA S o)) := rfl
theorem fCell_long (ad : Nat → Nat) (cI cJ : ClassId) (S : fS) (o : Nat) (fs : List (Nat × Nat)) : fCell ad cI cJ S o (21, fs) = .inl (cJ, fLen (21, fs), .inr (.inl (gB S o))) := rfl
/-- a world with one cell changed -/
theorem fW_set (ad : Nat → Nat) (cI cJ : ClassId) (S S' : fS) {o : Nat} {e : Nat × List (Nat × Nat)} (h : fLay[o]? = some e) (hs : ∀ (a : Nat) (d : Nat × List (Nat × Nat)), fLay[a]? = some d → a ≠ o → fCell ad cI cJ S' a d = fCell ad cI cJ S a d) : (fW ad cI cJ S).set o (ad o, fCell ad cI cJ S' o e) = fW ad cI cJ S' := by
  apply List.ext_getElem?
  intro i
  by_cases hi : i = o
  · subst hi
    rw [List.getElem?_set_self (by simp only [fW, List.length_mapIdx]; exact (List.getElem?_eq_some_iff.mp h).1), fW_at ad cI cJ S' h]
  · rw [List.getElem?_set_ne (Ne.symm hi)]
    simp only [fW, List.getElem?_mapIdx]
    cases hd : fLay[i]? with
    | none => rfl
    | some d => simp only [Option.map_some]; rw [hs i d hd hi]
/-- a cell looks only at its own numbers -/
theorem fCell_eq (ad : Nat → Nat) (cI cJ : ClassId) (S S' : fS) (a : Nat) (d : Nat × List (Nat × Nat)) (hI : gI S' a = gI S a) (hJ : gJ S' a = gJ S a) (hA : gA S' a = gA S a) (hB : gB S' a = gB S a) : fCell ad cI cJ S' a d = fCell ad cI cJ S a d := by
  unfold fCell
  rw [hA, hB]
  have : (fun k d => cv ad (fFld S' a k d)) = (fun k d => cv ad (fFld S a k d)) := by
    funext k d
    unfold fFld
    rw [hI, hJ]
  rw [this]
end
section
/-! THE SMALL MACHINE'S STEP -/
abbrev fL : Type := List (Nat × Value)
abbrev fR : Type := Option (Option Prop × fL × List Value × fS)
def fGet : fL → Nat → Option Value
  | [], _ => none
  | q :: t, i => bif Nat.beq q.1 i then some q.2 else fGet t i
def fIns (i : Nat) (v : Value) : fL → fL
  | [] => [(i, v)]
  | q :: t => bif Nat.blt i q.1 then (i, v) :: q :: t else q :: fIns i v t
def fSet1 (L : fL) (i : Nat) (v : Value) : fL := fIns i v (L.filter (fun q => !(Nat.beq q.1 i) && !(Nat.beq (q.1 + 1) i && Nat.beq q.2.category 2)))
def fSet2 (L : fL) (i : Nat) (v : Value) : fL := fIns i v (L.filter (fun q => !(Nat.beq q.1 i) && (!(Nat.beq q.1 (i + 1)) && !(Nat.beq (q.1 + 1) i && Nat.beq q.2.category 2))))
/-- a constant as it is written -/
def fLit (n : Int) : Int32 := match n with
  | .ofNat k => OfNat.ofNat k
  | .negSucc k => -(OfNat.ofNat (k + 1))
def fLdI (L : fL) (i : Nat) (st : List Value) (S : fS) : fR := match fGet L i with
  | some (.int x) => some (none, L, .int x :: st, S)
  | _ => none
def fLdJ (L : fL) (i : Nat) (st : List Value) (S : fS) : fR := match fGet L i with
  | some (.long x) => some (none, L, .long x :: st, S)
  | _ => none
def fLdA (L : fL) (i : Nat) (st : List Value) (S : fS) : fR := match fGet L i with
  | some (.ref x) => some (none, L, .ref x :: st, S)
  | _ => none
def fStI (nl : Nat) (L : fL) (i : Nat) (st : List Value) (S : fS) : fR := match st with
  | .int x :: r => bif Nat.blt i nl then some (none, fSet1 L i (.int x), r, S) else none
  | _ => none
def fStA (nl : Nat) (L : fL) (i : Nat) (st : List Value) (S : fS) : fR := match st with
  | .ref x :: r => bif Nat.blt i nl then some (none, fSet1 L i (.ref x), r, S) else none
  | _ => none
def fStJ (nl : Nat) (L : fL) (i : Nat) (st : List Value) (S : fS) : fR := match st with
  | .long x :: r => bif Nat.blt (i + 1) nl then some (none, fSet2 L i (.long x), r, S) else none
  | _ => none
def fII (f : Int32 → Int32 → Int32) (L : fL) (st : List Value) (S : fS) : fR := match st with
  | .int y :: .int x :: r => some (none, L, .int (f x y) :: r, S)
  | _ => none
def fJJ (f : Int64 → Int64 → Int64) (L : fL) (st : List Value) (S : fS) : fR := match st with
  | .long y :: .long x :: r => some (none, L, .long (f x y) :: r, S)
  | _ => none
def fJI (f : Int64 → Int32 → Int64) (L : fL) (st : List Value) (S : fS) : fR := match st with
  | .int y :: .long x :: r => some (none, L, .long (f x y) :: r, S)
  | _ => none
def fIIq (f : Int32 → Int32 → Int32) (L : fL) (st : List Value) (S : fS) : fR := match st with
  | .int y :: .int x :: r => some (some (¬ y = 0), L, .int (f x y) :: r, S)
  | _ => none
def fJJq (f : Int64 → Int64 → Int64) (L : fL) (st : List Value) (S : fS) : fR := match st with
  | .long y :: .long x :: r => some (some (¬ y = 0), L, .long (f x y) :: r, S)
  | _ => none
def fCmp (L : fL) (st : List Value) (S : fS) : fR := match st with
  | .long y :: .long x :: r => some (none, L, .int (lg_cmp x y) :: r, S)
  | _ => none
def fUn (L : fL) (st : List Value) (S : fS) (f : Value → Option Value) : fR := match st with
  | v :: r => match f v with
    | some w => some (none, L, w :: r, S)
    | none => none
  | _ => none
def fI2L (v : Value) : Option Value := match v with
  | .int x => some (.long x.toInt64)
  | _ => none
def fL2I (v : Value) : Option Value := match v with
  | .long x => some (.int x.toInt32)
  | _ => none
def fIneg (v : Value) : Option Value := match v with
  | .int x => some (.int (-x))
  | _ => none
def fLneg (v : Value) : Option Value := match v with
  | .long x => some (.long (-x))
  | _ => none
def fDup (L : fL) (st : List Value) (S : fS) : fR := match st with
  | v :: r => bif Nat.beq v.category 1 then some (none, L, v :: v :: r, S) else none
  | _ => none
def fIinc (nl : Nat) (L : fL) (i : Nat) (n : Int) (st : List Value) (S : fS) : fR := match fGet L i with
  | some (.int x) => bif Nat.blt i nl then some (none, fSet1 L i (.int (x + fLit n)), st, S) else none
  | _ => none
def fGetf (d : Option (Nat × Nat)) (L : fL) (st : List Value) (S : fS) : fR := match d, st with
  | some (ci, k), .ref o :: r => match fLay[o]? with
    | some e => bif Nat.beq e.1 ci then (match e.2[k]? with
      | some d => some (none, L, fFld S o k d :: r, S)
      | none => none) else none
    | none => none
  | _, _ => none
def fPut1 (L : fL) (r : List Value) (S : fS) (o k : Nat) (t : Nat) (v : Value) : fR := match t, v with
  | 1, .int x => some (none, L, r, wI S o k x)
  | 2, .long x => some (none, L, r, wJ S o k x)
  | 3, .int x => some (some (x = 0 ∨ x = 1), L, r, wI S o k x)
  | _, _ => none
def fPutf (d : Option (Nat × Nat)) (L : fL) (st : List Value) (S : fS) : fR := match d, st with
  | some (ci, k), v :: .ref o :: r => match fLay[o]? with
    | some e => bif Nat.beq e.1 ci then (match e.2[k]? with
      | some d => fPut1 L r S o k d.1 v
      | none => none) else none
    | none => none
  | _, _ => none
def fIald (sc : Option (Nat × (Nat → Int32))) (L : fL) (st : List Value) (S : fS) : fR := match st with
  | .int i :: .ref o :: r => bif Nat.beq o 99 then (match sc with
      | some q => some (some (vp_in i q.1), L, .int (q.2 i.toNatClampNeg) :: r, S)
      | none => none)
    else match fLay[o]? with
      | some e => bif Nat.beq e.1 20 then some (some (vp_in i (fLen e)), L, .int (gA S o i.toNatClampNeg) :: r, S) else none
      | none => none
  | _ => none
def fLald (L : fL) (st : List Value) (S : fS) : fR := match st with
  | .int i :: .ref o :: r => match fLay[o]? with
      | some e => bif Nat.beq e.1 21 then some (some (vp_in i (fLen e)), L, .long (gB S o i.toNatClampNeg) :: r, S) else none
      | none => none
  | _ => none
def fIast (L : fL) (st : List Value) (S : fS) : fR := match st with
  | .int x :: .int i :: .ref o :: r => match fLay[o]? with
      | some e => bif Nat.beq e.1 20 then some (some (vp_in i (fLen e)), L, r, wA S o (upd (gA S o) i.toNatClampNeg x)) else none
      | none => none
  | _ => none
def fLast (L : fL) (st : List Value) (S : fS) : fR := match st with
  | .long x :: .int i :: .ref o :: r => match fLay[o]? with
      | some e => bif Nat.beq e.1 21 then some (some (vp_in i (fLen e)), L, r, wB S o (vp_updL (gB S o) i.toNatClampNeg x)) else none
      | none => none
  | _ => none
def fAlen (sc : Option (Nat × (Nat → Int32))) (L : fL) (st : List Value) (S : fS) : fR := match st with
  | .ref o :: r => bif Nat.beq o 99 then (match sc with
      | some q => some (none, L, .int (Int32.ofNat q.1) :: r, S)
      | none => none)
    else match fLay[o]? with
      | some e => bif Nat.beq e.1 20 then some (none, L, .int (OfNat.ofNat (fLen e)) :: r, S) else none
      | none => none
  | _ => none
def fKcI (d : Option Value) (L : fL) (st : List Value) (S : fS) : fR := match d with
  | some (.int x) => some (none, L, .int x :: st, S)
  | _ => none
def fKcJ (d : Option Value) (L : fL) (st : List Value) (S : fS) : fR := match d with
  | some (.long x) => some (none, L, .long x :: st, S)
  | _ => none
abbrev fSc : Type := Option (Nat × (Nat → Int32))
/-- one instruction that neither branches nor calls -/
def fStp (fl : Nat → Option (Nat × Nat)) (kc : Nat → Option Value) (nl : Nat) (sc : fSc) (i : Instr) (L : fL) (st : List Value) (S : fS) : fR := match i with
  | .iload_n k => fLdI L k.val st S
  | .iload k => fLdI L k st S
  | .lload_n k => fLdJ L k.val st S
  | .lload k => fLdJ L k st S
  | .aload_n k => fLdA L k.val st S
  | .aload k => fLdA L k st S
  | .istore_n k => fStI nl L k.val st S
  | .istore k => fStI nl L k st S
  | .lstore_n k => fStJ nl L k.val st S
  | .lstore k => fStJ nl L k st S
  | .astore_n k => fStA nl L k.val st S
  | .astore k => fStA nl L k st S
  | .iconst n => some (none, L, .int (fLit n) :: st, S)
  | .bipush n => bif decide (-128 ≤ n ∧ n < 128) then some (none, L, .int (fLit n) :: st, S) else none
  | .sipush n => bif decide (-32768 ≤ n ∧ n < 32768) then some (none, L, .int (fLit n) :: st, S) else none
  | .lconst n => some (none, L, .long (OfNat.ofNat n.val) :: st, S)
  | .ldc k => fKcI (kc k) L st S
  | .ldc_w k => fKcI (kc k) L st S
  | .ldc2_w k => fKcJ (kc k) L st S
  | .iadd => fII (fun x y => x + y) L st S
  | .isub => fII (fun x y => x - y) L st S
  | .imul => fII (fun x y => x * y) L st S
  | .iand => fII (fun x y => x &&& y) L st S
  | .ior => fII (fun x y => x ||| y) L st S
  | .ishl => fII (fun x y => x <<< (y &&& 31)) L st S
  | .ishr => fII (fun x y => x >>> (y &&& 31)) L st S
  | .iushr => fII (fun x y => (x.toUInt32 >>> (y.toUInt32 &&& Int32.toUInt32 31)).toInt32) L st S
  | .idiv => fIIq (fun x y => x / y) L st S
  | .irem => fIIq (fun x y => x - x / y * y) L st S
  | .ladd => fJJ (fun x y => x + y) L st S
  | .lsub => fJJ (fun x y => x - y) L st S
  | .lmul => fJJ (fun x y => x * y) L st S
  | .land => fJJ (fun x y => x &&& y) L st S
  | .lor => fJJ (fun x y => x ||| y) L st S
  | .ldiv => fJJq (fun x y => x / y) L st S
  | .lshl => fJI (fun x y => x <<< (y.toInt64 &&& 63)) L st S
  | .lshr => fJI (fun x y => x >>> (y.toInt64 &&& 63)) L st S
  | .lcmp => fCmp L st S
  | .i2l => fUn L st S fI2L
  | .l2i => fUn L st S fL2I
  | .ineg => fUn L st S fIneg
  | .lneg => fUn L st S fLneg
  | .dup => fDup L st S
  | .iinc k n => fIinc nl L k n st S
  | .getfield k => fGetf (fl k) L st S
  | .putfield k => fPutf (fl k) L st S
  | .iaload => fIald sc L st S
  | .laload => fLald L st S
  | .iastore => fIast L st S
  | .lastore => fLast L st S
  | .arraylength => fAlen sc L st S
  | .goto _ => some (none, L, st, S)
  | _ => none
def fIl (i : Instr) : Nat := match i with
  | .iload _ => 2
  | .lload _ => 2
  | .aload _ => 2
  | .istore _ => 2
  | .lstore _ => 2
  | .astore _ => 2
  | .bipush _ => 2
  | .ldc _ => 2
  | .sipush _ => 3
  | .ldc_w _ => 3
  | .ldc2_w _ => 3
  | .iinc _ _ => 3
  | .getfield _ => 3
  | .putfield _ => 3
  | .goto _ => 3
  | _ => 1
def fNext (i : Instr) (pc : Nat) : Nat := match i with
  | .goto off => ((pc : Int) + off).toNat
  | i => pc + fIl i
def fGo (i : Instr) (pc : Nat) : Bool := match i with
  | .goto off => decide (0 ≤ (pc : Int) + off)
  | _ => true
/-- the code has these instructions from there on, one behind the other -/
def fOkB (cc : ByteArray) : Nat → List Instr → Bool
  | _, [] => true
  | pc, i :: t => decide (decode cc pc = .ok (i, fIl i)) && (fGo i pc && fOkB cc (fNext i pc) t)
def fRun (fl : Nat → Option (Nat × Nat)) (kc : Nat → Option Value) (nl : Nat) (sc : fSc) : List Instr → Nat → fL → List Value → fS → Option (Prop × Nat × fL × List Value × fS)
  | [], pc, L, st, S => some (True, pc, L, st, S)
  | i :: t, pc, L, st, S => match fStp fl kc nl sc i L st S with
    | none => none
    | some (none, L', st', S') => fRun fl kc nl sc t (fNext i pc) L' st' S'
    | some (some P, L', st', S') => match fRun fl kc nl sc t (fNext i pc) L' st' S' with
      | none => none
      | some (P2, z) => some (P ∧ P2, z)
end
section
/-! THE JVM DOES WHAT THE SMALL MACHINE DOES -/
def fLs (ad : Nat → Nat) (L : fL) : fL := L.map fun q => (q.1, cv ad q.2)
theorem fGet_mem : ∀ {L : fL} {i : Nat} {v : Value}, fGet L i = some v → (i, v) ∈ L
  | [], _, _, h => by cases h
  | q :: t, i, v, h => by
    unfold fGet at h
    cases hq : Nat.beq q.1 i with
    | true =>
      rw [hq] at h
      have e := Nat.eq_of_beq_eq_true hq
      simp only [cond_true, Option.some.injEq] at h
      subst h
      subst e
      exact List.mem_cons_self
    | false =>
      rw [hq] at h
      exact List.mem_cons_of_mem _ (fGet_mem h)
theorem fIns_mem (i : Nat) (v : Value) : ∀ (L : fL) (q : Nat × Value), q ∈ fIns i v L → q = (i, v) ∨ q ∈ L
  | [], q, h => by simp [fIns] at h; exact Or.inl h
  | r :: t, q, h => by
    unfold fIns at h
    cases hq : Nat.blt i r.1 with
    | true => rw [hq] at h; simpa using h
    | false =>
      rw [hq] at h
      rcases List.mem_cons.mp h with e | e
      · exact Or.inr (e ▸ List.mem_cons_self)
      · rcases fIns_mem i v t q e with e | e
        · exact Or.inl e
        · exact Or.inr (List.mem_cons_of_mem _ e)
theorem fls_less {ls : Array Slot} {nL : Nat} {l l' : fL} (h : lv_has ls nL l) (hm : ∀ q ∈ l', q ∈ l) : lv_has ls nL l' := ⟨h.1, h.2.1, fun q hq => h.2.2 q (hm q hq)⟩
theorem fbeq (a b : Nat) : (a == b) = Nat.beq a b := by rw [Bool.eq_iff_iff]; simp
theorem fSet1_less (ad : Nat → Nat) (L : fL) (i : Nat) (v : Value) : ∀ q ∈ fLs ad (fSet1 L i v), q ∈ (i, cv ad v) :: (fLs ad L).filter (fun q => !(q.1 == i) && !(q.1 + 1 == i && q.2.category == 2)) := by
  intro q hq
  obtain ⟨r, hr, rfl⟩ := List.mem_map.mp hq
  rcases fIns_mem i v _ r hr with e | e
  · subst e; exact List.mem_cons_self
  · refine List.mem_cons_of_mem _ (List.mem_filter.mpr ⟨List.mem_map.mpr ⟨r, (List.mem_filter.mp e).1, rfl⟩, ?_⟩)
    have h2 := (List.mem_filter.mp e).2
    simp only [cv_cat, fbeq]
    exact h2
theorem fSet2_less (ad : Nat → Nat) (L : fL) (i : Nat) (v : Value) : ∀ q ∈ fLs ad (fSet2 L i v), q ∈ (i, cv ad v) :: (fLs ad L).filter (fun q => !(q.1 == i) && (!(q.1 == i + 1) && !(q.1 + 1 == i && q.2.category == 2))) := by
  intro q hq
  obtain ⟨r, hr, rfl⟩ := List.mem_map.mp hq
  rcases fIns_mem i v _ r hr with e | e
  · subst e; exact List.mem_cons_self
  · refine List.mem_cons_of_mem _ (List.mem_filter.mpr ⟨List.mem_map.mpr ⟨r, (List.mem_filter.mp e).1, rfl⟩, ?_⟩)
    have h2 := (List.mem_filter.mp e).2
    simp only [cv_cat, fbeq]
    exact h2
theorem fLit_ofInt (n : Int) : fLit n = Int32.ofInt n := by
  cases n with
  | ofNat k => rfl
  | negSucc k =>
    show -(Int32.ofNat (k + 1)) = Int32.ofInt (Int.negSucc k)
    rw [show Int.negSucc k = -((k + 1 : Nat) : Int) from rfl, Int32.ofInt_neg]
    rfl
theorem fLit_8 {n : Int} (h1 : -128 ≤ n) (h2 : n < 128) : (Int8.ofInt n).toInt32 = fLit n := by
  rw [fLit_ofInt]
  apply Int32.toInt_inj.mp
  rw [Int8.toInt_toInt32, Int8.toInt_ofInt, Int32.toInt_ofInt]
  have a : n.bmod 256 = n := by rw [Int.bmod_def]; omega
  have b : n.bmod 4294967296 = n := by rw [Int.bmod_def]; omega
  simp only [Int8.size, Int32.size] at *
  omega
theorem fLit_16 {n : Int} (h1 : -32768 ≤ n) (h2 : n < 32768) : (Int16.ofInt n).toInt32 = fLit n := by
  rw [fLit_ofInt]
  apply Int32.toInt_inj.mp
  rw [Int16.toInt_toInt32, Int16.toInt_ofInt, Int32.toInt_ofInt]
  have a : n.bmod 65536 = n := by rw [Int.bmod_def]; omega
  have b : n.bmod 4294967296 = n := by rw [Int.bmod_def]; omega
  simp only [Int16.size, Int32.size] at *
  omega
/-- what the tables must say of the constant pool's numbers -/
def fFlOk (own : String) (fl : Nat → Option (Nat × Nat)) : Prop := ∀ (idx ci k : Nat), fl idx = some (ci, k) → ∃ (C : String) (T : u_T) (N : Nat), vwCl[ci]? = some (C, T, N) ∧ k < N ∧ Cond.fieldLink own idx (T k).1 (T k).2.1 (T k).2.2.1 ∈ fTB
def fKcOk (own : String) (kc : Nat → Option Value) : Prop := ∀ idx : Nat, (∀ x : Int32, kc idx = some (.int x) → Cond.constant own idx x ∈ fTB) ∧ (∀ x : Int64, kc idx = some (.long x) → Cond.constantLong own idx x ∈ fTB)
def fScOk (sc : fSc) (ad : Nat → Nat) (A : Nat → Prop) (s : State) : Prop := match sc with
  | none => True
  | some q => va_X (ad 99) q.1 q.2 s s.heap ∧ ad 99 < s.heap.size ∧ ¬ A (ad 99)
theorem fin_ws {ci : Nat} {C : String} {T : u_T} {N : Nat} (h : vwCl[ci]? = some (C, T, N)) : (∀ w ∈ u_ws C T N, w ∈ fTB) ∧ ∃ ty0 : Nat → FieldType, (∀ k, k < N → parseFieldDescriptor (T k).2.2.1 = some (ty0 k)) ∧ (∀ a, a < N → ∀ b, b < N → a ≠ b → (T a).2.1 ≠ (T b).2.1) := by
  match ci, h with
  | 0, h => cases h; exact ⟨inT0, tyX0, tyX0_ok, nmX0⟩
  | 1, h => cases h; exact ⟨inT1, tyX1, tyX1_ok, nmX1⟩
  | 2, h => cases h; exact ⟨inT2, tyX2, tyX2_ok, nmX2⟩
  | 3, h => cases h; exact ⟨inT3, tyX3, tyX3_ok, nmX3⟩
  | 4, h => cases h; exact ⟨inT4, tyX4, tyX4_ok, nmX4⟩
  | 5, h => cases h; exact ⟨inT5, tyX5, tyX5_ok, nmX5⟩
  | 6, h => cases h; exact ⟨inT6, tyX6, tyX6_ok, nmX6⟩
  | 7, h => cases h; exact ⟨inT7, tyX7, tyX7_ok, nmX7⟩
  | 8, h => cases h; exact ⟨inT8, tyX8, tyX8_ok, nmX8⟩
  | k + 9, h => simp [vwCl] at h
/-- the layout and the tables' fields say the same -/
def fLayChk (e : Nat × List (Nat × Nat)) : Bool := match vwCl[e.1]? with
  | none => decide (20 ≤ e.1)
  | some q => decide (e.2.length = q.2.2) && decide (e.1 < 20) && (e.2.zipIdx.all fun d => match d.1.1 with
    | 1 => decide ((q.2.1 d.2).2.2 = ("I", false))
    | 2 => decide ((q.2.1 d.2).2.2 = ("J", false))
    | 3 => decide ((q.2.1 d.2).2.2 = ("Z", false))
    | _ => true)
theorem fLay_chk : ∀ e ∈ fLay, fLayChk e = true := by decide +kernel
theorem fLay_obj {o : Nat} {e : Nat × List (Nat × Nat)} {C : String} {T : u_T} {N : Nat} (h : fLay[o]? = some e) (hc : vwCl[e.1]? = some (C, T, N)) : e.2.length = N ∧ e.1 < 20 ∧ ∀ (k : Nat) (d : Nat × Nat), e.2[k]? = some d → (d.1 = 1 → (T k).2.2 = ("I", false)) ∧ (d.1 = 2 → (T k).2.2 = ("J", false)) ∧ (d.1 = 3 → (T k).2.2 = ("Z", false)) := by
  have q := fLay_chk e (List.mem_of_getElem? h)
  unfold fLayChk at q
  rw [hc] at q
  simp only [Bool.and_eq_true, decide_eq_true_eq, List.all_eq_true] at q
  refine ⟨q.1.1, q.1.2, fun k d hd => ?_⟩
  have hm : (d, k) ∈ e.2.zipIdx := by
    rw [List.mem_zipIdx_iff_getElem?]
    exact hd
  have z := q.2 (d, k) hm
  refine ⟨fun e1 => ?_, fun e1 => ?_, fun e1 => ?_⟩ <;> (simp only [e1, decide_eq_true_eq] at z; exact z)

section Sound
variable {p : Program} {l : Launch} {e : Env} {R : Room} {s : State} {m : MethodId} {args : Array Value} {below : List Frame} {meth : Method} {c : Code} {cells slots : Nat} {Q : State → Prop}
variable {D : va_G} {ad : Nat → Nat} {cI cJ : ClassId} {A : Nat → Prop} {own : String} {cc : ByteArray} {nl : Nat} {fl : Nat → Option (Nat × Nat)} {kc : Nat → Option Value} {sc : fSc}
variable {L L' : fL} {st st' : List Value} {S S' : fS} {H : Heap} {locs : List Loc} {ls : Array Slot} {pc : Nat} {P : Option Prop} {i : Instr}
theorem fLdI_inv {k : Nat} (h : fLdI L k st S = some (P, L', st', S')) : ∃ x, fGet L k = some (.int x) ∧ L' = L ∧ st' = .int x :: st ∧ S' = S := by
  unfold fLdI at h
  split at h
  · rename_i x hx
    simp only [Option.some.injEq, Prod.mk.injEq] at h
    exact ⟨x, hx, h.2.1.symm, h.2.2.1.symm, h.2.2.2.symm⟩
  · cases h
theorem fLdJ_inv {k : Nat} (h : fLdJ L k st S = some (P, L', st', S')) : ∃ x, fGet L k = some (.long x) ∧ L' = L ∧ st' = .long x :: st ∧ S' = S := by
  unfold fLdJ at h
  split at h
  · rename_i x hx
    simp only [Option.some.injEq, Prod.mk.injEq] at h
    exact ⟨x, hx, h.2.1.symm, h.2.2.1.symm, h.2.2.2.symm⟩
  · cases h
theorem fLdA_inv {k : Nat} (h : fLdA L k st S = some (P, L', st', S')) : ∃ x, fGet L k = some (.ref x) ∧ L' = L ∧ st' = .ref x :: st ∧ S' = S := by
  unfold fLdA at h
  split at h
  · rename_i x hx
    simp only [Option.some.injEq, Prod.mk.injEq] at h
    exact ⟨x, hx, h.2.1.symm, h.2.2.1.symm, h.2.2.2.symm⟩
  · cases h
theorem fStI_inv {k : Nat} (h : fStI nl L k st S = some (P, L', st', S')) : ∃ x, st = .int x :: st' ∧ k < nl ∧ L' = fSet1 L k (.int x) ∧ S' = S := by
  unfold fStI at h
  split at h
  · rename_i x r
    cases hb : Nat.blt k nl with
    | true =>
      rw [hb] at h
      simp only [cond_true, Option.some.injEq, Prod.mk.injEq] at h
      exact ⟨x, by rw [h.2.2.1], Nat.le_of_ble_eq_true hb, h.2.1.symm, h.2.2.2.symm⟩
    | false => rw [hb] at h; cases h
  · cases h
theorem fStA_inv {k : Nat} (h : fStA nl L k st S = some (P, L', st', S')) : ∃ x, st = .ref x :: st' ∧ k < nl ∧ L' = fSet1 L k (.ref x) ∧ S' = S := by
  unfold fStA at h
  split at h
  · rename_i x r
    cases hb : Nat.blt k nl with
    | true =>
      rw [hb] at h
      simp only [cond_true, Option.some.injEq, Prod.mk.injEq] at h
      exact ⟨x, by rw [h.2.2.1], Nat.le_of_ble_eq_true hb, h.2.1.symm, h.2.2.2.symm⟩
    | false => rw [hb] at h; cases h
  · cases h
theorem fStJ_inv {k : Nat} (h : fStJ nl L k st S = some (P, L', st', S')) : ∃ x, st = .long x :: st' ∧ k + 1 < nl ∧ L' = fSet2 L k (.long x) ∧ S' = S := by
  unfold fStJ at h
  split at h
  · rename_i x r
    cases hb : Nat.blt (k + 1) nl with
    | true =>
      rw [hb] at h
      simp only [cond_true, Option.some.injEq, Prod.mk.injEq] at h
      exact ⟨x, by rw [h.2.2.1], Nat.le_of_ble_eq_true hb, h.2.1.symm, h.2.2.2.symm⟩
    | false => rw [hb] at h; cases h
  · cases h
theorem fII_inv {f : Int32 → Int32 → Int32} (h : fII f L st S = some (P, L', st', S')) : ∃ x y r, st = .int y :: .int x :: r ∧ L' = L ∧ st' = .int (f x y) :: r ∧ S' = S := by
  unfold fII at h
  split at h
  · rename_i y x r
    simp only [Option.some.injEq, Prod.mk.injEq] at h
    exact ⟨x, y, r, rfl, h.2.1.symm, h.2.2.1.symm, h.2.2.2.symm⟩
  · cases h
theorem fJJ_inv {f : Int64 → Int64 → Int64} (h : fJJ f L st S = some (P, L', st', S')) : ∃ x y r, st = .long y :: .long x :: r ∧ L' = L ∧ st' = .long (f x y) :: r ∧ S' = S := by
  unfold fJJ at h
  split at h
  · rename_i y x r
    simp only [Option.some.injEq, Prod.mk.injEq] at h
    exact ⟨x, y, r, rfl, h.2.1.symm, h.2.2.1.symm, h.2.2.2.symm⟩
  · cases h
theorem fJI_inv {f : Int64 → Int32 → Int64} (h : fJI f L st S = some (P, L', st', S')) : ∃ x y r, st = .int y :: .long x :: r ∧ L' = L ∧ st' = .long (f x y) :: r ∧ S' = S := by
  unfold fJI at h
  split at h
  · rename_i y x r
    simp only [Option.some.injEq, Prod.mk.injEq] at h
    exact ⟨x, y, r, rfl, h.2.1.symm, h.2.2.1.symm, h.2.2.2.symm⟩
  · cases h
theorem fIIq_inv {f : Int32 → Int32 → Int32} (h : fIIq f L st S = some (P, L', st', S')) : ∃ x y r, st = .int y :: .int x :: r ∧ P = some (¬ y = 0) ∧ L' = L ∧ st' = .int (f x y) :: r ∧ S' = S := by
  unfold fIIq at h
  split at h
  · rename_i y x r
    simp only [Option.some.injEq, Prod.mk.injEq] at h
    exact ⟨x, y, r, rfl, h.1.symm, h.2.1.symm, h.2.2.1.symm, h.2.2.2.symm⟩
  · cases h
theorem fJJq_inv {f : Int64 → Int64 → Int64} (h : fJJq f L st S = some (P, L', st', S')) : ∃ x y r, st = .long y :: .long x :: r ∧ P = some (¬ y = 0) ∧ L' = L ∧ st' = .long (f x y) :: r ∧ S' = S := by
  unfold fJJq at h
  split at h
  · rename_i y x r
    simp only [Option.some.injEq, Prod.mk.injEq] at h
    exact ⟨x, y, r, rfl, h.1.symm, h.2.1.symm, h.2.2.1.symm, h.2.2.2.symm⟩
  · cases h
theorem fCmp_inv (h : fCmp L st S = some (P, L', st', S')) : ∃ x y r, st = .long y :: .long x :: r ∧ L' = L ∧ st' = .int (lg_cmp x y) :: r ∧ S' = S := by
  unfold fCmp at h
  split at h
  · rename_i y x r
    simp only [Option.some.injEq, Prod.mk.injEq] at h
    exact ⟨x, y, r, rfl, h.2.1.symm, h.2.2.1.symm, h.2.2.2.symm⟩
  · cases h
theorem fUn_inv {f : Value → Option Value} (h : fUn L st S f = some (P, L', st', S')) : ∃ v w r, st = v :: r ∧ f v = some w ∧ L' = L ∧ st' = w :: r ∧ S' = S := by
  unfold fUn at h
  split at h
  · rename_i v r
    split at h
    · rename_i w hw
      simp only [Option.some.injEq, Prod.mk.injEq] at h
      exact ⟨v, w, r, rfl, hw, h.2.1.symm, h.2.2.1.symm, h.2.2.2.symm⟩
    · cases h
  · cases h
theorem fDup_inv (h : fDup L st S = some (P, L', st', S')) : ∃ v r, st = v :: r ∧ v.category = 1 ∧ L' = L ∧ st' = v :: v :: r ∧ S' = S := by
  unfold fDup at h
  split at h
  · rename_i v r
    cases hb : Nat.beq v.category 1 with
    | true =>
      rw [hb] at h
      simp only [cond_true, Option.some.injEq, Prod.mk.injEq] at h
      exact ⟨v, r, rfl, Nat.eq_of_beq_eq_true hb, h.2.1.symm, h.2.2.1.symm, h.2.2.2.symm⟩
    | false => rw [hb] at h; cases h
  · cases h
theorem fIinc_inv {k : Nat} {n : Int} (h : fIinc nl L k n st S = some (P, L', st', S')) : ∃ x, fGet L k = some (.int x) ∧ k < nl ∧ L' = fSet1 L k (.int (x + fLit n)) ∧ st' = st ∧ S' = S := by
  unfold fIinc at h
  split at h
  · rename_i x hx
    cases hb : Nat.blt k nl with
    | true =>
      rw [hb] at h
      simp only [cond_true, Option.some.injEq, Prod.mk.injEq] at h
      exact ⟨x, hx, Nat.le_of_ble_eq_true hb, h.2.1.symm, h.2.2.1.symm, h.2.2.2.symm⟩
    | false => rw [hb] at h; cases h
  · cases h
theorem fKcI_inv {d : Option Value} (h : fKcI d L st S = some (P, L', st', S')) : ∃ x, d = some (.int x) ∧ L' = L ∧ st' = .int x :: st ∧ S' = S := by
  unfold fKcI at h
  split at h
  · rename_i x
    simp only [Option.some.injEq, Prod.mk.injEq] at h
    exact ⟨x, rfl, h.2.1.symm, h.2.2.1.symm, h.2.2.2.symm⟩
  · cases h
theorem fKcJ_inv {d : Option Value} (h : fKcJ d L st S = some (P, L', st', S')) : ∃ x, d = some (.long x) ∧ L' = L ∧ st' = .long x :: st ∧ S' = S := by
  unfold fKcJ at h
  split at h
  · rename_i x
    simp only [Option.some.injEq, Prod.mk.injEq] at h
    exact ⟨x, rfl, h.2.1.symm, h.2.2.1.symm, h.2.2.2.symm⟩
  · cases h
theorem fGetf_inv {z : Option (Nat × Nat)} (h : fGetf z L st S = some (P, L', st', S')) : ∃ ci k o r e d, z = some (ci, k) ∧ st = .ref o :: r ∧ fLay[o]? = some e ∧ e.1 = ci ∧ e.2[k]? = some d ∧ L' = L ∧ st' = fFld S o k d :: r ∧ S' = S := by
  unfold fGetf at h
  split at h
  · rename_i ci k o r
    split at h
    · rename_i e he
      cases hb : Nat.beq e.1 ci with
      | true =>
        rw [hb] at h
        simp only [cond_true] at h
        split at h
        · rename_i d hd
          simp only [Option.some.injEq, Prod.mk.injEq] at h
          exact ⟨ci, k, o, r, e, d, rfl, rfl, he, Nat.eq_of_beq_eq_true hb, hd, h.2.1.symm, h.2.2.1.symm, h.2.2.2.symm⟩
        · cases h
      | false => rw [hb] at h; cases h
    · cases h
  · cases h
theorem fPutf_inv {z : Option (Nat × Nat)} (h : fPutf z L st S = some (P, L', st', S')) : ∃ ci k o v e d, z = some (ci, k) ∧ st = v :: .ref o :: st' ∧ fLay[o]? = some e ∧ e.1 = ci ∧ e.2[k]? = some d ∧ L' = L ∧ ((∃ x, d.1 = 1 ∧ v = .int x ∧ S' = wI S o k x) ∨ (∃ x, d.1 = 2 ∧ v = .long x ∧ S' = wJ S o k x) ∨ (∃ x, d.1 = 3 ∧ v = .int x ∧ P = some (x = 0 ∨ x = 1) ∧ S' = wI S o k x)) := by
  unfold fPutf at h
  split at h
  · rename_i ci k v o r
    split at h
    · rename_i e he
      cases hb : Nat.beq e.1 ci with
      | true =>
        rw [hb] at h
        simp only [cond_true] at h
        split at h
        · rename_i d hd
          have hci := Nat.eq_of_beq_eq_true hb
          unfold fPut1 at h
          split at h
          · rename_i x h1
            simp only [Option.some.injEq, Prod.mk.injEq] at h
            exact ⟨ci, k, o, _, e, d, rfl, by rw [h.2.2.1], he, hci, hd, h.2.1.symm, Or.inl ⟨x, h1, rfl, h.2.2.2.symm⟩⟩
          · rename_i x h1
            simp only [Option.some.injEq, Prod.mk.injEq] at h
            exact ⟨ci, k, o, _, e, d, rfl, by rw [h.2.2.1], he, hci, hd, h.2.1.symm, Or.inr (Or.inl ⟨x, h1, rfl, h.2.2.2.symm⟩)⟩
          · rename_i x h1
            simp only [Option.some.injEq, Prod.mk.injEq] at h
            exact ⟨ci, k, o, _, e, d, rfl, by rw [h.2.2.1], he, hci, hd, h.2.1.symm, Or.inr (Or.inr ⟨x, h1, rfl, h.1.symm, h.2.2.2.symm⟩)⟩
          · cases h
        · cases h
      | false => rw [hb] at h; cases h
    · cases h
  · cases h
theorem fIald_inv (h : fIald sc L st S = some (P, L', st', S')) : ∃ i o r, st = .int i :: .ref o :: r ∧ L' = L ∧ S' = S ∧ ((o = 99 ∧ ∃ q, sc = some q ∧ P = some (vp_in i q.1) ∧ st' = .int (q.2 i.toNatClampNeg) :: r) ∨ (∃ e, fLay[o]? = some e ∧ e.1 = 20 ∧ P = some (vp_in i (fLen e)) ∧ st' = .int (gA S o i.toNatClampNeg) :: r)) := by
  unfold fIald at h
  split at h
  · rename_i i o r
    cases hb : Nat.beq o 99 with
    | true =>
      rw [hb] at h
      simp only [cond_true] at h
      split at h
      · rename_i q
        simp only [Option.some.injEq, Prod.mk.injEq] at h
        exact ⟨i, o, r, rfl, h.2.1.symm, h.2.2.2.symm, Or.inl ⟨Nat.eq_of_beq_eq_true hb, q, rfl, h.1.symm, h.2.2.1.symm⟩⟩
      · cases h
    | false =>
      rw [hb] at h
      simp only [cond_false] at h
      split at h
      · rename_i e he
        cases hb2 : Nat.beq e.1 20 with
        | true =>
          rw [hb2] at h
          simp only [cond_true, Option.some.injEq, Prod.mk.injEq] at h
          exact ⟨i, o, r, rfl, h.2.1.symm, h.2.2.2.symm, Or.inr ⟨e, he, Nat.eq_of_beq_eq_true hb2, h.1.symm, h.2.2.1.symm⟩⟩
        | false => rw [hb2] at h; cases h
      · cases h
  · cases h
theorem fLald_inv (h : fLald L st S = some (P, L', st', S')) : ∃ i o r e, st = .int i :: .ref o :: r ∧ L' = L ∧ S' = S ∧ fLay[o]? = some e ∧ e.1 = 21 ∧ P = some (vp_in i (fLen e)) ∧ st' = .long (gB S o i.toNatClampNeg) :: r := by
  unfold fLald at h
  split at h
  · rename_i i o r
    split at h
    · rename_i e he
      cases hb2 : Nat.beq e.1 21 with
      | true =>
        rw [hb2] at h
        simp only [cond_true, Option.some.injEq, Prod.mk.injEq] at h
        exact ⟨i, o, r, e, rfl, h.2.1.symm, h.2.2.2.symm, he, Nat.eq_of_beq_eq_true hb2, h.1.symm, h.2.2.1.symm⟩
      | false => rw [hb2] at h; cases h
    · cases h
  · cases h
theorem fIast_inv (h : fIast L st S = some (P, L', st', S')) : ∃ x i o e, st = .int x :: .int i :: .ref o :: st' ∧ L' = L ∧ fLay[o]? = some e ∧ e.1 = 20 ∧ P = some (vp_in i (fLen e)) ∧ S' = wA S o (upd (gA S o) i.toNatClampNeg x) := by
  unfold fIast at h
  split at h
  · rename_i x i o r
    split at h
    · rename_i e he
      cases hb2 : Nat.beq e.1 20 with
      | true =>
        rw [hb2] at h
        simp only [cond_true, Option.some.injEq, Prod.mk.injEq] at h
        exact ⟨x, i, o, e, by rw [h.2.2.1], h.2.1.symm, he, Nat.eq_of_beq_eq_true hb2, h.1.symm, h.2.2.2.symm⟩
      | false => rw [hb2] at h; cases h
    · cases h
  · cases h
theorem fLast_inv (h : fLast L st S = some (P, L', st', S')) : ∃ x i o e, st = .long x :: .int i :: .ref o :: st' ∧ L' = L ∧ fLay[o]? = some e ∧ e.1 = 21 ∧ P = some (vp_in i (fLen e)) ∧ S' = wB S o (vp_updL (gB S o) i.toNatClampNeg x) := by
  unfold fLast at h
  split at h
  · rename_i x i o r
    split at h
    · rename_i e he
      cases hb2 : Nat.beq e.1 21 with
      | true =>
        rw [hb2] at h
        simp only [cond_true, Option.some.injEq, Prod.mk.injEq] at h
        exact ⟨x, i, o, e, by rw [h.2.2.1], h.2.1.symm, he, Nat.eq_of_beq_eq_true hb2, h.1.symm, h.2.2.2.symm⟩
      | false => rw [hb2] at h; cases h
    · cases h
  · cases h
theorem fAlen_inv (h : fAlen sc L st S = some (P, L', st', S')) : ∃ o r, st = .ref o :: r ∧ L' = L ∧ S' = S ∧ ((o = 99 ∧ ∃ q, sc = some q ∧ st' = .int (Int32.ofNat q.1) :: r) ∨ (∃ e, fLay[o]? = some e ∧ e.1 = 20 ∧ st' = .int (OfNat.ofNat (fLen e)) :: r)) := by
  unfold fAlen at h
  split at h
  · rename_i o r
    cases hb : Nat.beq o 99 with
    | true =>
      rw [hb] at h
      simp only [cond_true] at h
      split at h
      · rename_i q
        simp only [Option.some.injEq, Prod.mk.injEq] at h
        exact ⟨o, r, rfl, h.2.1.symm, h.2.2.2.symm, Or.inl ⟨Nat.eq_of_beq_eq_true hb, q, rfl, h.2.2.1.symm⟩⟩
      · cases h
    | false =>
      rw [hb] at h
      simp only [cond_false] at h
      split at h
      · rename_i e he
        cases hb2 : Nat.beq e.1 20 with
        | true =>
          rw [hb2] at h
          simp only [cond_true, Option.some.injEq, Prod.mk.injEq] at h
          exact ⟨o, r, rfl, h.2.1.symm, h.2.2.2.symm, Or.inr ⟨e, he, Nat.eq_of_beq_eq_true hb2, h.2.2.1.symm⟩⟩
        | false => rw [hb2] at h; cases h
      · cases h
  · cases h
end Sound
end
section
/-! one step of the small machine is one step of the JVM -/
theorem fW_D {ad : Nat → Nat} (cI cJ : ClassId) {A : Nat → Prop} (hinj : ∀ a b, a < 57 → b < 57 → ad a = ad b → a = b) (hA : ∀ a, a < 57 → A (ad a)) (S : fS) : va_D A (fW ad cI cJ S) := by
  have key : ∀ (k : Nat) (q : Nat × va_E), (fW ad cI cJ S)[k]? = some q → k < 57 ∧ q.1 = ad k := by
    intro k q h
    have hk : k < (fW ad cI cJ S).length := (List.getElem?_eq_some_iff.mp h).1
    simp only [fW, List.length_mapIdx, fLay_len] at hk
    simp only [fW, List.getElem?_mapIdx] at h
    cases hd : fLay[k]? with
    | none => rw [hd] at h; cases h
    | some d => rw [hd] at h; cases h; exact ⟨hk, rfl⟩
  refine ⟨fun i j p q hi hj h => ?_, fun k q h => ?_⟩
  · obtain ⟨h1, e1⟩ := key i p hi
    obtain ⟨h2, e2⟩ := key j q hj
    exact hinj i j h1 h2 (by rw [← e1, ← e2, h])
  · obtain ⟨h1, e1⟩ := key k q h
    rw [e1]
    exact hA k h1
theorem fLay_lt {o : Nat} {e : Nat × List (Nat × Nat)} (h : fLay[o]? = some e) : o < 57 := by
  have := (List.getElem?_eq_some_iff.mp h).1
  rw [fLay_len] at this
  exact this
theorem fW_wI (ad : Nat → Nat) (cI cJ : ClassId) (S : fS) {o ci k : Nat} {fs : List (Nat × Nat)} {d : Nat × Nat} (x : Int32) (h : fLay[o]? = some (ci, fs)) (hci : ci < 20) (hd : fs[k]? = some d) (hk : d.1 = 1 ∨ d.1 = 3) : (fW ad cI cJ S).set o (ad o, .inr (ci, (fs.mapIdx fun k d => cv ad (fFld S o k d)).set k (.int x))) = fW ad cI cJ (wI S o k x) := by
  rw [← fW_set ad cI cJ S (wI S o k x) h (fun a d _ ha => fCell_eq ad cI cJ S _ a d (by funext b; rw [gI_wI, if_neg ha]) (by rw [gJ_wI]) (by rw [gA_wI]) (by rw [gB_wI])), fCell_obj _ _ _ _ _ _ _ hci]
  congr 4
  apply List.ext_getElem?
  intro j
  by_cases hj : j = k
  · subst hj
    have hl : j < fs.length := (List.getElem?_eq_some_iff.mp hd).1
    rw [List.getElem?_set_self (by simpa using hl), List.getElem?_mapIdx, hd]
    simp only [Option.map_some, fFld, gI_wI, if_true]
    rcases hk with e | e <;> rw [e] <;> rfl
  · rw [List.getElem?_set_ne (Ne.symm hj), List.getElem?_mapIdx, List.getElem?_mapIdx]
    cases hf : fs[j]? with
    | none => rfl
    | some d2 =>
      simp only [Option.map_some, fFld, gI_wI, if_true, if_neg hj, gJ_wI]
theorem fW_wJ (ad : Nat → Nat) (cI cJ : ClassId) (S : fS) {o ci k : Nat} {fs : List (Nat × Nat)} {d : Nat × Nat} (x : Int64) (h : fLay[o]? = some (ci, fs)) (hci : ci < 20) (hd : fs[k]? = some d) (hk : d.1 = 2) : (fW ad cI cJ S).set o (ad o, .inr (ci, (fs.mapIdx fun k d => cv ad (fFld S o k d)).set k (.long x))) = fW ad cI cJ (wJ S o k x) := by
  rw [← fW_set ad cI cJ S (wJ S o k x) h (fun a d _ ha => fCell_eq ad cI cJ S _ a d (by rw [gI_wJ]) (by funext b; rw [gJ_wJ, if_neg ha]) (by rw [gA_wJ]) (by rw [gB_wJ])), fCell_obj _ _ _ _ _ _ _ hci]
  congr 4
  apply List.ext_getElem?
  intro j
  by_cases hj : j = k
  · subst hj
    have hl : j < fs.length := (List.getElem?_eq_some_iff.mp hd).1
    rw [List.getElem?_set_self (by simpa using hl), List.getElem?_mapIdx, hd]
    simp only [Option.map_some, fFld, gJ_wJ, if_true]
    rw [hk]; rfl
  · rw [List.getElem?_set_ne (Ne.symm hj), List.getElem?_mapIdx, List.getElem?_mapIdx]
    cases hf : fs[j]? with
    | none => rfl
    | some d2 =>
      simp only [Option.map_some, fFld, gJ_wJ, if_true, if_neg hj, gI_wJ]
theorem fW_wA (ad : Nat → Nat) (cI cJ : ClassId) (S : fS) {o : Nat} {e : Nat × List (Nat × Nat)} (g : Nat → Int32) (h : fLay[o]? = some e) (hci : e.1 = 20) : (fW ad cI cJ S).set o (ad o, .inl (cI, fLen e, .inl g)) = fW ad cI cJ (wA S o g) := by
  obtain ⟨ci, fs⟩ := e
  simp only at hci
  subst hci
  rw [← fW_set ad cI cJ S (wA S o g) h (fun a d _ ha => fCell_eq ad cI cJ S _ a d (by rw [gI_wA]) (by rw [gJ_wA]) (by rw [gA_wA, if_neg ha]) (by rw [gB_wA])), fCell_int, gA_wA, if_pos rfl]
theorem fW_wB (ad : Nat → Nat) (cI cJ : ClassId) (S : fS) {o : Nat} {e : Nat × List (Nat × Nat)} (g : Nat → Int64) (h : fLay[o]? = some e) (hci : e.1 = 21) : (fW ad cI cJ S).set o (ad o, .inl (cJ, fLen e, .inr (.inl g))) = fW ad cI cJ (wB S o g) := by
  obtain ⟨ci, fs⟩ := e
  simp only at hci
  subst hci
  rw [← fW_set ad cI cJ S (wB S o g) h (fun a d _ ha => fCell_eq ad cI cJ S _ a d (by rw [gI_wB]) (by rw [gJ_wB]) (by rw [gA_wB]) (by rw [gB_wB, if_neg ha])), fCell_long, gB_wB, if_pos rfl]
abbrev fTy (cI cJ : ClassId) : List (ClassId × FieldType) := [(cI, .int), (cJ, .long)]
section SoundW
variable {p : Program} {l : Launch} {e : Env} {R : Room} {s : State} {m : MethodId} {args : Array Value} {below : List Frame} {meth : Method} {c : Code} {cells slots : Nat} {Q : State → Prop}
variable {D : va_G} {ad : Nat → Nat} {cI cJ : ClassId} {A : Nat → Prop} {own : String} {cc : ByteArray} {nl : Nat} {fl : Nat → Option (Nat × Nat)} {kc : Nat → Option Value} {sc : fSc}
variable {L L' : fL} {st st' : List Value} {S S' : fS} {H : Heap} {locs : List Loc} {ls : Array Slot} {pc : Nat} {P : Option Prop} {i : Instr}
/-- the context of a walk -/
def fCtx (p : Program) (s : State) (m : MethodId) (args : Array Value) (c : Code) (D : va_G) (ad : Nat → Nat) (cI cJ : ClassId) (A : Nat → Prop) (own : String) (cc : ByteArray) (fl : Nat → Option (Nat × Nat)) (kc : Nat → Option Value) (sc : fSc) : Prop :=
  p.tables.exec = Jvm.exec ∧ c.code = cc ∧ s.vm.findClass own = some m.cls ∧ (∀ w ∈ fTB, w.before args s = true) ∧ va_K D vwCl (fTy cI cJ) s ∧ (∀ a b, a < 57 → b < 57 → ad a = ad b → a = b) ∧ (∀ a, a < 57 → A (ad a)) ∧ fFlOk own fl ∧ fKcOk own kc ∧ fScOk sc ad A s
theorem fLs_get (hl : lv_has ls nl (fLs ad L)) {k : Nat} {v : Value} (h : fGet L k = some v) : ls[k]? = some (.val (cv ad v)) :=
  hl.2.2 (k, cv ad v) (List.mem_map.mpr ⟨(k, v), fGet_mem h, rfl⟩)
set_option maxHeartbeats 4000000 in
theorem fStpW (X : fCtx p s m args c D ad cI cJ A own cc fl kc sc) (h : fStp fl kc nl sc i L st S = some (P, L', st', S')) (hP : ∀ q, P = some q → q) (hd : decode cc pc = .ok (i, fIl i)) (hg : fGo i pc = true)
    (hPw : va_P D vwCl (fW ad cI cJ S) H) (hS : va_S A s.heap H locs) (hl : lv_has ls nl (fLs ad L))
    (k : ∀ (H' : Heap) (locs' : List Loc) (ls' : Array Slot), va_P D vwCl (fW ad cI cJ S') H' → va_S A s.heap H' locs' → lv_has ls' nl (fLs ad L') → W p l e R s m args below meth c H' locs' cells slots Q (F0 m (fNext i pc) ls' (st'.map (cv ad)))) :
    W p l e R s m args below meth c H locs cells slots Q (F0 m pc ls (st.map (cv ad))) := by
  obtain ⟨hx, hb, hown, hts, hK, hinj, hA, hfl, hkc, hsc⟩ := X
  have hD : va_D A (fW ad cI cJ S) := fW_D cI cJ hinj hA S
  cases i with
  | iload_n n => obtain ⟨x, h1, rfl, rfl, rfl⟩ := fLdI_inv h; exact lv_iload_n hx hb hd rfl (fLs_get hl h1) (k _ _ _ hPw hS hl)
  | iload n => obtain ⟨x, h1, rfl, rfl, rfl⟩ := fLdI_inv h; exact lv_iload hx hb hd (fLs_get hl h1) (k _ _ _ hPw hS hl)
  | lload_n n => obtain ⟨x, h1, rfl, rfl, rfl⟩ := fLdJ_inv h; exact lv_lload_n hx hb hd rfl (fLs_get hl h1) (k _ _ _ hPw hS hl)
  | lload n => obtain ⟨x, h1, rfl, rfl, rfl⟩ := fLdJ_inv h; exact lv_lload hx hb hd (fLs_get hl h1) (k _ _ _ hPw hS hl)
  | aload_n n => obtain ⟨x, h1, rfl, rfl, rfl⟩ := fLdA_inv h; exact lv_aload_n hx hb hd rfl (fLs_get hl h1) (k _ _ _ hPw hS hl)
  | aload n => obtain ⟨x, h1, rfl, rfl, rfl⟩ := fLdA_inv h; exact lv_aload hx hb hd (fLs_get hl h1) (k _ _ _ hPw hS hl)
  | istore_n n => obtain ⟨x, rfl, h1, rfl, rfl⟩ := fStI_inv h; exact lv_istore_n hx hb hd rfl hl h1 rfl (fun ls' hl' => k _ _ _ hPw hS (fls_less hl' (fSet1_less ad L _ _)))
  | istore n => obtain ⟨x, rfl, h1, rfl, rfl⟩ := fStI_inv h; exact lv_istore hx hb hd hl h1 rfl (fun ls' hl' => k _ _ _ hPw hS (fls_less hl' (fSet1_less ad L _ _)))
  | astore_n n => obtain ⟨x, rfl, h1, rfl, rfl⟩ := fStA_inv h; exact lv_astore_n hx hb hd rfl hl h1 rfl (fun ls' hl' => k _ _ _ hPw hS (fls_less hl' (fSet1_less ad L _ _)))
  | astore n => obtain ⟨x, rfl, h1, rfl, rfl⟩ := fStA_inv h; exact lv_astore hx hb hd hl h1 rfl (fun ls' hl' => k _ _ _ hPw hS (fls_less hl' (fSet1_less ad L _ _)))
  | lstore_n n => obtain ⟨x, rfl, h1, rfl, rfl⟩ := fStJ_inv h; exact lv_lstore_n hx hb hd rfl hl h1 rfl (fun ls' hl' => k _ _ _ hPw hS (fls_less hl' (fSet2_less ad L _ _)))
  | lstore n => obtain ⟨x, rfl, h1, rfl, rfl⟩ := fStJ_inv h; exact lv_lstore hx hb hd hl h1 rfl (fun ls' hl' => k _ _ _ hPw hS (fls_less hl' (fSet2_less ad L _ _)))
  | iconst n => cases h; exact lv_iconst hx hb hd (fLit_ofInt n).symm (k _ _ _ hPw hS hl)
  | bipush n =>
    unfold fStp at h
    by_cases hn : (-128 ≤ n ∧ n < 128)
    · simp only [hn, and_self, decide_true, cond_true, Option.some.injEq, Prod.mk.injEq] at h
      obtain ⟨-, rfl, rfl, rfl⟩ := h
      exact lv_bipush hx hb hd (fLit_8 hn.1 hn.2) (k _ _ _ hPw hS hl)
    · simp only [hn, decide_false, cond_false] at h
      cases h
  | sipush n =>
    unfold fStp at h
    by_cases hn : (-32768 ≤ n ∧ n < 32768)
    · simp only [hn, and_self, decide_true, cond_true, Option.some.injEq, Prod.mk.injEq] at h
      obtain ⟨-, rfl, rfl, rfl⟩ := h
      exact lv_sipush hx hb hd (fLit_16 hn.1 hn.2) (k _ _ _ hPw hS hl)
    · simp only [hn, decide_false, cond_false] at h
      cases h
  | lconst n => cases h; exact lv_lconst hx hb hd rfl (k _ _ _ hPw hS hl)
  | ldc n => obtain ⟨x, h1, rfl, rfl, rfl⟩ := fKcI_inv h; exact lv_ldc hx hb hown (hts _ ((hkc n).1 x h1)) hd (k _ _ _ hPw hS hl)
  | ldc_w n => obtain ⟨x, h1, rfl, rfl, rfl⟩ := fKcI_inv h; exact lv_ldcw hx hb hown (hts _ ((hkc n).1 x h1)) hd (k _ _ _ hPw hS hl)
  | ldc2_w n => obtain ⟨x, h1, rfl, rfl, rfl⟩ := fKcJ_inv h; exact lv_ldc2 hx hb hown (hts _ ((hkc n).2 x h1)) hd (k _ _ _ hPw hS hl)
  | iadd => obtain ⟨x, y, r, rfl, rfl, rfl, rfl⟩ := fII_inv h; exact lv_iadd hx hb hd (k _ _ _ hPw hS hl)
  | isub => obtain ⟨x, y, r, rfl, rfl, rfl, rfl⟩ := fII_inv h; exact lv_isub hx hb hd (k _ _ _ hPw hS hl)
  | imul => obtain ⟨x, y, r, rfl, rfl, rfl, rfl⟩ := fII_inv h; exact lv_imul hx hb hd (k _ _ _ hPw hS hl)
  | iand => obtain ⟨x, y, r, rfl, rfl, rfl, rfl⟩ := fII_inv h; exact lv_iand hx hb hd (k _ _ _ hPw hS hl)
  | ior => obtain ⟨x, y, r, rfl, rfl, rfl, rfl⟩ := fII_inv h; exact lv_ior hx hb hd (k _ _ _ hPw hS hl)
  | ishl => obtain ⟨x, y, r, rfl, rfl, rfl, rfl⟩ := fII_inv h; exact lv_ishl hx hb hd (k _ _ _ hPw hS hl)
  | ishr => obtain ⟨x, y, r, rfl, rfl, rfl, rfl⟩ := fII_inv h; exact lv_ishr hx hb hd (k _ _ _ hPw hS hl)
  | iushr => obtain ⟨x, y, r, rfl, rfl, rfl, rfl⟩ := fII_inv h; exact lv_iushr hx hb hd rfl (k _ _ _ hPw hS hl)
  | idiv => obtain ⟨x, y, r, rfl, rfl, rfl, rfl, rfl⟩ := fIIq_inv h; exact lv_idiv hx hb hd (hP _ rfl) (k _ _ _ hPw hS hl)
  | irem => obtain ⟨x, y, r, rfl, rfl, rfl, rfl, rfl⟩ := fIIq_inv h; exact lv_irem hx hb hd (hP _ rfl) (k _ _ _ hPw hS hl)
  | ladd => obtain ⟨x, y, r, rfl, rfl, rfl, rfl⟩ := fJJ_inv h; exact lv_ladd hx hb hd (k _ _ _ hPw hS hl)
  | lsub => obtain ⟨x, y, r, rfl, rfl, rfl, rfl⟩ := fJJ_inv h; exact lv_lsub hx hb hd (k _ _ _ hPw hS hl)
  | lmul => obtain ⟨x, y, r, rfl, rfl, rfl, rfl⟩ := fJJ_inv h; exact lv_lmul hx hb hd (k _ _ _ hPw hS hl)
  | land => obtain ⟨x, y, r, rfl, rfl, rfl, rfl⟩ := fJJ_inv h; exact lv_land hx hb hd (k _ _ _ hPw hS hl)
  | lor => obtain ⟨x, y, r, rfl, rfl, rfl, rfl⟩ := fJJ_inv h; exact lv_lor hx hb hd (k _ _ _ hPw hS hl)
  | ldiv => obtain ⟨x, y, r, rfl, rfl, rfl, rfl, rfl⟩ := fJJq_inv h; exact lv_ldiv hx hb hd (hP _ rfl) (k _ _ _ hPw hS hl)
  | lshl => obtain ⟨x, y, r, rfl, rfl, rfl, rfl⟩ := fJI_inv h; exact lv_lshl hx hb hd rfl (k _ _ _ hPw hS hl)
  | lshr => obtain ⟨x, y, r, rfl, rfl, rfl, rfl⟩ := fJI_inv h; exact lv_lshr hx hb hd rfl (k _ _ _ hPw hS hl)
  | lcmp => obtain ⟨x, y, r, rfl, rfl, rfl, rfl⟩ := fCmp_inv h; exact W.lcmp hx hb hd (k _ _ _ hPw hS hl)
  | i2l =>
    obtain ⟨v, w, r, rfl, h1, rfl, rfl, rfl⟩ := fUn_inv h
    cases v <;> cases h1
    exact lv_i2l hx hb hd rfl (k _ _ _ hPw hS hl)
  | l2i =>
    obtain ⟨v, w, r, rfl, h1, rfl, rfl, rfl⟩ := fUn_inv h
    cases v <;> cases h1
    exact lv_l2i hx hb hd rfl (k _ _ _ hPw hS hl)
  | ineg =>
    obtain ⟨v, w, r, rfl, h1, rfl, rfl, rfl⟩ := fUn_inv h
    cases v <;> cases h1
    exact lv_ineg hx hb hd (k _ _ _ hPw hS hl)
  | lneg =>
    obtain ⟨v, w, r, rfl, h1, rfl, rfl, rfl⟩ := fUn_inv h
    cases v <;> cases h1
    exact lv_lneg hx hb hd (k _ _ _ hPw hS hl)
  | dup => obtain ⟨v, r, rfl, h1, rfl, rfl, rfl⟩ := fDup_inv h; exact lv_dup hx hb hd (by rw [cv_cat]; exact h1) (k _ _ _ hPw hS hl)
  | iinc n q =>
    obtain ⟨x, h1, h2, rfl, rfl, rfl⟩ := fIinc_inv h
    obtain ⟨j, hj⟩ := List.getElem?_of_mem (List.mem_map.mpr ⟨(n, Value.int x), fGet_mem h1, rfl⟩ : (n, Value.int x) ∈ fLs ad L)
    exact lv_iinc hx hb hd hl hj (by rw [fLit_ofInt]) h2 rfl (fun ls' hl' => k _ _ _ hPw hS (fls_less hl' (fSet1_less ad L _ _)))
  | getfield n =>
    obtain ⟨ci, q, o, r, ee, dd, h1, rfl, he, rfl, hdd, rfl, rfl, rfl⟩ := fGetf_inv h
    obtain ⟨C, T, N, hc, hk, hw⟩ := hfl n _ _ h1
    obtain ⟨e1, e2, e3⟩ := fLay_obj he hc
    obtain ⟨ci, fs⟩ := ee
    have hat := fW_at ad cI cJ S' he
    rw [fCell_obj _ _ _ _ _ _ _ e2] at hat
    exact va_get hx hb hts (fin_ws hc).1 hown hK hPw o hat hc q hk (hts _ hw) (fun _ z => z) (by rw [List.getElem?_mapIdx, hdd]; rfl) hd (k _ _ _ hPw hS hl)
  | putfield n =>
    obtain ⟨ci, q, o, v, ee, dd, h1, rfl, he, rfl, hdd, rfl, hor⟩ := fPutf_inv h
    obtain ⟨C, T, N, hc, hk, hw⟩ := hfl n _ _ h1
    obtain ⟨e1, e2, e3⟩ := fLay_obj he hc
    obtain ⟨f1, ty0, f2, f3⟩ := fin_ws hc
    obtain ⟨ci, fs⟩ := ee
    have hat := fW_at ad cI cJ S he
    rw [fCell_obj _ _ _ _ _ _ _ e2] at hat
    have hlen : q < (fs.mapIdx fun k d => cv ad (fFld S o k d)).length := by simp only [List.length_mapIdx]; exact (List.getElem?_eq_some_iff.mp hdd).1
    rcases hor with ⟨x, t1, rfl, rfl⟩ | ⟨x, t1, rfl, rfl⟩ | ⟨x, t1, rfl, rfl, rfl⟩
    · have tt := (e3 q dd hdd).1 t1
      refine va_put hx hb hts f1 ty0 f2 f3 hown hK hPw hD hS o hat hc q hk (hts _ hw) (fun _ z => z) (by rw [tt]) (ty := .int) (v := .int x) (by rw [tt]; decide) rfl rfl hlen hd (fun H1 locs1 hP1 hD1 hS1 => k _ _ _ ?_ hS1 hl)
      rw [fW_wI ad cI cJ S x he e2 hdd (Or.inl t1)] at hP1
      exact hP1
    · have tt := (e3 q dd hdd).2.1 t1
      refine va_put hx hb hts f1 ty0 f2 f3 hown hK hPw hD hS o hat hc q hk (hts _ hw) (fun _ z => z) (by rw [tt]) (ty := .long) (v := .long x) (by rw [tt]; decide) rfl rfl hlen hd (fun H1 locs1 hP1 hD1 hS1 => k _ _ _ ?_ hS1 hl)
      rw [fW_wJ ad cI cJ S x he e2 hdd t1] at hP1
      exact hP1
    · have tt := (e3 q dd hdd).2.2 t1
      have hz := hP _ rfl
      refine va_put hx hb hts f1 ty0 f2 f3 hown hK hPw hD hS o hat hc q hk (hts _ hw) (fun _ z => z) (by rw [tt]) (ty := .boolean) (v := .int x) (by rw [tt]; decide) (by rcases hz with rfl | rfl <;> rfl) (by rcases hz with rfl | rfl <;> rfl) hlen hd (fun H1 locs1 hP1 hD1 hS1 => k _ _ _ ?_ hS1 hl)
      rw [fW_wI ad cI cJ S x he e2 hdd (Or.inr t1)] at hP1
      exact hP1
  | iaload =>
    obtain ⟨x, o, r, rfl, rfl, rfl, h1⟩ := fIald_inv h
    rcases h1 with ⟨rfl, q, rfl, rfl, rfl⟩ | ⟨ee, he, h20, rfl, rfl⟩
    · obtain ⟨g1, g2, g3⟩ := hsc
      exact va_sld hx hb g1 g2 g3 hS (hP _ rfl) hd (k _ _ _ hPw hS hl)
    · obtain ⟨ci, fs⟩ := ee
      simp only at h20
      subst h20
      exact va_iald hx hb hK hPw o 0 (fW_at ad cI cJ S' he) rfl (hP _ rfl) hd (k _ _ _ hPw hS hl)
  | laload =>
    obtain ⟨x, o, r, ee, rfl, rfl, rfl, he, h20, rfl, rfl⟩ := fLald_inv h
    obtain ⟨ci, fs⟩ := ee
    simp only at h20
    subst h20
    exact va_lald hx hb hK hPw o 1 (fW_at ad cI cJ S' he) rfl (hP _ rfl) hd (k _ _ _ hPw hS hl)
  | iastore =>
    obtain ⟨x, j, o, ee, rfl, rfl, he, h20, rfl, rfl⟩ := fIast_inv h
    obtain ⟨ci, fs⟩ := ee
    simp only at h20
    subst h20
    refine va_iast hx hb hK hPw hD hS o 0 (fW_at ad cI cJ S he) rfl (hP _ rfl) hd (fun H1 locs1 hP1 hD1 hS1 => k _ _ _ ?_ hS1 hl)
    rw [fW_wA ad cI cJ S _ he rfl] at hP1
    exact hP1
  | lastore =>
    obtain ⟨x, j, o, ee, rfl, rfl, he, h20, rfl, rfl⟩ := fLast_inv h
    obtain ⟨ci, fs⟩ := ee
    simp only at h20
    subst h20
    refine va_last hx hb hK hPw hD hS o 1 (fW_at ad cI cJ S he) rfl (hP _ rfl) hd (fun H1 locs1 hP1 hD1 hS1 => k _ _ _ ?_ hS1 hl)
    rw [fW_wB ad cI cJ S _ he rfl] at hP1
    exact hP1
  | arraylength =>
    obtain ⟨o, r, rfl, rfl, rfl, h1⟩ := fAlen_inv h
    rcases h1 with ⟨rfl, q, rfl, rfl⟩ | ⟨ee, he, h20, rfl⟩
    · obtain ⟨g1, g2, g3⟩ := hsc
      exact va_slen hx hb g1 g2 g3 hS hd (k _ _ _ hPw hS hl)
    · obtain ⟨ci, fs⟩ := ee
      simp only at h20
      subst h20
      exact va_alen hx hb hK hPw o 0 (fW_at ad cI cJ S' he) rfl rfl hd (k _ _ _ hPw hS hl)
  | goto off =>
    cases h
    have h0 : (0 : Int) ≤ (pc : Int) + off := of_decide_eq_true hg
    exact lv_goto hx hb hd (by show (pc : Int) + off = (((pc : Int) + off).toNat : Int); rw [Int.toNat_of_nonneg h0]) (k _ _ _ hPw hS hl)
  | _ => cases h
/-- a stretch of the small machine -/
theorem fRunW (X : fCtx p s m args c D ad cI cJ A own cc fl kc sc) : ∀ (is : List Instr) (P : Prop) (pc pc' : Nat) (L L' : fL) (st st' : List Value) (S S' : fS) (H : Heap) (locs : List Loc) (ls : Array Slot), fRun fl kc nl sc is pc L st S = some (P, pc', L', st', S') → P → fOkB cc pc is = true →
    va_P D vwCl (fW ad cI cJ S) H → va_S A s.heap H locs → lv_has ls nl (fLs ad L) →
    (∀ (H' : Heap) (locs' : List Loc) (ls' : Array Slot), va_P D vwCl (fW ad cI cJ S') H' → va_S A s.heap H' locs' → lv_has ls' nl (fLs ad L') → W p l e R s m args below meth c H' locs' cells slots Q (F0 m pc' ls' (st'.map (cv ad)))) →
    W p l e R s m args below meth c H locs cells slots Q (F0 m pc ls (st.map (cv ad))) := by
  intro is
  induction is with
  | nil =>
    intro P pc pc' L L' st st' S S' H locs ls h hP hok h1 h2 h3 k
    simp only [fRun, Option.some.injEq, Prod.mk.injEq] at h
    obtain ⟨-, rfl, rfl, rfl, rfl⟩ := h
    exact k _ _ _ h1 h2 h3
  | cons i t ih =>
    intro P pc pc' L L' st st' S S' H locs ls h hP hok h1 h2 h3 k
    simp only [fOkB, Bool.and_eq_true, decide_eq_true_eq] at hok
    unfold fRun at h
    split at h
    · cases h
    · rename_i L1 st1 S1 hs
      exact fStpW X hs (fun q hq => by cases hq) hok.1 hok.2.1 h1 h2 h3 (fun H' locs' ls' g1 g2 g3 => ih P _ _ _ _ _ _ _ _ _ _ _ h hP hok.2.2 g1 g2 g3 k)
    · rename_i P1 L1 st1 S1 hs
      split at h
      · cases h
      · rename_i P2 z hz
        simp only [Option.some.injEq, Prod.mk.injEq] at h
        obtain ⟨rfl, rfl⟩ := h
        exact fStpW X hs (fun q hq => by cases hq; exact hP.1) hok.1 hok.2.1 h1 h2 h3 (fun H' locs' ls' g1 g2 g3 => ih P2 _ _ _ _ _ _ _ _ _ _ _ hz hP.2 hok.2.2 g1 g2 g3 k)
end SoundW
end
section
/-! THE JUDGEMENT: a method's code, from a place on, over the small machine's state -/
abbrev fG : Type := Launch × va_G × (Nat → Nat) × ClassId × ClassId
/-- a method: name, code, how many locals, what it returns, its class's field numbers and constants -/
abbrev fM : Type := MethodName × ByteArray × Nat × Option FieldType × (Nat → Option (Nat × Nat)) × (Nat → Option Value)
abbrev fZ : Type := fSc × Room × (State → Nat → Prop) × (Nat × Nat) × (List Frame → Array Value → State → State → Prop) × (Array Value → Prop)
def fV (G : fG) (M : fM) (Z : fZ) (pc : Nat) (L : fL) (st : List Value) (S : fS) : Prop :=
  ∀ (p : Program) (e : Env) (s : State) (m : MethodId) (args : Array Value) (below : List Frame) (meth : Method) (c : Code),
    fCtx p s m args c G.2.1 G.2.2.1 G.2.2.2.1 G.2.2.2.2 (Z.2.2.1 s) M.1.cls M.2.1 M.2.2.2.2.1 M.2.2.2.2.2 Z.1 → c.maxLocals = M.2.2.1 → meth.sig.returnType = M.2.2.2.1 → meth.locks = false → Z.2.2.2.2.2 args →
    ∀ (H : Heap) (locs : List Loc) (ls : Array Slot), va_P G.2.1 vwCl (fW G.2.2.1 G.2.2.2.1 G.2.2.2.2 S) H → va_S (Z.2.2.1 s) s.heap H locs → lv_has ls M.2.2.1 (fLs G.2.2.1 L) →
      W p G.1 e Z.2.1 s m args below meth c H locs Z.2.2.2.1.1 Z.2.2.2.1.2 (Z.2.2.2.2.1 below args s) (F0 m pc ls (st.map (cv G.2.2.1)))
section Rules
variable {G : fG} {M M2 : fM} {Z : fZ} {pc pc' : Nat} {L L' : fL} {st st' : List Value} {S S' : fS} {P : Prop}
theorem fV.run (is : List Instr) (hok : fOkB M.2.1 pc is = true) (h : fRun M.2.2.2.2.1 M.2.2.2.2.2 M.2.2.1 Z.1 is pc L st S = some (P, pc', L', st', S')) (hP : P) (k : fV G M Z pc' L' st' S') : fV G M Z pc L st S :=
  fun p e s m args below meth c X h1 h2 h3 h4 H locs ls g1 g2 g3 => fRunW X is P pc pc' L L' st st' S S' H locs ls h hP hok g1 g2 g3 (fun H' locs' ls' k1 k2 k3 => k p e s m args below meth c X h1 h2 h3 h4 H' locs' ls' k1 k2 k3)
theorem fV.less (hm : ∀ q ∈ L', q ∈ L) (k : fV G M Z pc L' st S) : fV G M Z pc L st S :=
  fun p e s m args below meth c X h1 h2 h3 h4 H locs ls g1 g2 g3 => k p e s m args below meth c X h1 h2 h3 h4 H locs ls g1 g2 (fls_less g3 (fun q hq => by
    obtain ⟨r, hr, rfl⟩ := List.mem_map.mp hq
    exact List.mem_map.mpr ⟨r, hm r hr, rfl⟩))
theorem fV.pick (ks : List Nat) (hm : lv_pick L ks = L') (k : fV G M Z pc L' st S) : fV G M Z pc L st S :=
  fV.less (fun q hq => by
    rw [← hm] at hq
    obtain ⟨k, -, hk⟩ := List.mem_filterMap.mp hq
    exact List.mem_of_getElem? hk) k
theorem fV.to (hp : pc = pc') (hL : L = L') (hs : st = st') (hS : S = S') (k : fV G M Z pc' L' st' S') : fV G M Z pc L st S := by
  subst hp; subst hL; subst hs; subst hS; exact k
/-- a branch stands there -/
def fBk (cc : ByteArray) (pc : Nat) (mk : Int → Instr) (tgt : Nat) : Prop := ∃ off : Int, decode cc pc = .ok (mk off, 3) ∧ (pc : Int) + off = (tgt : Int)
variable {tgt : Nat} {x y : Int32} {r : List Value}
theorem fV.icmp_eq (hd : fBk M.2.1 pc (.if_icmp .eq) tgt) (kt : x = y → fV G M Z tgt L r S) (kf : ¬ x = y → fV G M Z (pc + 3) L r S) : fV G M Z pc L (.int y :: .int x :: r) S := by
  obtain ⟨off, hd, ht⟩ := hd
  exact fun p e s m args below meth c X h1 h2 h3 h4 H locs ls g1 g2 g3 => lv_icmp_eq X.1 X.2.1 hd ht (fun q => kt q p e s m args below meth c X h1 h2 h3 h4 H locs ls g1 g2 g3) (fun q => kf q p e s m args below meth c X h1 h2 h3 h4 H locs ls g1 g2 g3)
theorem fV.icmp_ne (hd : fBk M.2.1 pc (.if_icmp .ne) tgt) (kt : ¬ x = y → fV G M Z tgt L r S) (kf : x = y → fV G M Z (pc + 3) L r S) : fV G M Z pc L (.int y :: .int x :: r) S := by
  obtain ⟨off, hd, ht⟩ := hd
  exact fun p e s m args below meth c X h1 h2 h3 h4 H locs ls g1 g2 g3 => lv_icmp_ne X.1 X.2.1 hd ht (fun q => kt q p e s m args below meth c X h1 h2 h3 h4 H locs ls g1 g2 g3) (fun q => kf q p e s m args below meth c X h1 h2 h3 h4 H locs ls g1 g2 g3)
theorem fV.icmp_lt (hd : fBk M.2.1 pc (.if_icmp .lt) tgt) (kt : x < y → fV G M Z tgt L r S) (kf : ¬ x < y → fV G M Z (pc + 3) L r S) : fV G M Z pc L (.int y :: .int x :: r) S := by
  obtain ⟨off, hd, ht⟩ := hd
  exact fun p e s m args below meth c X h1 h2 h3 h4 H locs ls g1 g2 g3 => lv_icmp_lt X.1 X.2.1 hd ht (fun q => kt q p e s m args below meth c X h1 h2 h3 h4 H locs ls g1 g2 g3) (fun q => kf q p e s m args below meth c X h1 h2 h3 h4 H locs ls g1 g2 g3)
theorem fV.icmp_ge (hd : fBk M.2.1 pc (.if_icmp .ge) tgt) (kt : y ≤ x → fV G M Z tgt L r S) (kf : ¬ y ≤ x → fV G M Z (pc + 3) L r S) : fV G M Z pc L (.int y :: .int x :: r) S := by
  obtain ⟨off, hd, ht⟩ := hd
  exact fun p e s m args below meth c X h1 h2 h3 h4 H locs ls g1 g2 g3 => lv_icmp_ge X.1 X.2.1 hd ht (fun q => kt q p e s m args below meth c X h1 h2 h3 h4 H locs ls g1 g2 g3) (fun q => kf q p e s m args below meth c X h1 h2 h3 h4 H locs ls g1 g2 g3)
theorem fV.icmp_gt (hd : fBk M.2.1 pc (.if_icmp .gt) tgt) (kt : y < x → fV G M Z tgt L r S) (kf : ¬ y < x → fV G M Z (pc + 3) L r S) : fV G M Z pc L (.int y :: .int x :: r) S := by
  obtain ⟨off, hd, ht⟩ := hd
  exact fun p e s m args below meth c X h1 h2 h3 h4 H locs ls g1 g2 g3 => lv_icmp_gt X.1 X.2.1 hd ht (fun q => kt q p e s m args below meth c X h1 h2 h3 h4 H locs ls g1 g2 g3) (fun q => kf q p e s m args below meth c X h1 h2 h3 h4 H locs ls g1 g2 g3)
theorem fV.icmp_le (hd : fBk M.2.1 pc (.if_icmp .le) tgt) (kt : x ≤ y → fV G M Z tgt L r S) (kf : ¬ x ≤ y → fV G M Z (pc + 3) L r S) : fV G M Z pc L (.int y :: .int x :: r) S := by
  obtain ⟨off, hd, ht⟩ := hd
  exact fun p e s m args below meth c X h1 h2 h3 h4 H locs ls g1 g2 g3 => lv_icmp_le X.1 X.2.1 hd ht (fun q => kt q p e s m args below meth c X h1 h2 h3 h4 H locs ls g1 g2 g3) (fun q => kf q p e s m args below meth c X h1 h2 h3 h4 H locs ls g1 g2 g3)
theorem fV.if_eq (hd : fBk M.2.1 pc (.ifCond .eq) tgt) (kt : x = 0 → fV G M Z tgt L r S) (kf : ¬ x = 0 → fV G M Z (pc + 3) L r S) : fV G M Z pc L (.int x :: r) S := by
  obtain ⟨off, hd, ht⟩ := hd
  exact fun p e s m args below meth c X h1 h2 h3 h4 H locs ls g1 g2 g3 => lv_if_eq X.1 X.2.1 hd ht (fun q => kt q p e s m args below meth c X h1 h2 h3 h4 H locs ls g1 g2 g3) (fun q => kf q p e s m args below meth c X h1 h2 h3 h4 H locs ls g1 g2 g3)
theorem fV.if_ne (hd : fBk M.2.1 pc (.ifCond .ne) tgt) (kt : ¬ x = 0 → fV G M Z tgt L r S) (kf : x = 0 → fV G M Z (pc + 3) L r S) : fV G M Z pc L (.int x :: r) S := by
  obtain ⟨off, hd, ht⟩ := hd
  exact fun p e s m args below meth c X h1 h2 h3 h4 H locs ls g1 g2 g3 => lv_if_ne X.1 X.2.1 hd ht (fun q => kt q p e s m args below meth c X h1 h2 h3 h4 H locs ls g1 g2 g3) (fun q => kf q p e s m args below meth c X h1 h2 h3 h4 H locs ls g1 g2 g3)
theorem fV.if_lt (hd : fBk M.2.1 pc (.ifCond .lt) tgt) (kt : x < 0 → fV G M Z tgt L r S) (kf : ¬ x < 0 → fV G M Z (pc + 3) L r S) : fV G M Z pc L (.int x :: r) S := by
  obtain ⟨off, hd, ht⟩ := hd
  exact fun p e s m args below meth c X h1 h2 h3 h4 H locs ls g1 g2 g3 => lv_if_lt X.1 X.2.1 hd ht (fun q => kt q p e s m args below meth c X h1 h2 h3 h4 H locs ls g1 g2 g3) (fun q => kf q p e s m args below meth c X h1 h2 h3 h4 H locs ls g1 g2 g3)
theorem fV.if_ge (hd : fBk M.2.1 pc (.ifCond .ge) tgt) (kt : 0 ≤ x → fV G M Z tgt L r S) (kf : ¬ 0 ≤ x → fV G M Z (pc + 3) L r S) : fV G M Z pc L (.int x :: r) S := by
  obtain ⟨off, hd, ht⟩ := hd
  exact fun p e s m args below meth c X h1 h2 h3 h4 H locs ls g1 g2 g3 => lv_if_ge X.1 X.2.1 hd ht (fun q => kt q p e s m args below meth c X h1 h2 h3 h4 H locs ls g1 g2 g3) (fun q => kf q p e s m args below meth c X h1 h2 h3 h4 H locs ls g1 g2 g3)
theorem fV.if_gt (hd : fBk M.2.1 pc (.ifCond .gt) tgt) (kt : 0 < x → fV G M Z tgt L r S) (kf : ¬ 0 < x → fV G M Z (pc + 3) L r S) : fV G M Z pc L (.int x :: r) S := by
  obtain ⟨off, hd, ht⟩ := hd
  exact fun p e s m args below meth c X h1 h2 h3 h4 H locs ls g1 g2 g3 => lv_if_gt X.1 X.2.1 hd ht (fun q => kt q p e s m args below meth c X h1 h2 h3 h4 H locs ls g1 g2 g3) (fun q => kf q p e s m args below meth c X h1 h2 h3 h4 H locs ls g1 g2 g3)
theorem fV.if_le (hd : fBk M.2.1 pc (.ifCond .le) tgt) (kt : x ≤ 0 → fV G M Z tgt L r S) (kf : ¬ x ≤ 0 → fV G M Z (pc + 3) L r S) : fV G M Z pc L (.int x :: r) S := by
  obtain ⟨off, hd, ht⟩ := hd
  exact fun p e s m args below meth c X h1 h2 h3 h4 H locs ls g1 g2 g3 => lv_if_le X.1 X.2.1 hd ht (fun q => kt q p e s m args below meth c X h1 h2 h3 h4 H locs ls g1 g2 g3) (fun q => kf q p e s m args below meth c X h1 h2 h3 h4 H locs ls g1 g2 g3)
variable {u v : Int64}
theorem fV.lif_eq (hd : fBk M.2.1 pc (.ifCond .eq) tgt) (kt : u = v → fV G M Z tgt L r S) (kf : ¬ u = v → fV G M Z (pc + 3) L r S) : fV G M Z pc L (.int (lg_cmp u v) :: r) S :=
  fV.if_eq hd (fun q => kt ((lg_cmp_eq u v).mp q)) (fun q => kf (fun z => q ((lg_cmp_eq u v).mpr z)))
theorem fV.lif_ne (hd : fBk M.2.1 pc (.ifCond .ne) tgt) (kt : ¬ u = v → fV G M Z tgt L r S) (kf : u = v → fV G M Z (pc + 3) L r S) : fV G M Z pc L (.int (lg_cmp u v) :: r) S :=
  fV.if_ne hd (fun q => kt (fun z => q ((lg_cmp_eq u v).mpr z))) (fun q => kf ((lg_cmp_eq u v).mp q))
theorem fV.lif_lt (hd : fBk M.2.1 pc (.ifCond .lt) tgt) (kt : u < v → fV G M Z tgt L r S) (kf : ¬ u < v → fV G M Z (pc + 3) L r S) : fV G M Z pc L (.int (lg_cmp u v) :: r) S :=
  fV.if_lt hd (fun q => kt ((lg_cmp_lt u v).mp q)) (fun q => kf (fun z => q ((lg_cmp_lt u v).mpr z)))
theorem fV.lif_ge (hd : fBk M.2.1 pc (.ifCond .ge) tgt) (kt : v ≤ u → fV G M Z tgt L r S) (kf : ¬ v ≤ u → fV G M Z (pc + 3) L r S) : fV G M Z pc L (.int (lg_cmp u v) :: r) S :=
  fV.if_ge hd (fun q => kt ((lg_cmp_ge u v).mp q)) (fun q => kf (fun z => q ((lg_cmp_ge u v).mpr z)))
theorem fV.lif_gt (hd : fBk M.2.1 pc (.ifCond .gt) tgt) (kt : v < u → fV G M Z tgt L r S) (kf : ¬ v < u → fV G M Z (pc + 3) L r S) : fV G M Z pc L (.int (lg_cmp u v) :: r) S :=
  fV.if_gt hd (fun q => kt ((lg_cmp_gt u v).mp q)) (fun q => kf (fun z => q ((lg_cmp_gt u v).mpr z)))
theorem fV.lif_le (hd : fBk M.2.1 pc (.ifCond .le) tgt) (kt : u ≤ v → fV G M Z tgt L r S) (kf : ¬ u ≤ v → fV G M Z (pc + 3) L r S) : fV G M Z pc L (.int (lg_cmp u v) :: r) S :=
  fV.if_le hd (fun q => kt ((lg_cmp_le u v).mp q)) (fun q => kf (fun z => q ((lg_cmp_le u v).mpr z)))
/-- tableswitch: from its row, a target for each number, and one for all others -/
theorem fV.tsw {dflt lo hi : Int} {offs : Array Int} {len : Nat} (hd : decode M.2.1 pc = .ok (.tableswitch dflt lo hi offs, len)) (ho : (pc : Int) + dflt = (tgt : Int))
    (kin : lo ≤ x.toInt → x.toInt ≤ hi → ∃ (off : Int) (t : Nat), offs[(x.toInt - lo).toNat]? = some off ∧ (pc : Int) + off = (t : Int) ∧ fV G M Z t L r S) (kout : (x.toInt < lo ∨ hi < x.toInt) → fV G M Z tgt L r S) : fV G M Z pc L (.int x :: r) S := by
  intro p e s m args below meth c X h1 h2 h3 h4 H locs ls g1 g2 g3
  by_cases c1 : x.toInt < lo
  · exact lv_tableOut X.1 X.2.1 hd (Or.inl c1) ho (kout (Or.inl c1) p e s m args below meth c X h1 h2 h3 h4 H locs ls g1 g2 g3)
  · by_cases c2 : hi < x.toInt
    · exact lv_tableOut X.1 X.2.1 hd (Or.inr c2) ho (kout (Or.inr c2) p e s m args below meth c X h1 h2 h3 h4 H locs ls g1 g2 g3)
    · obtain ⟨off, t, a1, a2, a3⟩ := kin (by omega) (by omega)
      exact lv_tableIn X.1 X.2.1 hd c1 c2 a1 a2 (a3 p e s m args below meth c X h1 h2 h3 h4 H locs ls g1 g2 g3)
/-! calls -/
def fA (ad : Nat → Nat) : Nat → Prop := fun q => ∃ o, o < 57 ∧ q = ad o
def fRm (d : Nat) : Room := { frames := d, cells := 0, slots := 0, locals := 64 * d }
def fWs (M : fM) : List Cond := Cond.code M.1 M.2.1 M.2.2.1 M.2.2.2.1 :: fTB
def fPc (G : fG) (av : List Value) (S : fS) : Array Value → State → Prop := va_Pc (av.map (cv G.2.2.1)) (fun U => va_P G.2.1 vwCl (fW G.2.2.1 G.2.2.2.1 G.2.2.2.2 S) U.heap ∧ va_K G.2.1 vwCl (fTy G.2.2.2.1 G.2.2.2.2) U)
def fQc (G : fG) (Q : Option Value → fS → Prop) : Array Value → State → Outcome → State → Prop := fun _ st oc t =>
  (∃ (r : Option Value) (S' : fS), oc = .returned (r.map (cv G.2.2.1)) ∧ Q r S' ∧ va_P G.2.1 vwCl (fW G.2.2.1 G.2.2.2.1 G.2.2.2.2 S') t.heap) ∧ va_F (fA G.2.2.1) st t
/-- a contract: from the state S with these arguments the method returns, and Q holds of the answer and of the state behind it -/
def fCtr (G : fG) (d : Nat) (M : fM) (av : List Value) (S : fS) (Q : Option Value → fS → Prop) : Prop :=
  (∀ a b, a < 57 → b < 57 → G.2.2.1 a = G.2.2.1 b → a = b) → Met G.1 M.1 (fWs M) (fRm d) (fPc G av S) (fQc G Q) 0 0 (fA G.2.2.1)
def fMok (M : fM) (n : Nat) : Prop := Cond.code M.1 M.2.1 M.2.2.1 M.2.2.2.1 ∈ fTB ∧ Cond.initialized M.1.cls ∈ fTB ∧ (M.1.cls ≠ "java/lang/invoke/MethodHandle" ∧ M.1.cls ≠ "java/lang/invoke/VarHandle" ∧ (parseMethodDescriptor M.1.desc).map (fun d => d.parameters.length) = some n)
def fMokV (M : fM) (n : Nat) : Prop := fMok M n ∧ Cond.instanceMethod M.1 ∈ fTB ∧ Cond.selects M.1.cls M.1 M.1 ∈ fTB
def fMokS (M : fM) (n : Nat) : Prop := fMok M n ∧ Cond.static M.1 ∈ fTB
def fKnd (o : Nat) : Option String := match fLay[o]? with
  | some e => (vwCl[e.1]?).map (fun q => q.1)
  | none => none
theorem fGoodW {w : Cond} (h : w ∈ fTB) : w ∈ fTB ∧ ((w.onTables && w.keeps) = true ∨ ∃ ty, w = .arrayClass ty) := ⟨h, good_of_word (fTB_good w h)⟩
theorem fGoodWs {n : Nat} (h : fMok M n) : GoodIn fTB (fWs M) := by
  intro w hw
  rcases List.mem_cons.mp hw with rfl | hw
  · exact fGoodW h.1
  · exact fGoodW hw
theorem fPc_blind (G : fG) (av : List Value) (S : fS) : FrameBlind (fPc G av S) := by
  intro a U g mk q
  obtain ⟨q0, q1, q2⟩ := q
  exact ⟨q0, q1, va_K.moved (u := U) (U := U.calling g mk a) (Vm.Alike.refl U.vm) q2⟩
theorem fBehind {p : Program} {e : Env} {s : State} {m : MethodId} {args a : Array Value} {below : List Frame} {meth : Method} {c : Code} {H : Heap} {locs : List Loc} {ls : Array Slot} {st0 : List Value} {rest : List Value} {Q : Option Value → fS → Prop}
    (X : fCtx p s m args c G.2.1 G.2.2.1 G.2.2.2.1 G.2.2.2.2 (Z.2.2.1 s) M.1.cls M.2.1 M.2.2.2.2.1 M.2.2.2.2.2 Z.1) (h1 : c.maxLocals = M.2.2.1) (h2 : meth.sig.returnType = M.2.2.2.1) (h3 : meth.locks = false) (h4 : Z.2.2.2.2.2 args)
    (hr : va_Run p G.1 e Z.2.1 s m args below meth c H locs Z.2.2.2.1.1 Z.2.2.2.1.2 0 0 (F0 m pc ls st0) (rest.map (cv G.2.2.1)) (fQc G Q a) (fA G.2.2.1)) (g2 : va_S (Z.2.2.1 s) s.heap H locs) (g3 : lv_has ls M.2.2.1 (fLs G.2.2.1 L))
    (k : ∀ r S', Q r S' → fV G M Z (pc + 3) L (r.toList ++ rest) S') : W p G.1 e Z.2.1 s m args below meth c H locs Z.2.2.2.1.1 Z.2.2.2.1.2 (Z.2.2.2.2.1 below args s) (F0 m pc ls st0) := by
  have hsub : ∀ q, fA G.2.2.1 q → Z.2.2.1 s q := fun q ⟨o, ho, e⟩ => by rw [e]; exact X.2.2.2.2.2.2.1 o ho
  intro T hT Y
  obtain ⟨v, st₀, t, T', Lx, h0, X', hL, e1, e2, ⟨⟨r, S', hv, hq, hp⟩, hz, hk⟩, stp⟩ := hr T hT Y
  cases hv
  rw [h0] at hz hk
  obtain ⟨t2, a1, b1⟩ := k r S' hq p e s m args below meth c X h1 h2 h3 h4 T'.heap (locs ++ Lx) ls (by rw [e1]; exact hp)
    ⟨Nat.le_trans g2.1 (by rw [e1]; exact hz), fun q q1 q2 => by rw [e1, hk q (Nat.lt_of_lt_of_le q1 g2.1) (fun z => q2 (hsub q z))]; exact g2.2.1 q q1 q2, fun q hq => by
      rcases List.mem_append.mp hq with h | h
      · exact g2.2.2 q h
      · exact hsub _ (hL q h)⟩ g3 T' rfl X'
  refine ⟨t2, stp t2 ?_, b1⟩
  have : ((r.map (cv G.2.2.1)).toList ++ rest.map (cv G.2.2.1)) = (r.toList ++ rest).map (cv G.2.2.1) := by cases r <;> simp
  show Steps p.tables e below (T'.setTop (F0 m (pc + 3) ls ((r.map (cv G.2.2.1)).toList ++ rest.map (cv G.2.2.1)))) t2
  rw [this]
  exact a1
theorem fCat (ad : Nat → Nat) (l : List Value) : ((l.map (cv ad)).map fun v => v.category).sum = (l.map fun v => v.category).sum := by
  rw [List.map_map]
  congr 1
  exact List.map_congr_left (fun v _ => cv_cat ad v)
theorem fV.callV {n d idx o : Nat} {av rest : List Value} {Q : Option Value → fS → Prop} (hm : fMokV M2 n) (hd : decode M.2.1 pc = .ok (.invokevirtual idx, 3)) (hlink : Cond.methodLink M.1.cls idx M2.1 ∈ fTB) (hrec : fKnd o = some M2.1.cls) (hst : st = av.reverse ++ .ref o :: rest) (hn : av.length = n) (hw : (rest.map fun v => v.category).sum ≤ 8)
    (hroom : d + 1 ≤ Z.2.1.frames ∧ 8 + (M2.2.2.1 + 11) + 64 * d ≤ Z.2.1.locals) (hfit : Z.2.2.2.1.1 + 0 ≤ Z.2.1.cells ∧ Z.2.2.2.1.2 + 0 ≤ Z.2.1.slots) (hc : fCtr G d M2 (.ref o :: av) S Q) (k : ∀ r S', Q r S' → fV G M Z (pc + 3) L (r.toList ++ rest) S') : fV G M Z pc L st S := by
  intro p e s m args below meth c X h1 h2 h3 h4 H locs ls g1 g2 g3
  obtain ⟨hx, hb, hown, hts, hK, hinj, hA, hfl, hkc, hsc⟩ := id X
  have hrc : ∃ cell : Cell, H[G.2.2.1 o]? = some cell ∧ cell.vm.isStatics = false ∧ s.vm.findClass M2.1.cls = some cell.cls := by
    unfold fKnd at hrec
    split at hrec
    · rename_i e he
      cases hq : vwCl[e.1]? with
      | none => rw [hq] at hrec; cases hrec
      | some q =>
        rw [hq] at hrec
        simp only [Option.map_some, Option.some.injEq] at hrec
        obtain ⟨C, T, N⟩ := q
        simp only at hrec
        subst hrec
        obtain ⟨e1, e2, e3⟩ := fLay_obj he hq
        have hat := fW_at G.2.2.1 G.2.2.2.1 G.2.2.2.2 S he
        obtain ⟨ci, fs⟩ := e
        rw [fCell_obj _ _ _ _ _ _ _ e2] at hat
        exact va_recv hK g1 hq hat
    · cases hrec
  have hwV : GoodIn fTB (wsV M.1.cls idx M2.1.cls M2.1 (fWs M2)) := by
    intro w hw
    rcases List.mem_append.mp hw with h | h
    · simp only [List.mem_cons, List.not_mem_nil, or_false] at h
      rcases h with rfl | rfl | rfl | rfl
      · exact fGoodW hlink
      · exact fGoodW hm.2.1
      · exact fGoodW hm.2.2
      · exact fGoodW hm.1.2.1
    · exact fGoodWs hm.1 w h
  subst hst
  have hst2 : (av.reverse ++ .ref o :: rest).map (cv G.2.2.1) = (av.map (cv G.2.2.1)).reverse ++ .ref (G.2.2.1 o) :: rest.map (cv G.2.2.1) := by simp [cv]
  exact fBehind X h1 h2 h3 h4 (va_runV (As := av.map (cv G.2.2.1)) (rest := rest.map (cv G.2.2.1)) ⟨hx, hb, h1, hown, hts⟩ (hc hinj)
    (cwV n hts hwV rfl rfl rfl ⟨rfl, hm.1.2.2⟩ hroom) ⟨fPc_blind G _ S, hrc, fun U hU hW => ⟨rfl, by rw [hU]; exact g1, va_K.moved hW.alike hK⟩⟩ rfl (by simpa using hn) g3.1 hst2 (lv_room (by rw [fCat]; exact hw)) hd hfit) g2 g3 k
theorem fV.callS {n d idx : Nat} {av rest : List Value} {Q : Option Value → fS → Prop} (hm : fMokS M2 n) (hd : decode M.2.1 pc = .ok (.invokestatic idx, 3)) (hlink : Cond.methodLink M.1.cls idx M2.1 ∈ fTB) (hst : st = av.reverse ++ rest) (hn : av.length = n) (hw : (rest.map fun v => v.category).sum ≤ 8)
    (hroom : d + 1 ≤ Z.2.1.frames ∧ 8 + (M2.2.2.1 + 11) + 64 * d ≤ Z.2.1.locals) (hfit : Z.2.2.2.1.1 + 0 ≤ Z.2.1.cells ∧ Z.2.2.2.1.2 + 0 ≤ Z.2.1.slots) (hc : fCtr G d M2 av S Q) (k : ∀ r S', Q r S' → fV G M Z (pc + 3) L (r.toList ++ rest) S') : fV G M Z pc L st S := by
  intro p e s m args below meth c X h1 h2 h3 h4 H locs ls g1 g2 g3
  obtain ⟨hx, hb, hown, hts, hK, hinj, hA, hfl, hkc, hsc⟩ := id X
  subst hst
  have hst2 : (av.reverse ++ rest).map (cv G.2.2.1) = (av.map (cv G.2.2.1)).reverse ++ rest.map (cv G.2.2.1) := by simp
  exact fBehind X h1 h2 h3 h4 (va_runS (As := av.map (cv G.2.2.1)) (rest := rest.map (cv G.2.2.1)) ⟨hx, hb, h1, hown, hts⟩ (hc hinj)
    ⟨callB_of n hts (fGoodWs hm.1) rfl rfl rfl (hts _ hm.1.2.1) (hts _ hlink) hm.1.2.2 hroom, hts _ hm.2⟩ ⟨fPc_blind G _ S, fun U hU hW => ⟨rfl, by rw [hU]; exact g1, va_K.moved hW.alike hK⟩⟩ rfl (by simpa using hn) g3.1 hst2 (lv_room (by rw [fCat]; exact hw)) hd hfit) g2 g3 k
/-! ends, and a contract out of a walk -/
def fZm (G : fG) (d : Nat) (Q : Option Value → fS → Prop) : fZ := (none, fRm d, (fun _ => fA G.2.2.1), (0, 0), (fun below args s => MQ below (fQc G Q) args s 0 0 (fA G.2.2.1)), fun _ => True)
variable {d : Nat} {Q : Option Value → fS → Prop}
theorem fV.iret (hr : M.2.2.2.1 = some .int) (hd : decode M.2.1 pc = .ok (.ireturn, 1)) (hq : Q (some (.int x)) S) : fV G M (fZm G d Q) pc L [.int x] S :=
  fun p e s m args below meth c X h1 h2 h3 h4 H locs ls g1 g2 g3 => W.iret X.1 X.2.1 (h2.trans hr) (fun t ht hW => ⟨⟨some (.int x), S, rfl, hq, by rw [ht]; exact g1⟩, va_S.F g2 ht⟩) g2.2.2 hd h3
theorem fV.zret (hr : M.2.2.2.1 = some .boolean) (hd : decode M.2.1 pc = .ok (.ireturn, 1)) (hx : x = 0 ∨ x = 1) (hq : Q (some (.int x)) S) : fV G M (fZm G d Q) pc L [.int x] S :=
  fun p e s m args below meth c X h1 h2 h3 h4 H locs ls g1 g2 g3 => W.zret X.1 X.2.1 (h2.trans hr) (by rcases hx with rfl | rfl <;> rfl) (fun t ht hW => ⟨⟨some (.int x), S, rfl, hq, by rw [ht]; exact g1⟩, va_S.F g2 ht⟩) g2.2.2 hd h3
theorem fV.lret (hr : M.2.2.2.1 = some .long) (hd : decode M.2.1 pc = .ok (.lreturn, 1)) (hq : Q (some (.long u)) S) : fV G M (fZm G d Q) pc L [.long u] S :=
  fun p e s m args below meth c X h1 h2 h3 h4 H locs ls g1 g2 g3 => W.lret X.1 X.2.1 (h2.trans hr) (fun t ht hW => ⟨⟨some (.long u), S, rfl, hq, by rw [ht]; exact g1⟩, va_S.F g2 ht⟩) g2.2.2 hd h3
theorem fV.vret (hr : M.2.2.2.1 = none) (hd : decode M.2.1 pc = .ok (.return_, 1)) (hq : Q none S) : fV G M (fZm G d Q) pc L [] S :=
  fun p e s m args below meth c X h1 h2 h3 h4 H locs ls g1 g2 g3 => W.vret X.1 X.2.1 (h2.trans hr) (fun t ht hW => ⟨⟨none, S, rfl, hq, by rw [ht]; exact g1⟩, va_S.F g2 ht⟩) g2.2.2 hd h3
theorem fLs_args (ad : Nat → Nat) : ∀ (av : List Value) (i : Nat), fLs ad (lv_args i av) = lv_args i (av.map (cv ad))
  | [], _ => rfl
  | v :: vs, i => by
    show (i, cv ad v) :: fLs ad (lv_args _ vs) = (i, cv ad v) :: lv_args _ (vs.map (cv ad))
    rw [fLs_args ad vs, cv_cat]
theorem fSl_len (ad : Nat → Nat) (av : List Value) : (lg_sl (av.map (cv ad))).length = (lg_sl av).length := by
  induction av with
  | nil => rfl
  | cons v vs ih =>
    simp only [lg_sl, List.map_cons, List.flatMap_cons, List.length_append, cv_cat] at ih ⊢
    rw [ih]
    congr 1
    split <;> rfl
def fMb (M : fM) : Prop := fFlOk M.1.cls M.2.2.2.2.1 ∧ fKcOk M.1.cls M.2.2.2.2.2 ∧ plainName M.1.cls = true
theorem fCtr.of {av : List Value} (hb : fMb M) (hlen : (lg_sl av).length ≤ M.2.2.1) (hL : lv_args 0 av = L) (h : fV G M (fZm G d Q) 0 L [] S) : fCtr G d M av S Q := by
  intro hinj
  subst hL
  refine Met.ofW (cc := M.2.1) (maxL := M.2.2.1) (ret := M.2.2.2.1) hb.2.2 rfl ?_
  intro p e s m args below meth c s₁ B hml hv
  obtain ⟨rfl, hP, hK⟩ := hv
  have hts := atoms_spec (ws := fWs M) B.pre
  have hown : s.vm.findClass M.1.cls = some m.cls := findClass_of_methodNamed B.named
  have hl := lv_entry (av.map (cv G.2.2.1)) (n := M.2.2.1) (by rw [fSl_len]; exact hlen)
  rw [lg_entry_eq]
  generalize (lg_sl (av.map (cv G.2.2.1)) ++ List.replicate (M.2.2.1 - (lg_sl (av.map (cv G.2.2.1))).length) Slot.unset).toArray = ls at hl ⊢
  exact h p e s m _ below meth c ⟨B.exec, B.bytes, hown, fun w hw => hts w (List.mem_cons_of_mem _ hw), hK, hinj, fun a ha => ⟨a, ha, rfl⟩, hb.1, hb.2.1, trivial⟩ hml B.returns B.notSynchronized trivial s.heap [] ls hP va_S.rf (by rw [fLs_args]; exact hl)
end Rules
end
section
/-! THE METHODS: names, field numbers, constants, what the tables say of them -/
def fLook : List (Nat × Nat × Nat × Nat) → Nat → Option (Nat × Nat)
  | [], _ => none
  | q :: t, i => bif Nat.beq q.1 i then some (q.2.1, q.2.2.1) else fLook t i
theorem fLook_mem : ∀ {l : List (Nat × Nat × Nat × Nat)} {i ci k : Nat}, fLook l i = some (ci, k) → ∃ q ∈ l, q.1 = i ∧ q.2.1 = ci ∧ q.2.2.1 = k
  | [], _, _, _, h => by cases h
  | q :: t, i, ci, k, h => by
    unfold fLook at h
    cases hq : Nat.beq q.1 i with
    | true =>
      rw [hq] at h
      simp only [cond_true, Option.some.injEq, Prod.mk.injEq] at h
      exact ⟨q, List.mem_cons_self, Nat.eq_of_beq_eq_true hq, h.1, h.2⟩
    | false =>
      rw [hq] at h
      obtain ⟨r, h1, h2⟩ := fLook_mem h
      exact ⟨r, List.mem_cons_of_mem _ h1, h2⟩
def fLkOk (own : String) (q : Nat × Nat × Nat × Nat) : Bool := match vwCl[q.2.1]? with
  | none => false
  | some z => decide (q.2.2.1 < z.2.2) && (decide (lw_tbl[q.2.2.2]? = some (Cond.fieldLink own q.1 (z.2.1 q.2.2.1).1 (z.2.1 q.2.2.1).2.1 (z.2.1 q.2.2.1).2.2.1)) && goodWord (Cond.fieldLink own q.1 (z.2.1 q.2.2.1).1 (z.2.1 q.2.2.1).2.1 (z.2.1 q.2.2.1).2.2.1))
theorem fLk_of {own : String} {l : List (Nat × Nat × Nat × Nat)} (h : l.all (fLkOk own) = true) : fFlOk own (fLook l) := by
  intro idx ci k hk
  obtain ⟨q, hq, rfl, rfl, rfl⟩ := fLook_mem hk
  have z := List.all_eq_true.mp h q hq
  unfold fLkOk at z
  split at z
  · cases z
  · rename_i w hw
    obtain ⟨C, T, N⟩ := w
    simp only [Bool.and_eq_true, decide_eq_true_eq] at z
    exact ⟨C, T, N, hw, z.1, fTB_at _ z.2.1 z.2.2⟩
def fKon : List (Nat × Value × Nat) → Nat → Option Value
  | [], _ => none
  | q :: t, i => bif Nat.beq q.1 i then some q.2.1 else fKon t i
theorem fKon_mem : ∀ {l : List (Nat × Value × Nat)} {i : Nat} {v : Value}, fKon l i = some v → ∃ q ∈ l, q.1 = i ∧ q.2.1 = v
  | [], _, _, h => by cases h
  | q :: t, i, v, h => by
    unfold fKon at h
    cases hq : Nat.beq q.1 i with
    | true =>
      rw [hq] at h
      simp only [cond_true, Option.some.injEq] at h
      exact ⟨q, List.mem_cons_self, Nat.eq_of_beq_eq_true hq, h⟩
    | false =>
      rw [hq] at h
      obtain ⟨r, h1, h2⟩ := fKon_mem h
      exact ⟨r, List.mem_cons_of_mem _ h1, h2⟩
def fKonOk (own : String) (q : Nat × Value × Nat) : Bool := match q.2.1 with
  | .int x => decide (lw_tbl[q.2.2]? = some (Cond.constant own q.1 x)) && goodWord (Cond.constant own q.1 x)
  | .long x => decide (lw_tbl[q.2.2]? = some (Cond.constantLong own q.1 x)) && goodWord (Cond.constantLong own q.1 x)
  | _ => false
theorem fKon_of {own : String} {l : List (Nat × Value × Nat)} (h : l.all (fKonOk own) = true) : fKcOk own (fKon l) := by
  intro idx
  refine ⟨fun x hx => ?_, fun x hx => ?_⟩
  · obtain ⟨q, hq, rfl, e⟩ := fKon_mem hx
    have z := List.all_eq_true.mp h q hq
    unfold fKonOk at z
    rw [e] at z
    simp only [Bool.and_eq_true, decide_eq_true_eq] at z
    exact fTB_at _ z.1 z.2
  · obtain ⟨q, hq, rfl, e⟩ := fKon_mem hx
    have z := List.all_eq_true.mp h q hq
    unfold fKonOk at z
    rw [e] at z
    simp only [Bool.and_eq_true, decide_eq_true_eq] at z
    exact fTB_at _ z.1 z.2
def flX0 : List (Nat × Nat × Nat × Nat) := [(31, 0, 6, 248), (9, 0, 0, 236), (41, 0, 9, 254), (45, 0, 10, 256), (51, 0, 12, 260), (15, 0, 1, 238), (21, 0, 3, 242), (48, 0, 11, 258), (35, 0, 7, 250), (38, 0, 8, 252), (18, 0, 2, 240), (54, 6, 1, 98), (57, 1, 3, 196)]
theorem flX0_ok : fFlOk RX0 (fLook flX0) := fLk_of (by decide +kernel)
def kcX0 : List (Nat × Value × Nat) := []
theorem kcX0_ok : fKcOk RX0 (fKon kcX0) := fKon_of (by decide +kernel)
def flX1 : List (Nat × Nat × Nat × Nat) := [(22, 1, 3, 195), (26, 1, 4, 198), (9, 1, 0, 190), (15, 1, 1, 191), (19, 1, 2, 193), (29, 3, 7, 164), (34, 3, 0, 155)]
theorem flX1_ok : fFlOk RX1 (fLook flX1) := fLk_of (by decide +kernel)
def kcX1 : List (Nat × Value × Nat) := [(49, .long (32768), 495)]
theorem kcX1_ok : fKcOk RX1 (fKon kcX1) := fKon_of (by decide +kernel)
def flX2 : List (Nat × Nat × Nat × Nat) := [(9, 2, 2, 139), (21, 2, 0, 135), (25, 2, 1, 137)]
theorem flX2_ok : fFlOk RX2 (fLook flX2) := fLk_of (by decide +kernel)
def kcX2 : List (Nat × Value × Nat) := []
theorem kcX2_ok : fKcOk RX2 (fKon kcX2) := fKon_of (by decide +kernel)
def flX3 : List (Nat × Nat × Nat × Nat) := [(25, 3, 4, 160), (35, 3, 7, 163), (15, 3, 1, 157), (18, 3, 2, 158), (21, 3, 3, 159), (9, 3, 0, 154), (42, 6, 2, 101), (28, 3, 5, 161), (32, 3, 6, 162), (47, 6, 3, 103), (68, 6, 4, 105), (71, 6, 5, 107), (74, 6, 6, 110)]
theorem flX3_ok : fFlOk RX3 (fLook flX3) := fLk_of (by decide +kernel)
def kcX3 : List (Nat × Value × Nat) := []
theorem kcX3_ok : fKcOk RX3 (fKon kcX3) := fKon_of (by decide +kernel)
def flX4 : List (Nat × Nat × Nat × Nat) := [(18, 4, 2, 79), (9, 4, 0, 75), (15, 4, 1, 77)]
theorem flX4_ok : fFlOk RX4 (fLook flX4) := fLk_of (by decide +kernel)
def kcX4 : List (Nat × Value × Nat) := []
theorem kcX4_ok : fKcOk RX4 (fKon kcX4) := fKon_of (by decide +kernel)
def flX5 : List (Nat × Nat × Nat × Nat) := [(7, 5, 0, 217), (13, 5, 1, 219), (16, 5, 2, 221)]
theorem flX5_ok : fFlOk RX5 (fLook flX5) := fLk_of (by decide +kernel)
def kcX5 : List (Nat × Value × Nat) := []
theorem kcX5_ok : fKcOk RX5 (fKon kcX5) := fKon_of (by decide +kernel)
def flX6 : List (Nat × Nat × Nat × Nat) := [(30, 6, 6, 108), (9, 6, 0, 95), (24, 6, 4, 104), (27, 6, 5, 106), (15, 6, 1, 97), (18, 6, 2, 100), (21, 6, 3, 102)]
theorem flX6_ok : fFlOk RX6 (fLook flX6) := fLk_of (by decide +kernel)
def kcX6 : List (Nat × Value × Nat) := []
theorem kcX6_ok : fKcOk RX6 (fKon kcX6) := fKon_of (by decide +kernel)
def flX7 : List (Nat × Nat × Nat × Nat) := [(19, 7, 1, 290), (63, 7, 8, 297), (49, 7, 6, 295), (42, 7, 5, 294), (56, 7, 7, 296), (10, 7, 0, 289), (97, 6, 6, 109), (28, 7, 2, 291), (67, 7, 9, 298), (32, 7, 3, 292), (94, 6, 1, 99), (35, 7, 4, 293), (163, 3, 7, 165), (179, 5, 0, 218), (183, 5, 1, 220), (71, 7, 10, 299), (132, 1, 3, 197), (150, 1, 2, 194), (114, 2, 2, 140), (190, 5, 2, 222), (197, 1, 4, 199), (278, 0, 4, 245), (280, 0, 5, 247), (113, 4, 2, 80), (142, 1, 1, 192), (237, 4, 0, 76), (240, 2, 0, 136), (243, 2, 1, 138), (293, 0, 1, 239), (294, 0, 3, 243), (110, 6, 0, 96), (219, 0, 9, 255), (223, 0, 10, 257), (226, 0, 11, 259), (229, 0, 12, 261), (261, 3, 0, 156), (275, 0, 6, 249), (285, 0, 0, 237), (287, 4, 1, 78), (290, 0, 7, 251), (297, 0, 2, 241), (300, 0, 8, 253)]
theorem flX7_ok : fFlOk RX7 (fLook flX7) := fLk_of (by decide +kernel)
def kcX7 : List (Nat × Value × Nat) := [(133, .long (-1001), 504), (135, .long (-1002), 505), (137, .long (-1), 506), (200, .long (1000000000000), 565), (202, .long (1000), 553), (207, .int (1000000), 584), (264, .long (1000000), 519), (266, .long (100), 521)]
theorem kcX7_ok : fKcOk RX7 (fKon kcX7) := fKon_of (by decide +kernel)
def flX8 : List (Nat × Nat × Nat × Nat) := [(89, 8, 3, 619), (16, 8, 4, 620), (159, 8, 22, 638), (78, 8, 0, 616), (19, 8, 5, 621), (48, 8, 16, 632), (181, 8, 25, 641), (63, 8, 21, 637), (103, 8, 6, 622), (106, 8, 10, 626), (149, 8, 24, 640), (44, 8, 15, 631), (145, 8, 23, 639), (51, 8, 17, 633), (54, 8, 18, 634), (57, 8, 19, 635), (60, 8, 20, 636), (41, 8, 14, 630), (7, 8, 1, 617), (37, 8, 13, 629), (69, 8, 27, 643), (72, 8, 28, 644), (13, 8, 2, 618), (22, 8, 7, 623), (25, 8, 8, 624), (31, 8, 11, 627), (34, 8, 12, 628), (28, 8, 9, 625), (66, 8, 26, 642), (75, 8, 29, 645)]
theorem flX8_ok : fFlOk RX8 (fLook flX8) := fLk_of (by decide +kernel)
def kcX8 : List (Nat × Value × Nat) := [(81, .long (1000), 715), (87, .long (100), 711), (115, .long (3), 763), (121, .long (5), 768), (162, .long (2), 821), (191, .long (1000000), 869), (197, .long (16384), 874), (199, .long (50), 875), (204, .long (-1), 800), (210, .long (-1001), 858), (212, .long (6), 859), (214, .long (-1002), 860), (226, .long (4), 884), (231, .long (300), 897), (233, .long (1000000000000), 902)]
theorem kcX8_ok : fKcOk RX8 (fKon kcX8) := fKon_of (by decide +kernel)
def flJ6 : List (Nat × Nat × Nat × Nat) := []
theorem flJ6_ok : fFlOk RJ6 (fLook flJ6) := fLk_of (by decide +kernel)
def kcJ6 : List (Nat × Value × Nat) := [(265, .int (1431655765), 581), (266, .int (858993459), 582), (267, .int (252645135), 583)]
theorem kcJ6_ok : fKcOk RJ6 (fKon kcJ6) := fKon_of (by decide +kernel)
def flJ9 : List (Nat × Nat × Nat × Nat) := []
theorem flJ9_ok : fFlOk RJ9 (fLook flJ9) := fLk_of (by decide +kernel)
def kcJ9 : List (Nat × Value × Nat) := []
theorem kcJ9_ok : fKcOk RJ9 (fKon kcJ9) := fKon_of (by decide +kernel)
def flL : List (Nat × Nat × Nat × Nat) := []
theorem flL_ok : fFlOk RL (fLook flL) := fLk_of (by decide +kernel)
def kcL : List (Nat × Value × Nat) := [(81, .long (4294967295), 914)]
theorem kcL_ok : fKcOk RL (fKon kcL) := fKon_of (by decide +kernel)
def mX0_begin : fM := (yX0_begin, cX0_begin, 6, none, fLook flX0, fKon kcX0)
theorem bXX0_begin : fMb mX0_begin := ⟨flX0_ok, kcX0_ok, by decide +kernel⟩
set_option maxRecDepth 100000 in
theorem kX0_begin : fMokV mX0_begin 4 := ⟨⟨fTB_at 588 rfl rfl, fTB_at 58 rfl rfl, by decide +kernel, by decide +kernel, by decide +kernel⟩, fTB_at 586 rfl rfl, fTB_at 587 rfl rfl⟩
def mX0_group : fM := (yX0_group, cX0_group, 5, none, fLook flX0, fKon kcX0)
theorem bXX0_group : fMb mX0_group := ⟨flX0_ok, kcX0_ok, by decide +kernel⟩
set_option maxRecDepth 100000 in
theorem kX0_group : fMokV mX0_group 1 := ⟨⟨fTB_at 592 rfl rfl, fTB_at 58 rfl rfl, by decide +kernel, by decide +kernel, by decide +kernel⟩, fTB_at 590 rfl rfl, fTB_at 591 rfl rfl⟩
def mX0_groupOf : fM := (yX0_groupOf, cX0_groupOf, 7, (some .int), fLook flX0, fKon kcX0)
theorem bXX0_groupOf : fMb mX0_groupOf := ⟨flX0_ok, kcX0_ok, by decide +kernel⟩
set_option maxRecDepth 100000 in
theorem kX0_groupOf : fMokV mX0_groupOf 2 := ⟨⟨fTB_at 596 rfl rfl, fTB_at 58 rfl rfl, by decide +kernel, by decide +kernel, by decide +kernel⟩, fTB_at 595 rfl rfl, fTB_at 19 rfl rfl⟩
def mX0_weigh : fM := (yX0_weigh, cX0_weigh, 4, none, fLook flX0, fKon kcX0)
theorem bXX0_weigh : fMb mX0_weigh := ⟨flX0_ok, kcX0_ok, by decide +kernel⟩
set_option maxRecDepth 100000 in
theorem kX0_weigh : fMokV mX0_weigh 2 := ⟨⟨fTB_at 609 rfl rfl, fTB_at 58 rfl rfl, by decide +kernel, by decide +kernel, by decide +kernel⟩, fTB_at 607 rfl rfl, fTB_at 608 rfl rfl⟩
def mX1_clear : fM := (yX1_clear, cX1_clear, 1, none, fLook flX1, fKon kcX1)
theorem bXX1_clear : fMb mX1_clear := ⟨flX1_ok, kcX1_ok, by decide +kernel⟩
set_option maxRecDepth 100000 in
theorem kX1_clear : fMokV mX1_clear 0 := ⟨⟨fTB_at 433 rfl rfl, fTB_at 56 rfl rfl, by decide +kernel, by decide +kernel, by decide +kernel⟩, fTB_at 431 rfl rfl, fTB_at 432 rfl rfl⟩
def mX1_add : fM := (yX1_add, cX1_add, 6, none, fLook flX1, fKon kcX1)
theorem bXX1_add : fMb mX1_add := ⟨flX1_ok, kcX1_ok, by decide +kernel⟩
set_option maxRecDepth 100000 in
theorem kX1_add : fMokV mX1_add 1 := ⟨⟨fTB_at 487 rfl rfl, fTB_at 56 rfl rfl, by decide +kernel, by decide +kernel, by decide +kernel⟩, fTB_at 485 rfl rfl, fTB_at 486 rfl rfl⟩
def mX1_wallOf : fM := (yX1_wallOf, cX1_wallOf, 3, (some .int), fLook flX1, fKon kcX1)
theorem bXX1_wallOf : fMb mX1_wallOf := ⟨flX1_ok, kcX1_ok, by decide +kernel⟩
set_option maxRecDepth 100000 in
theorem kX1_wallOf : fMokV mX1_wallOf 2 := ⟨⟨fTB_at 514 rfl rfl, fTB_at 56 rfl rfl, by decide +kernel, by decide +kernel, by decide +kernel⟩, fTB_at 512 rfl rfl, fTB_at 513 rfl rfl⟩
def mX1_orderOf : fM := (yX1_orderOf, cX1_orderOf, 4, (some .int), fLook flX1, fKon kcX1)
theorem bXX1_orderOf : fMb mX1_orderOf := ⟨flX1_ok, kcX1_ok, by decide +kernel⟩
set_option maxRecDepth 100000 in
theorem kX1_orderOf : fMokV mX1_orderOf 1 := ⟨⟨fTB_at 510 rfl rfl, fTB_at 56 rfl rfl, by decide +kernel, by decide +kernel, by decide +kernel⟩, fTB_at 508 rfl rfl, fTB_at 509 rfl rfl⟩
def mX1_wholeRoot : fM := (yX1_wholeRoot, cX1_wholeRoot, 6, (some .int), fLook flX1, fKon kcX1)
theorem bXX1_wholeRoot : fMb mX1_wholeRoot := ⟨flX1_ok, kcX1_ok, by decide +kernel⟩
set_option maxRecDepth 100000 in
theorem kX1_wholeRoot : fMokS mX1_wholeRoot 1 := ⟨⟨fTB_at 494 rfl rfl, fTB_at 56 rfl rfl, by decide +kernel, by decide +kernel, by decide +kernel⟩, fTB_at 493 rfl rfl⟩
def mX2_has : fM := (yX2_has, cX2_has, 2, (some .boolean), fLook flX2, fKon kcX2)
theorem bXX2_has : fMb mX2_has := ⟨flX2_ok, kcX2_ok, by decide +kernel⟩
set_option maxRecDepth 100000 in
theorem kX2_has : fMokV mX2_has 1 := ⟨⟨fTB_at 380 rfl rfl, fTB_at 53 rfl rfl, by decide +kernel, by decide +kernel, by decide +kernel⟩, fTB_at 378 rfl rfl, fTB_at 379 rfl rfl⟩
def mX2_add : fM := (yX2_add, cX2_add, 3, (some .int), fLook flX2, fKon kcX2)
theorem bXX2_add : fMb mX2_add := ⟨flX2_ok, kcX2_ok, by decide +kernel⟩
set_option maxRecDepth 100000 in
theorem kX2_add : fMokV mX2_add 2 := ⟨⟨fTB_at 372 rfl rfl, fTB_at 53 rfl rfl, by decide +kernel, by decide +kernel, by decide +kernel⟩, fTB_at 370 rfl rfl, fTB_at 371 rfl rfl⟩
def mX2_put : fM := (yX2_put, cX2_put, 4, none, fLook flX2, fKon kcX2)
theorem bXX2_put : fMb mX2_put := ⟨flX2_ok, kcX2_ok, by decide +kernel⟩
set_option maxRecDepth 100000 in
theorem kX2_put : fMokV mX2_put 3 := ⟨⟨fTB_at 376 rfl rfl, fTB_at 53 rfl rfl, by decide +kernel, by decide +kernel, by decide +kernel⟩, fTB_at 374 rfl rfl, fTB_at 375 rfl rfl⟩
def mX3_start : fM := (yX3_start, cX3_start, 5, none, fLook flX3, fKon kcX3)
theorem bXX3_start : fMb mX3_start := ⟨flX3_ok, kcX3_ok, by decide +kernel⟩
set_option maxRecDepth 100000 in
theorem kX3_start : fMokV mX3_start 4 := ⟨⟨fTB_at 441 rfl rfl, fTB_at 55 rfl rfl, by decide +kernel, by decide +kernel, by decide +kernel⟩, fTB_at 439 rfl rfl, fTB_at 440 rfl rfl⟩
def mX3_put : fM := (yX3_put, cX3_put, 4, none, fLook flX3, fKon kcX3)
theorem bXX3_put : fMb mX3_put := ⟨flX3_ok, kcX3_ok, by decide +kernel⟩
set_option maxRecDepth 100000 in
theorem kX3_put : fMokV mX3_put 3 := ⟨⟨fTB_at 499 rfl rfl, fTB_at 55 rfl rfl, by decide +kernel, by decide +kernel, by decide +kernel⟩, fTB_at 497 rfl rfl, fTB_at 498 rfl rfl⟩
def mX3_mirror : fM := (yX3_mirror, cX3_mirror, 6, none, fLook flX3, fKon kcX3)
theorem bXX3_mirror : fMb mX3_mirror := ⟨flX3_ok, kcX3_ok, by decide +kernel⟩
set_option maxRecDepth 100000 in
theorem kX3_mirror : fMokS mX3_mirror 5 := ⟨⟨fTB_at 467 rfl rfl, fTB_at 55 rfl rfl, by decide +kernel, by decide +kernel, by decide +kernel⟩, fTB_at 466 rfl rfl⟩
def mX3_lengthSquared : fM := (yX3_lengthSquared, cX3_lengthSquared, 5, (some .long), fLook flX3, fKon kcX3)
theorem bXX3_lengthSquared : fMb mX3_lengthSquared := ⟨flX3_ok, kcX3_ok, by decide +kernel⟩
set_option maxRecDepth 100000 in
theorem kX3_lengthSquared : fMokV mX3_lengthSquared 0 := ⟨⟨fTB_at 491 rfl rfl, fTB_at 55 rfl rfl, by decide +kernel, by decide +kernel, by decide +kernel⟩, fTB_at 489 rfl rfl, fTB_at 490 rfl rfl⟩
def mX3_hasBounces : fM := (yX3_hasBounces, cX3_hasBounces, 4, (some .boolean), fLook flX3, fKon kcX3)
theorem bXX3_hasBounces : fMb mX3_hasBounces := ⟨flX3_ok, kcX3_ok, by decide +kernel⟩
set_option maxRecDepth 100000 in
theorem kX3_hasBounces : fMokV mX3_hasBounces 1 := ⟨⟨fTB_at 449 rfl rfl, fTB_at 55 rfl rfl, by decide +kernel, by decide +kernel, by decide +kernel⟩, fTB_at 447 rfl rfl, fTB_at 448 rfl rfl⟩
def mX3_setBounce : fM := (yX3_setBounce, cX3_setBounce, 16, (some .boolean), fLook flX3, fKon kcX3)
theorem bXX3_setBounce : fMb mX3_setBounce := ⟨flX3_ok, kcX3_ok, by decide +kernel⟩
set_option maxRecDepth 100000 in
theorem kX3_setBounce : fMokV mX3_setBounce 3 := ⟨⟨fTB_at 453 rfl rfl, fTB_at 55 rfl rfl, by decide +kernel, by decide +kernel, by decide +kernel⟩, fTB_at 452 rfl rfl, fTB_at 7 rfl rfl⟩
def mX3_isOnWall : fM := (yX3_isOnWall, cX3_isOnWall, 10, (some .boolean), fLook flX3, fKon kcX3)
theorem bXX3_isOnWall : fMb mX3_isOnWall := ⟨flX3_ok, kcX3_ok, by decide +kernel⟩
set_option maxRecDepth 100000 in
theorem kX3_isOnWall : fMokV mX3_isOnWall 5 := ⟨⟨fTB_at 460 rfl rfl, fTB_at 55 rfl rfl, by decide +kernel, by decide +kernel, by decide +kernel⟩, fTB_at 459 rfl rfl, fTB_at 8 rfl rfl⟩
def mX3_sidewaysAt : fM := (yX3_sidewaysAt, cX3_sidewaysAt, 11, (some .long), fLook flX3, fKon kcX3)
theorem bXX3_sidewaysAt : fMb mX3_sidewaysAt := ⟨flX3_ok, kcX3_ok, by decide +kernel⟩
set_option maxRecDepth 100000 in
theorem kX3_sidewaysAt : fMokV mX3_sidewaysAt 4 := ⟨⟨fTB_at 464 rfl rfl, fTB_at 55 rfl rfl, by decide +kernel, by decide +kernel, by decide +kernel⟩, fTB_at 463 rfl rfl, fTB_at 9 rfl rfl⟩
def mX3_isSeen : fM := (yX3_isSeen, cX3_isSeen, 4, (some .boolean), fLook flX3, fKon kcX3)
theorem bXX3_isSeen : fMb mX3_isSeen := ⟨flX3_ok, kcX3_ok, by decide +kernel⟩
set_option maxRecDepth 100000 in
theorem kX3_isSeen : fMokV mX3_isSeen 1 := ⟨⟨fTB_at 471 rfl rfl, fTB_at 55 rfl rfl, by decide +kernel, by decide +kernel, by decide +kernel⟩, fTB_at 469 rfl rfl, fTB_at 470 rfl rfl⟩
def mX3_bouncesAtEnd : fM := (yX3_bouncesAtEnd, cX3_bouncesAtEnd, 3, (some .boolean), fLook flX3, fKon kcX3)
theorem bXX3_bouncesAtEnd : fMb mX3_bouncesAtEnd := ⟨flX3_ok, kcX3_ok, by decide +kernel⟩
set_option maxRecDepth 100000 in
theorem kX3_bouncesAtEnd : fMokV mX3_bouncesAtEnd 2 := ⟨⟨fTB_at 475 rfl rfl, fTB_at 55 rfl rfl, by decide +kernel, by decide +kernel, by decide +kernel⟩, fTB_at 474 rfl rfl, fTB_at 10 rfl rfl⟩
def mX3_meets : fM := (yX3_meets, cX3_meets, 13, (some .boolean), fLook flX3, fKon kcX3)
theorem bXX3_meets : fMb mX3_meets := ⟨flX3_ok, kcX3_ok, by decide +kernel⟩
set_option maxRecDepth 100000 in
theorem kX3_meets : fMokV mX3_meets 3 := ⟨⟨fTB_at 479 rfl rfl, fTB_at 55 rfl rfl, by decide +kernel, by decide +kernel, by decide +kernel⟩, fTB_at 478 rfl rfl, fTB_at 11 rfl rfl⟩
def mX3_overlaps : fM := (yX3_overlaps, cX3_overlaps, 15, (some .boolean), fLook flX3, fKon kcX3)
theorem bXX3_overlaps : fMb mX3_overlaps := ⟨flX3_ok, kcX3_ok, by decide +kernel⟩
set_option maxRecDepth 100000 in
theorem kX3_overlaps : fMokV mX3_overlaps 3 := ⟨⟨fTB_at 483 rfl rfl, fTB_at 55 rfl rfl, by decide +kernel, by decide +kernel, by decide +kernel⟩, fTB_at 482 rfl rfl, fTB_at 12 rfl rfl⟩
def mX4_has : fM := (yX4_has, cX4_has, 2, (some .boolean), fLook flX4, fKon kcX4)
theorem bXX4_has : fMb mX4_has := ⟨flX4_ok, kcX4_ok, by decide +kernel⟩
set_option maxRecDepth 100000 in
theorem kX4_has : fMokV mX4_has 1 := ⟨⟨fTB_at 341 rfl rfl, fTB_at 51 rfl rfl, by decide +kernel, by decide +kernel, by decide +kernel⟩, fTB_at 339 rfl rfl, fTB_at 340 rfl rfl⟩
def mX4_add : fM := (yX4_add, cX4_add, 3, (some .int), fLook flX4, fKon kcX4)
theorem bXX4_add : fMb mX4_add := ⟨flX4_ok, kcX4_ok, by decide +kernel⟩
set_option maxRecDepth 100000 in
theorem kX4_add : fMokV mX4_add 2 := ⟨⟨fTB_at 333 rfl rfl, fTB_at 51 rfl rfl, by decide +kernel, by decide +kernel, by decide +kernel⟩, fTB_at 331 rfl rfl, fTB_at 332 rfl rfl⟩
def mX5_clear : fM := (yX5_clear, cX5_clear, 1, none, fLook flX5, fKon kcX5)
theorem bXX5_clear : fMb mX5_clear := ⟨flX5_ok, kcX5_ok, by decide +kernel⟩
set_option maxRecDepth 100000 in
theorem kX5_clear : fMokV mX5_clear 0 := ⟨⟨fTB_at 545 rfl rfl, fTB_at 57 rfl rfl, by decide +kernel, by decide +kernel, by decide +kernel⟩, fTB_at 543 rfl rfl, fTB_at 544 rfl rfl⟩
def mX6_has : fM := (yX6_has, cX6_has, 2, (some .boolean), fLook flX6, fKon kcX6)
theorem bXX6_has : fMb mX6_has := ⟨flX6_ok, kcX6_ok, by decide +kernel⟩
set_option maxRecDepth 100000 in
theorem kX6_has : fMokV mX6_has 1 := ⟨⟨fTB_at 360 rfl rfl, fTB_at 52 rfl rfl, by decide +kernel, by decide +kernel, by decide +kernel⟩, fTB_at 358 rfl rfl, fTB_at 359 rfl rfl⟩
def mX6_add : fM := (yX6_add, cX6_add, 7, (some .int), fLook flX6, fKon kcX6)
theorem bXX6_add : fMb mX6_add := ⟨flX6_ok, kcX6_ok, by decide +kernel⟩
set_option maxRecDepth 100000 in
theorem kX6_add : fMokV mX6_add 5 := ⟨⟨fTB_at 348 rfl rfl, fTB_at 52 rfl rfl, by decide +kernel, by decide +kernel, by decide +kernel⟩, fTB_at 346 rfl rfl, fTB_at 347 rfl rfl⟩
def mX6_lengthOf : fM := (yX6_lengthOf, cX6_lengthOf, 2, (some .int), fLook flX6, fKon kcX6)
theorem bXX6_lengthOf : fMb mX6_lengthOf := ⟨flX6_ok, kcX6_ok, by decide +kernel⟩
set_option maxRecDepth 100000 in
theorem kX6_lengthOf : fMokV mX6_lengthOf 1 := ⟨⟨fTB_at 401 rfl rfl, fTB_at 52 rfl rfl, by decide +kernel, by decide +kernel, by decide +kernel⟩, fTB_at 399 rfl rfl, fTB_at 400 rfl rfl⟩
def mX7_stuff : fM := (yX7_stuff, cX7_stuff, 3, (some .int), fLook flX7, fKon kcX7)
theorem bXX7_stuff : fMb mX7_stuff := ⟨flX7_ok, kcX7_ok, by decide +kernel⟩
set_option maxRecDepth 100000 in
theorem kX7_stuff : fMokV mX7_stuff 2 := ⟨⟨fTB_at 326 rfl rfl, fTB_at 50 rfl rfl, by decide +kernel, by decide +kernel, by decide +kernel⟩, fTB_at 324 rfl rfl, fTB_at 325 rfl rfl⟩
def mX7_wall : fM := (yX7_wall, cX7_wall, 8, (some .int), fLook flX7, fKon kcX7)
theorem bXX7_wall : fMb mX7_wall := ⟨flX7_ok, kcX7_ok, by decide +kernel⟩
set_option maxRecDepth 100000 in
theorem kX7_wall : fMokV mX7_wall 5 := ⟨⟨fTB_at 337 rfl rfl, fTB_at 50 rfl rfl, by decide +kernel, by decide +kernel, by decide +kernel⟩, fTB_at 335 rfl rfl, fTB_at 336 rfl rfl⟩
def mX7_cover : fM := (yX7_cover, cX7_cover, 4, (some .int), fLook flX7, fKon kcX7)
theorem bXX7_cover : fMb mX7_cover := ⟨flX7_ok, kcX7_ok, by decide +kernel⟩
set_option maxRecDepth 100000 in
theorem kX7_cover : fMokV mX7_cover 2 := ⟨⟨fTB_at 356 rfl rfl, fTB_at 50 rfl rfl, by decide +kernel, by decide +kernel, by decide +kernel⟩, fTB_at 354 rfl rfl, fTB_at 355 rfl rfl⟩
def mX7_back : fM := (yX7_back, cX7_back, 1, (some .int), fLook flX7, fKon kcX7)
theorem bXX7_back : fMb mX7_back := ⟨flX7_ok, kcX7_ok, by decide +kernel⟩
set_option maxRecDepth 100000 in
theorem kX7_back : fMokV mX7_back 0 := ⟨⟨fTB_at 364 rfl rfl, fTB_at 50 rfl rfl, by decide +kernel, by decide +kernel, by decide +kernel⟩, fTB_at 362 rfl rfl, fTB_at 363 rfl rfl⟩
def mX7_source : fM := (yX7_source, cX7_source, 5, (some .int), fLook flX7, fKon kcX7)
theorem bXX7_source : fMb mX7_source := ⟨flX7_ok, kcX7_ok, by decide +kernel⟩
set_option maxRecDepth 100000 in
theorem kX7_source : fMokV mX7_source 3 := ⟨⟨fTB_at 368 rfl rfl, fTB_at 50 rfl rfl, by decide +kernel, by decide +kernel, by decide +kernel⟩, fTB_at 366 rfl rfl, fTB_at 367 rfl rfl⟩
def mX7_seat : fM := (yX7_seat, cX7_seat, 3, (some .int), fLook flX7, fKon kcX7)
theorem bXX7_seat : fMb mX7_seat := ⟨flX7_ok, kcX7_ok, by decide +kernel⟩
set_option maxRecDepth 100000 in
theorem kX7_seat : fMokV mX7_seat 2 := ⟨⟨fTB_at 384 rfl rfl, fTB_at 50 rfl rfl, by decide +kernel, by decide +kernel, by decide +kernel⟩, fTB_at 382 rfl rfl, fTB_at 383 rfl rfl⟩
def mX7_move : fM := (yX7_move, cX7_move, 6, (some .int), fLook flX7, fKon kcX7)
theorem bXX7_move : fMb mX7_move := ⟨flX7_ok, kcX7_ok, by decide +kernel⟩
set_option maxRecDepth 100000 in
theorem kX7_move : fMokV mX7_move 4 := ⟨⟨fTB_at 388 rfl rfl, fTB_at 50 rfl rfl, by decide +kernel, by decide +kernel, by decide +kernel⟩, fTB_at 386 rfl rfl, fTB_at 387 rfl rfl⟩
def mX7_rule : fM := (yX7_rule, cX7_rule, 4, (some .int), fLook flX7, fKon kcX7)
theorem bXX7_rule : fMb mX7_rule := ⟨flX7_ok, kcX7_ok, by decide +kernel⟩
set_option maxRecDepth 100000 in
theorem kX7_rule : fMokV mX7_rule 2 := ⟨⟨fTB_at 393 rfl rfl, fTB_at 50 rfl rfl, by decide +kernel, by decide +kernel, by decide +kernel⟩, fTB_at 391 rfl rfl, fTB_at 392 rfl rfl⟩
def mX7_told : fM := (yX7_told, cX7_told, 3, (some .int), fLook flX7, fKon kcX7)
theorem bXX7_told : fMb mX7_told := ⟨flX7_ok, kcX7_ok, by decide +kernel⟩
set_option maxRecDepth 100000 in
theorem kX7_told : fMokV mX7_told 2 := ⟨⟨fTB_at 397 rfl rfl, fTB_at 50 rfl rfl, by decide +kernel, by decide +kernel, by decide +kernel⟩, fTB_at 395 rfl rfl, fTB_at 396 rfl rfl⟩
def mX7_count : fM := (yX7_count, cX7_count, 2, (some .int), fLook flX7, fKon kcX7)
theorem bXX7_count : fMb mX7_count := ⟨flX7_ok, kcX7_ok, by decide +kernel⟩
set_option maxRecDepth 100000 in
theorem kX7_count : fMokV mX7_count 1 := ⟨⟨fTB_at 405 rfl rfl, fTB_at 50 rfl rfl, by decide +kernel, by decide +kernel, by decide +kernel⟩, fTB_at 403 rfl rfl, fTB_at 404 rfl rfl⟩
def mX7_paths : fM := (yX7_paths, cX7_paths, 4, (some .int), fLook flX7, fKon kcX7)
theorem bXX7_paths : fMb mX7_paths := ⟨flX7_ok, kcX7_ok, by decide +kernel⟩
set_option maxRecDepth 100000 in
theorem kX7_paths : fMokV mX7_paths 3 := ⟨⟨fTB_at 421 rfl rfl, fTB_at 50 rfl rfl, by decide +kernel, by decide +kernel, by decide +kernel⟩, fTB_at 419 rfl rfl, fTB_at 420 rfl rfl⟩
def mX7_path : fM := (yX7_path, cX7_path, 5, (some .long), fLook flX7, fKon kcX7)
theorem bXX7_path : fMb mX7_path := ⟨flX7_ok, kcX7_ok, by decide +kernel⟩
set_option maxRecDepth 100000 in
theorem kX7_path : fMokV mX7_path 4 := ⟨⟨fTB_at 503 rfl rfl, fTB_at 50 rfl rfl, by decide +kernel, by decide +kernel, by decide +kernel⟩, fTB_at 501 rfl rfl, fTB_at 502 rfl rfl⟩
def mX7_sees : fM := (yX7_sees, cX7_sees, 6, (some .int), fLook flX7, fKon kcX7)
theorem bXX7_sees : fMb mX7_sees := ⟨flX7_ok, kcX7_ok, by decide +kernel⟩
set_option maxRecDepth 100000 in
theorem kX7_sees : fMokV mX7_sees 5 := ⟨⟨fTB_at 525 rfl rfl, fTB_at 50 rfl rfl, by decide +kernel, by decide +kernel, by decide +kernel⟩, fTB_at 523 rfl rfl, fTB_at 524 rfl rfl⟩
def mX7_heard : fM := (yX7_heard, cX7_heard, 4, (some .long), fLook flX7, fKon kcX7)
theorem bXX7_heard : fMb mX7_heard := ⟨flX7_ok, kcX7_ok, by decide +kernel⟩
set_option maxRecDepth 100000 in
theorem kX7_heard : fMokV mX7_heard 3 := ⟨⟨fTB_at 537 rfl rfl, fTB_at 50 rfl rfl, by decide +kernel, by decide +kernel, by decide +kernel⟩, fTB_at 535 rfl rfl, fTB_at 536 rfl rfl⟩
def mX7_at : fM := (yX7_at, cX7_at, 7, (some .long), fLook flX7, fKon kcX7)
theorem bXX7_at : fMb mX7_at := ⟨flX7_ok, kcX7_ok, by decide +kernel⟩
set_option maxRecDepth 100000 in
theorem kX7_at : fMokV mX7_at 3 := ⟨⟨fTB_at 560 rfl rfl, fTB_at 50 rfl rfl, by decide +kernel, by decide +kernel, by decide +kernel⟩, fTB_at 558 rfl rfl, fTB_at 559 rfl rfl⟩
def mX7_left : fM := (yX7_left, cX7_left, 9, (some .long), fLook flX7, fKon kcX7)
theorem bXX7_left : fMb mX7_left := ⟨flX7_ok, kcX7_ok, by decide +kernel⟩
set_option maxRecDepth 100000 in
theorem kX7_left : fMokV mX7_left 2 := ⟨⟨fTB_at 564 rfl rfl, fTB_at 50 rfl rfl, by decide +kernel, by decide +kernel, by decide +kernel⟩, fTB_at 562 rfl rfl, fTB_at 563 rfl rfl⟩
def mX7_worst : fM := (yX7_worst, cX7_worst, 6, (some .int), fLook flX7, fKon kcX7)
theorem bXX7_worst : fMb mX7_worst := ⟨flX7_ok, kcX7_ok, by decide +kernel⟩
set_option maxRecDepth 100000 in
theorem kX7_worst : fMokV mX7_worst 1 := ⟨⟨fTB_at 569 rfl rfl, fTB_at 50 rfl rfl, by decide +kernel, by decide +kernel, by decide +kernel⟩, fTB_at 567 rfl rfl, fTB_at 568 rfl rfl⟩
def mX7_best : fM := (yX7_best, cX7_best, 6, (some .int), fLook flX7, fKon kcX7)
theorem bXX7_best : fMb mX7_best := ⟨flX7_ok, kcX7_ok, by decide +kernel⟩
set_option maxRecDepth 100000 in
theorem kX7_best : fMokV mX7_best 5 := ⟨⟨fTB_at 573 rfl rfl, fTB_at 50 rfl rfl, by decide +kernel, by decide +kernel, by decide +kernel⟩, fTB_at 571 rfl rfl, fTB_at 572 rfl rfl⟩
def mX7_isWithin : fM := (yX7_isWithin, cX7_isWithin, 3, (some .boolean), fLook flX7, fKon kcX7)
theorem bXX7_isWithin : fMb mX7_isWithin := ⟨flX7_ok, kcX7_ok, by decide +kernel⟩
set_option maxRecDepth 100000 in
theorem kX7_isWithin : fMokS mX7_isWithin 3 := ⟨⟨fTB_at 329 rfl rfl, fTB_at 50 rfl rfl, by decide +kernel, by decide +kernel, by decide +kernel⟩, fTB_at 328 rfl rfl⟩
def mX7_isPoint : fM := (yX7_isPoint, cX7_isPoint, 2, (some .boolean), fLook flX7, fKon kcX7)
theorem bXX7_isPoint : fMb mX7_isPoint := ⟨flX7_ok, kcX7_ok, by decide +kernel⟩
set_option maxRecDepth 100000 in
theorem kX7_isPoint : fMokS mX7_isPoint 2 := ⟨⟨fTB_at 344 rfl rfl, fTB_at 50 rfl rfl, by decide +kernel, by decide +kernel, by decide +kernel⟩, fTB_at 343 rfl rfl⟩
def mX7_areThere : fM := (yX7_areThere, cX7_areThere, 3, (some .boolean), fLook flX7, fKon kcX7)
theorem bXX7_areThere : fMb mX7_areThere := ⟨flX7_ok, kcX7_ok, by decide +kernel⟩
set_option maxRecDepth 100000 in
theorem kX7_areThere : fMokV mX7_areThere 2 := ⟨⟨fTB_at 425 rfl rfl, fTB_at 50 rfl rfl, by decide +kernel, by decide +kernel, by decide +kernel⟩, fTB_at 424 rfl rfl, fTB_at 3 rfl rfl⟩
def mX7_isWallOrNone : fM := (yX7_isWallOrNone, cX7_isWallOrNone, 2, (some .boolean), fLook flX7, fKon kcX7)
theorem bXX7_isWallOrNone : fMb mX7_isWallOrNone := ⟨flX7_ok, kcX7_ok, by decide +kernel⟩
set_option maxRecDepth 100000 in
theorem kX7_isWallOrNone : fMokV mX7_isWallOrNone 1 := ⟨⟨fTB_at 529 rfl rfl, fTB_at 50 rfl rfl, by decide +kernel, by decide +kernel, by decide +kernel⟩, fTB_at 528 rfl rfl, fTB_at 14 rfl rfl⟩
def mX7_isSet : fM := (yX7_isSet, cX7_isSet, 2, (some .boolean), fLook flX7, fKon kcX7)
theorem bXX7_isSet : fMb mX7_isSet := ⟨flX7_ok, kcX7_ok, by decide +kernel⟩
set_option maxRecDepth 100000 in
theorem kX7_isSet : fMokV mX7_isSet 1 := ⟨⟨fTB_at 577 rfl rfl, fTB_at 50 rfl rfl, by decide +kernel, by decide +kernel, by decide +kernel⟩, fTB_at 576 rfl rfl, fTB_at 18 rfl rfl⟩
def mX7_lineOfHall : fM := (yX7_lineOfHall, cX7_lineOfHall, 3, (some .int), fLook flX7, fKon kcX7)
theorem bXX7_lineOfHall : fMb mX7_lineOfHall := ⟨flX7_ok, kcX7_ok, by decide +kernel⟩
set_option maxRecDepth 100000 in
theorem kX7_lineOfHall : fMokV mX7_lineOfHall 0 := ⟨⟨fTB_at 409 rfl rfl, fTB_at 50 rfl rfl, by decide +kernel, by decide +kernel, by decide +kernel⟩, fTB_at 408 rfl rfl, fTB_at 0 rfl rfl⟩
def mX7_lostInHall : fM := (yX7_lostInHall, cX7_lostInHall, 3, (some .int), fLook flX7, fKon kcX7)
theorem bXX7_lostInHall : fMb mX7_lostInHall := ⟨flX7_ok, kcX7_ok, by decide +kernel⟩
set_option maxRecDepth 100000 in
theorem kX7_lostInHall : fMokV mX7_lostInHall 0 := ⟨⟨fTB_at 413 rfl rfl, fTB_at 50 rfl rfl, by decide +kernel, by decide +kernel, by decide +kernel⟩, fTB_at 412 rfl rfl, fTB_at 1 rfl rfl⟩
def mX7_decayOfHall : fM := (yX7_decayOfHall, cX7_decayOfHall, 2, (some .int), fLook flX7, fKon kcX7)
theorem bXX7_decayOfHall : fMb mX7_decayOfHall := ⟨flX7_ok, kcX7_ok, by decide +kernel⟩
set_option maxRecDepth 100000 in
theorem kX7_decayOfHall : fMokV mX7_decayOfHall 0 := ⟨⟨fTB_at 417 rfl rfl, fTB_at 50 rfl rfl, by decide +kernel, by decide +kernel, by decide +kernel⟩, fTB_at 416 rfl rfl, fTB_at 2 rfl rfl⟩
def mX7_startRoute : fM := (yX7_startRoute, cX7_startRoute, 3, none, fLook flX7, fKon kcX7)
theorem bXX7_startRoute : fMb mX7_startRoute := ⟨flX7_ok, kcX7_ok, by decide +kernel⟩
set_option maxRecDepth 100000 in
theorem kX7_startRoute : fMokV mX7_startRoute 2 := ⟨⟨fTB_at 437 rfl rfl, fTB_at 50 rfl rfl, by decide +kernel, by decide +kernel, by decide +kernel⟩, fTB_at 436 rfl rfl, fTB_at 5 rfl rfl⟩
def mX7_lengthenRoute : fM := (yX7_lengthenRoute, cX7_lengthenRoute, 2, none, fLook flX7, fKon kcX7)
theorem bXX7_lengthenRoute : fMb mX7_lengthenRoute := ⟨flX7_ok, kcX7_ok, by decide +kernel⟩
set_option maxRecDepth 100000 in
theorem kX7_lengthenRoute : fMokV mX7_lengthenRoute 1 := ⟨⟨fTB_at 533 rfl rfl, fTB_at 50 rfl rfl, by decide +kernel, by decide +kernel, by decide +kernel⟩, fTB_at 532 rfl rfl, fTB_at 15 rfl rfl⟩
def mX7_find : fM := (yX7_find, cX7_find, 6, none, fLook flX7, fKon kcX7)
theorem bXX7_find : fMb mX7_find := ⟨flX7_ok, kcX7_ok, by decide +kernel⟩
set_option maxRecDepth 100000 in
theorem kX7_find : fMokV mX7_find 4 := ⟨⟨fTB_at 429 rfl rfl, fTB_at 50 rfl rfl, by decide +kernel, by decide +kernel, by decide +kernel⟩, fTB_at 428 rfl rfl, fTB_at 4 rfl rfl⟩
def mX7_tryRows : fM := (yX7_tryRows, cX7_tryRows, 4, none, fLook flX7, fKon kcX7)
theorem bXX7_tryRows : fMb mX7_tryRows := ⟨flX7_ok, kcX7_ok, by decide +kernel⟩
set_option maxRecDepth 100000 in
theorem kX7_tryRows : fMokV mX7_tryRows 2 := ⟨⟨fTB_at 445 rfl rfl, fTB_at 50 rfl rfl, by decide +kernel, by decide +kernel, by decide +kernel⟩, fTB_at 444 rfl rfl, fTB_at 6 rfl rfl⟩
def mX7_energyOf : fM := (yX7_energyOf, cX7_energyOf, 8, (some .long), fLook flX7, fKon kcX7)
theorem bXX7_energyOf : fMb mX7_energyOf := ⟨flX7_ok, kcX7_ok, by decide +kernel⟩
set_option maxRecDepth 100000 in
theorem kX7_energyOf : fMokV mX7_energyOf 3 := ⟨⟨fTB_at 518 rfl rfl, fTB_at 50 rfl rfl, by decide +kernel, by decide +kernel, by decide +kernel⟩, fTB_at 517 rfl rfl, fTB_at 13 rfl rfl⟩
def mX7_isEarly : fM := (yX7_isEarly, cX7_isEarly, 2, (some .boolean), fLook flX7, fKon kcX7)
theorem bXX7_isEarly : fMb mX7_isEarly := ⟨flX7_ok, kcX7_ok, by decide +kernel⟩
set_option maxRecDepth 100000 in
theorem kX7_isEarly : fMokV mX7_isEarly 1 := ⟨⟨fTB_at 549 rfl rfl, fTB_at 50 rfl rfl, by decide +kernel, by decide +kernel, by decide +kernel⟩, fTB_at 548 rfl rfl, fTB_at 17 rfl rfl⟩
def mX7_sumUp : fM := (yX7_sumUp, cX7_sumUp, 5, none, fLook flX7, fKon kcX7)
theorem bXX7_sumUp : fMb mX7_sumUp := ⟨flX7_ok, kcX7_ok, by decide +kernel⟩
set_option maxRecDepth 100000 in
theorem kX7_sumUp : fMokV mX7_sumUp 1 := ⟨⟨fTB_at 541 rfl rfl, fTB_at 50 rfl rfl, by decide +kernel, by decide +kernel, by decide +kernel⟩, fTB_at 540 rfl rfl, fTB_at 16 rfl rfl⟩
def mX7_clarityOf : fM := (yX7_clarityOf, cX7_clarityOf, 6, (some .int), fLook flX7, fKon kcX7)
theorem bXX7_clarityOf : fMb mX7_clarityOf := ⟨flX7_ok, kcX7_ok, by decide +kernel⟩
set_option maxRecDepth 100000 in
theorem kX7_clarityOf : fMokS mX7_clarityOf 2 := ⟨⟨fTB_at 552 rfl rfl, fTB_at 50 rfl rfl, by decide +kernel, by decide +kernel, by decide +kernel⟩, fTB_at 551 rfl rfl⟩
def mX7_centreOf : fM := (yX7_centreOf, cX7_centreOf, 4, (some .long), fLook flX7, fKon kcX7)
theorem bXX7_centreOf : fMb mX7_centreOf := ⟨flX7_ok, kcX7_ok, by decide +kernel⟩
set_option maxRecDepth 100000 in
theorem kX7_centreOf : fMokS mX7_centreOf 2 := ⟨⟨fTB_at 556 rfl rfl, fTB_at 50 rfl rfl, by decide +kernel, by decide +kernel, by decide +kernel⟩, fTB_at 555 rfl rfl⟩
def mX7_choose : fM := (yX7_choose, cX7_choose, 6, none, fLook flX7, fKon kcX7)
theorem bXX7_choose : fMb mX7_choose := ⟨flX7_ok, kcX7_ok, by decide +kernel⟩
set_option maxRecDepth 100000 in
theorem kX7_choose : fMokV mX7_choose 2 := ⟨⟨fTB_at 601 rfl rfl, fTB_at 50 rfl rfl, by decide +kernel, by decide +kernel, by decide +kernel⟩, fTB_at 600 rfl rfl, fTB_at 20 rfl rfl⟩
def mX7_hearGroup : fM := (yX7_hearGroup, cX7_hearGroup, 10, none, fLook flX7, fKon kcX7)
theorem bXX7_hearGroup : fMb mX7_hearGroup := ⟨flX7_ok, kcX7_ok, by decide +kernel⟩
set_option maxRecDepth 100000 in
theorem kX7_hearGroup : fMokV mX7_hearGroup 1 := ⟨⟨fTB_at 605 rfl rfl, fTB_at 50 rfl rfl, by decide +kernel, by decide +kernel, by decide +kernel⟩, fTB_at 604 rfl rfl, fTB_at 21 rfl rfl⟩
def mX8_in : fM := (yX8_in, cX8_in, 6, (some .boolean), fLook flX8, fKon kcX8)
theorem bXX8_in : fMb mX8_in := ⟨flX8_ok, kcX8_ok, by decide +kernel⟩
set_option maxRecDepth 100000 in
theorem kX8_in : fMokS mX8_in 3 := ⟨⟨fTB_at 714 rfl rfl, fTB_at 59 rfl rfl, by decide +kernel, by decide +kernel, by decide +kernel⟩, fTB_at 713 rfl rfl⟩
def mX8_isPoint : fM := (yX8_isPoint, cX8_isPoint, 2, (some .boolean), fLook flX8, fKon kcX8)
theorem bXX8_isPoint : fMb mX8_isPoint := ⟨flX8_ok, kcX8_ok, by decide +kernel⟩
set_option maxRecDepth 100000 in
theorem kX8_isPoint : fMokS mX8_isPoint 2 := ⟨⟨fTB_at 726 rfl rfl, fTB_at 59 rfl rfl, by decide +kernel, by decide +kernel, by decide +kernel⟩, fTB_at 725 rfl rfl⟩
def mX8_stuff : fM := (yX8_stuff, cX8_stuff, 3, (some .int), fLook flX8, fKon kcX8)
theorem bXX8_stuff : fMb mX8_stuff := ⟨flX8_ok, kcX8_ok, by decide +kernel⟩
set_option maxRecDepth 100000 in
theorem kX8_stuff : fMokV mX8_stuff 2 := ⟨⟨fTB_at 710 rfl rfl, fTB_at 59 rfl rfl, by decide +kernel, by decide +kernel, by decide +kernel⟩, fTB_at 708 rfl rfl, fTB_at 709 rfl rfl⟩
def mX8_isStuff : fM := (yX8_isStuff, cX8_isStuff, 2, (some .boolean), fLook flX8, fKon kcX8)
theorem bXX8_isStuff : fMb mX8_isStuff := ⟨flX8_ok, kcX8_ok, by decide +kernel⟩
set_option maxRecDepth 100000 in
theorem kX8_isStuff : fMokV mX8_isStuff 1 := ⟨⟨fTB_at 723 rfl rfl, fTB_at 59 rfl rfl, by decide +kernel, by decide +kernel, by decide +kernel⟩, fTB_at 722 rfl rfl, fTB_at 22 rfl rfl⟩
def mX8_isWall : fM := (yX8_isWall, cX8_isWall, 2, (some .boolean), fLook flX8, fKon kcX8)
theorem bXX8_isWall : fMb mX8_isWall := ⟨flX8_ok, kcX8_ok, by decide +kernel⟩
set_option maxRecDepth 100000 in
theorem kX8_isWall : fMokV mX8_isWall 1 := ⟨⟨fTB_at 734 rfl rfl, fTB_at 59 rfl rfl, by decide +kernel, by decide +kernel, by decide +kernel⟩, fTB_at 733 rfl rfl, fTB_at 23 rfl rfl⟩
def mX8_wall : fM := (yX8_wall, cX8_wall, 6, (some .int), fLook flX8, fKon kcX8)
theorem bXX8_wall : fMb mX8_wall := ⟨flX8_ok, kcX8_ok, by decide +kernel⟩
set_option maxRecDepth 100000 in
theorem kX8_wall : fMokV mX8_wall 5 := ⟨⟨fTB_at 719 rfl rfl, fTB_at 59 rfl rfl, by decide +kernel, by decide +kernel, by decide +kernel⟩, fTB_at 717 rfl rfl, fTB_at 718 rfl rfl⟩
def mX8_cover : fM := (yX8_cover, cX8_cover, 4, (some .int), fLook flX8, fKon kcX8)
theorem bXX8_cover : fMb mX8_cover := ⟨flX8_ok, kcX8_ok, by decide +kernel⟩
set_option maxRecDepth 100000 in
theorem kX8_cover : fMokV mX8_cover 2 := ⟨⟨fTB_at 730 rfl rfl, fTB_at 59 rfl rfl, by decide +kernel, by decide +kernel, by decide +kernel⟩, fTB_at 728 rfl rfl, fTB_at 729 rfl rfl⟩
def mX8_back : fM := (yX8_back, cX8_back, 1, (some .int), fLook flX8, fKon kcX8)
theorem bXX8_back : fMb mX8_back := ⟨flX8_ok, kcX8_ok, by decide +kernel⟩
set_option maxRecDepth 100000 in
theorem kX8_back : fMokV mX8_back 0 := ⟨⟨fTB_at 738 rfl rfl, fTB_at 59 rfl rfl, by decide +kernel, by decide +kernel, by decide +kernel⟩, fTB_at 736 rfl rfl, fTB_at 737 rfl rfl⟩
def mX8_source : fM := (yX8_source, cX8_source, 4, (some .int), fLook flX8, fKon kcX8)
theorem bXX8_source : fMb mX8_source := ⟨flX8_ok, kcX8_ok, by decide +kernel⟩
set_option maxRecDepth 100000 in
theorem kX8_source : fMokV mX8_source 3 := ⟨⟨fTB_at 742 rfl rfl, fTB_at 59 rfl rfl, by decide +kernel, by decide +kernel, by decide +kernel⟩, fTB_at 740 rfl rfl, fTB_at 741 rfl rfl⟩
def mX8_seat : fM := (yX8_seat, cX8_seat, 3, (some .int), fLook flX8, fKon kcX8)
theorem bXX8_seat : fMb mX8_seat := ⟨flX8_ok, kcX8_ok, by decide +kernel⟩
set_option maxRecDepth 100000 in
theorem kX8_seat : fMokV mX8_seat 2 := ⟨⟨fTB_at 746 rfl rfl, fTB_at 59 rfl rfl, by decide +kernel, by decide +kernel, by decide +kernel⟩, fTB_at 744 rfl rfl, fTB_at 745 rfl rfl⟩
def mX8_isSource : fM := (yX8_isSource, cX8_isSource, 2, (some .boolean), fLook flX8, fKon kcX8)
theorem bXX8_isSource : fMb mX8_isSource := ⟨flX8_ok, kcX8_ok, by decide +kernel⟩
set_option maxRecDepth 100000 in
theorem kX8_isSource : fMokV mX8_isSource 1 := ⟨⟨fTB_at 754 rfl rfl, fTB_at 59 rfl rfl, by decide +kernel, by decide +kernel, by decide +kernel⟩, fTB_at 753 rfl rfl, fTB_at 24 rfl rfl⟩
def mX8_isSeat : fM := (yX8_isSeat, cX8_isSeat, 2, (some .boolean), fLook flX8, fKon kcX8)
theorem bXX8_isSeat : fMb mX8_isSeat := ⟨flX8_ok, kcX8_ok, by decide +kernel⟩
set_option maxRecDepth 100000 in
theorem kX8_isSeat : fMokV mX8_isSeat 1 := ⟨⟨fTB_at 758 rfl rfl, fTB_at 59 rfl rfl, by decide +kernel, by decide +kernel, by decide +kernel⟩, fTB_at 757 rfl rfl, fTB_at 25 rfl rfl⟩
def mX8_move : fM := (yX8_move, cX8_move, 5, (some .int), fLook flX8, fKon kcX8)
theorem bXX8_move : fMb mX8_move := ⟨flX8_ok, kcX8_ok, by decide +kernel⟩
set_option maxRecDepth 100000 in
theorem kX8_move : fMokV mX8_move 4 := ⟨⟨fTB_at 750 rfl rfl, fTB_at 59 rfl rfl, by decide +kernel, by decide +kernel, by decide +kernel⟩, fTB_at 748 rfl rfl, fTB_at 749 rfl rfl⟩
def mX8_rule : fM := (yX8_rule, cX8_rule, 4, (some .int), fLook flX8, fKon kcX8)
theorem bXX8_rule : fMb mX8_rule := ⟨flX8_ok, kcX8_ok, by decide +kernel⟩
set_option maxRecDepth 100000 in
theorem kX8_rule : fMokV mX8_rule 2 := ⟨⟨fTB_at 762 rfl rfl, fTB_at 59 rfl rfl, by decide +kernel, by decide +kernel, by decide +kernel⟩, fTB_at 760 rfl rfl, fTB_at 761 rfl rfl⟩
def mX8_size : fM := (yX8_size, cX8_size, 1, (some .int), fLook flX8, fKon kcX8)
theorem bXX8_size : fMb mX8_size := ⟨flX8_ok, kcX8_ok, by decide +kernel⟩
set_option maxRecDepth 100000 in
theorem kX8_size : fMokS mX8_size 1 := ⟨⟨fTB_at 775 rfl rfl, fTB_at 59 rfl rfl, by decide +kernel, by decide +kernel, by decide +kernel⟩, fTB_at 774 rfl rfl⟩
def mX8_lengthOf : fM := (yX8_lengthOf, cX8_lengthOf, 2, (some .int), fLook flX8, fKon kcX8)
theorem bXX8_lengthOf : fMb mX8_lengthOf := ⟨flX8_ok, kcX8_ok, by decide +kernel⟩
set_option maxRecDepth 100000 in
theorem kX8_lengthOf : fMokV mX8_lengthOf 1 := ⟨⟨fTB_at 772 rfl rfl, fTB_at 59 rfl rfl, by decide +kernel, by decide +kernel, by decide +kernel⟩, fTB_at 771 rfl rfl, fTB_at 26 rfl rfl⟩
def mX8_told : fM := (yX8_told, cX8_told, 3, (some .int), fLook flX8, fKon kcX8)
theorem bXX8_told : fMb mX8_told := ⟨flX8_ok, kcX8_ok, by decide +kernel⟩
set_option maxRecDepth 100000 in
theorem kX8_told : fMokV mX8_told 2 := ⟨⟨fTB_at 767 rfl rfl, fTB_at 59 rfl rfl, by decide +kernel, by decide +kernel, by decide +kernel⟩, fTB_at 765 rfl rfl, fTB_at 766 rfl rfl⟩
def mX8_line : fM := (yX8_line, cX8_line, 3, (some .int), fLook flX8, fKon kcX8)
theorem bXX8_line : fMb mX8_line := ⟨flX8_ok, kcX8_ok, by decide +kernel⟩
set_option maxRecDepth 100000 in
theorem kX8_line : fMokV mX8_line 0 := ⟨⟨fTB_at 783 rfl rfl, fTB_at 59 rfl rfl, by decide +kernel, by decide +kernel, by decide +kernel⟩, fTB_at 782 rfl rfl, fTB_at 27 rfl rfl⟩
def mX8_lost : fM := (yX8_lost, cX8_lost, 3, (some .int), fLook flX8, fKon kcX8)
theorem bXX8_lost : fMb mX8_lost := ⟨flX8_ok, kcX8_ok, by decide +kernel⟩
set_option maxRecDepth 100000 in
theorem kX8_lost : fMokV mX8_lost 0 := ⟨⟨fTB_at 787 rfl rfl, fTB_at 59 rfl rfl, by decide +kernel, by decide +kernel, by decide +kernel⟩, fTB_at 786 rfl rfl, fTB_at 28 rfl rfl⟩
def mX8_decay : fM := (yX8_decay, cX8_decay, 1, (some .int), fLook flX8, fKon kcX8)
theorem bXX8_decay : fMb mX8_decay := ⟨flX8_ok, kcX8_ok, by decide +kernel⟩
set_option maxRecDepth 100000 in
theorem kX8_decay : fMokV mX8_decay 0 := ⟨⟨fTB_at 791 rfl rfl, fTB_at 59 rfl rfl, by decide +kernel, by decide +kernel, by decide +kernel⟩, fTB_at 790 rfl rfl, fTB_at 29 rfl rfl⟩
def mX8_count : fM := (yX8_count, cX8_count, 2, (some .int), fLook flX8, fKon kcX8)
theorem bXX8_count : fMb mX8_count := ⟨flX8_ok, kcX8_ok, by decide +kernel⟩
set_option maxRecDepth 100000 in
theorem kX8_count : fMokV mX8_count 1 := ⟨⟨fTB_at 779 rfl rfl, fTB_at 59 rfl rfl, by decide +kernel, by decide +kernel, by decide +kernel⟩, fTB_at 777 rfl rfl, fTB_at 778 rfl rfl⟩
def mX8_axisOf : fM := (yX8_axisOf, cX8_axisOf, 2, (some .int), fLook flX8, fKon kcX8)
theorem bXX8_axisOf : fMb mX8_axisOf := ⟨flX8_ok, kcX8_ok, by decide +kernel⟩
set_option maxRecDepth 100000 in
theorem kX8_axisOf : fMokV mX8_axisOf 1 := ⟨⟨fTB_at 820 rfl rfl, fTB_at 59 rfl rfl, by decide +kernel, by decide +kernel, by decide +kernel⟩, fTB_at 819 rfl rfl, fTB_at 35 rfl rfl⟩
def mX8_lineOf : fM := (yX8_lineOf, cX8_lineOf, 2, (some .int), fLook flX8, fKon kcX8)
theorem bXX8_lineOf : fMb mX8_lineOf := ⟨flX8_ok, kcX8_ok, by decide +kernel⟩
set_option maxRecDepth 100000 in
theorem kX8_lineOf : fMokV mX8_lineOf 1 := ⟨⟨fTB_at 825 rfl rfl, fTB_at 59 rfl rfl, by decide +kernel, by decide +kernel, by decide +kernel⟩, fTB_at 824 rfl rfl, fTB_at 36 rfl rfl⟩
def mX8_lowOf : fM := (yX8_lowOf, cX8_lowOf, 3, (some .int), fLook flX8, fKon kcX8)
theorem bXX8_lowOf : fMb mX8_lowOf := ⟨flX8_ok, kcX8_ok, by decide +kernel⟩
set_option maxRecDepth 100000 in
theorem kX8_lowOf : fMokV mX8_lowOf 1 := ⟨⟨fTB_at 841 rfl rfl, fTB_at 59 rfl rfl, by decide +kernel, by decide +kernel, by decide +kernel⟩, fTB_at 840 rfl rfl, fTB_at 40 rfl rfl⟩
def mX8_highOf : fM := (yX8_highOf, cX8_highOf, 2, (some .int), fLook flX8, fKon kcX8)
theorem bXX8_highOf : fMb mX8_highOf := ⟨flX8_ok, kcX8_ok, by decide +kernel⟩
set_option maxRecDepth 100000 in
theorem kX8_highOf : fMokV mX8_highOf 1 := ⟨⟨fTB_at 845 rfl rfl, fTB_at 59 rfl rfl, by decide +kernel, by decide +kernel, by decide +kernel⟩, fTB_at 844 rfl rfl, fTB_at 41 rfl rfl⟩
def mX8_placeAt : fM := (yX8_placeAt, cX8_placeAt, 7, (some .long), fLook flX8, fKon kcX8)
theorem bXX8_placeAt : fMb mX8_placeAt := ⟨flX8_ok, kcX8_ok, by decide +kernel⟩
set_option maxRecDepth 100000 in
theorem kX8_placeAt : fMokV mX8_placeAt 4 := ⟨⟨fTB_at 837 rfl rfl, fTB_at 59 rfl rfl, by decide +kernel, by decide +kernel, by decide +kernel⟩, fTB_at 836 rfl rfl, fTB_at 39 rfl rfl⟩
def mX8_cross : fM := (yX8_cross, cX8_cross, 6, (some .boolean), fLook flX8, fKon kcX8)
theorem bXX8_cross : fMb mX8_cross := ⟨flX8_ok, kcX8_ok, by decide +kernel⟩
set_option maxRecDepth 100000 in
theorem kX8_cross : fMokV mX8_cross 2 := ⟨⟨fTB_at 829 rfl rfl, fTB_at 59 rfl rfl, by decide +kernel, by decide +kernel, by decide +kernel⟩, fTB_at 828 rfl rfl, fTB_at 37 rfl rfl⟩
def mX8_isOnAt : fM := (yX8_isOnAt, cX8_isOnAt, 9, (some .boolean), fLook flX8, fKon kcX8)
theorem bXX8_isOnAt : fMb mX8_isOnAt := ⟨flX8_ok, kcX8_ok, by decide +kernel⟩
set_option maxRecDepth 100000 in
theorem kX8_isOnAt : fMokV mX8_isOnAt 4 := ⟨⟨fTB_at 833 rfl rfl, fTB_at 59 rfl rfl, by decide +kernel, by decide +kernel, by decide +kernel⟩, fTB_at 832 rfl rfl, fTB_at 38 rfl rfl⟩
def mX8_findBounces : fM := (yX8_findBounces, cX8_findBounces, 12, (some .boolean), fLook flX8, fKon kcX8)
theorem bXX8_findBounces : fMb mX8_findBounces := ⟨flX8_ok, kcX8_ok, by decide +kernel⟩
set_option maxRecDepth 100000 in
theorem kX8_findBounces : fMokV mX8_findBounces 2 := ⟨⟨fTB_at 816 rfl rfl, fTB_at 59 rfl rfl, by decide +kernel, by decide +kernel, by decide +kernel⟩, fTB_at 815 rfl rfl, fTB_at 34 rfl rfl⟩
def mX8_meets : fM := (yX8_meets, cX8_meets, 18, (some .boolean), fLook flX8, fKon kcX8)
theorem bXX8_meets : fMb mX8_meets := ⟨flX8_ok, kcX8_ok, by decide +kernel⟩
set_option maxRecDepth 100000 in
theorem kX8_meets : fMokV mX8_meets 2 := ⟨⟨fTB_at 853 rfl rfl, fTB_at 59 rfl rfl, by decide +kernel, by decide +kernel, by decide +kernel⟩, fTB_at 852 rfl rfl, fTB_at 43 rfl rfl⟩
def mX8_isSeen : fM := (yX8_isSeen, cX8_isSeen, 4, (some .boolean), fLook flX8, fKon kcX8)
theorem bXX8_isSeen : fMb mX8_isSeen := ⟨flX8_ok, kcX8_ok, by decide +kernel⟩
set_option maxRecDepth 100000 in
theorem kX8_isSeen : fMokV mX8_isSeen 0 := ⟨⟨fTB_at 849 rfl rfl, fTB_at 59 rfl rfl, by decide +kernel, by decide +kernel, by decide +kernel⟩, fTB_at 848 rfl rfl, fTB_at 42 rfl rfl⟩
def mX8_tryRow : fM := (yX8_tryRow, cX8_tryRow, 4, none, fLook flX8, fKon kcX8)
theorem bXX8_tryRow : fMb mX8_tryRow := ⟨flX8_ok, kcX8_ok, by decide +kernel⟩
set_option maxRecDepth 100000 in
theorem kX8_tryRow : fMokV mX8_tryRow 3 := ⟨⟨fTB_at 812 rfl rfl, fTB_at 59 rfl rfl, by decide +kernel, by decide +kernel, by decide +kernel⟩, fTB_at 811 rfl rfl, fTB_at 33 rfl rfl⟩
def mX8_findOrder : fM := (yX8_findOrder, cX8_findOrder, 8, none, fLook flX8, fKon kcX8)
theorem bXX8_findOrder : fMb mX8_findOrder := ⟨flX8_ok, kcX8_ok, by decide +kernel⟩
set_option maxRecDepth 100000 in
theorem kX8_findOrder : fMokV mX8_findOrder 3 := ⟨⟨fTB_at 808 rfl rfl, fTB_at 59 rfl rfl, by decide +kernel, by decide +kernel, by decide +kernel⟩, fTB_at 807 rfl rfl, fTB_at 32 rfl rfl⟩
def mX8_findPaths : fM := (yX8_findPaths, cX8_findPaths, 4, none, fLook flX8, fKon kcX8)
theorem bXX8_findPaths : fMb mX8_findPaths := ⟨flX8_ok, kcX8_ok, by decide +kernel⟩
set_option maxRecDepth 100000 in
theorem kX8_findPaths : fMokV mX8_findPaths 2 := ⟨⟨fTB_at 804 rfl rfl, fTB_at 59 rfl rfl, by decide +kernel, by decide +kernel, by decide +kernel⟩, fTB_at 803 rfl rfl, fTB_at 31 rfl rfl⟩
def mX8_wallOf : fM := (yX8_wallOf, cX8_wallOf, 6, (some .int), fLook flX8, fKon kcX8)
theorem bXX8_wallOf : fMb mX8_wallOf := ⟨flX8_ok, kcX8_ok, by decide +kernel⟩
set_option maxRecDepth 100000 in
theorem kX8_wallOf : fMokV mX8_wallOf 2 := ⟨⟨fTB_at 864 rfl rfl, fTB_at 59 rfl rfl, by decide +kernel, by decide +kernel, by decide +kernel⟩, fTB_at 863 rfl rfl, fTB_at 44 rfl rfl⟩
def mX8_energyOf : fM := (yX8_energyOf, cX8_energyOf, 6, (some .long), fLook flX8, fKon kcX8)
theorem bXX8_energyOf : fMb mX8_energyOf := ⟨flX8_ok, kcX8_ok, by decide +kernel⟩
set_option maxRecDepth 100000 in
theorem kX8_energyOf : fMokV mX8_energyOf 2 := ⟨⟨fTB_at 868 rfl rfl, fTB_at 59 rfl rfl, by decide +kernel, by decide +kernel, by decide +kernel⟩, fTB_at 867 rfl rfl, fTB_at 45 rfl rfl⟩
def mX8_tickOf : fM := (yX8_tickOf, cX8_tickOf, 6, (some .int), fLook flX8, fKon kcX8)
theorem bXX8_tickOf : fMb mX8_tickOf := ⟨flX8_ok, kcX8_ok, by decide +kernel⟩
set_option maxRecDepth 100000 in
theorem kX8_tickOf : fMokV mX8_tickOf 1 := ⟨⟨fTB_at 873 rfl rfl, fTB_at 59 rfl rfl, by decide +kernel, by decide +kernel, by decide +kernel⟩, fTB_at 872 rfl rfl, fTB_at 46 rfl rfl⟩
def mX8_areThere : fM := (yX8_areThere, cX8_areThere, 3, (some .boolean), fLook flX8, fKon kcX8)
theorem bXX8_areThere : fMb mX8_areThere := ⟨flX8_ok, kcX8_ok, by decide +kernel⟩
set_option maxRecDepth 100000 in
theorem kX8_areThere : fMokV mX8_areThere 2 := ⟨⟨fTB_at 799 rfl rfl, fTB_at 59 rfl rfl, by decide +kernel, by decide +kernel, by decide +kernel⟩, fTB_at 798 rfl rfl, fTB_at 30 rfl rfl⟩
def mX8_paths : fM := (yX8_paths, cX8_paths, 4, (some .int), fLook flX8, fKon kcX8)
theorem bXX8_paths : fMb mX8_paths := ⟨flX8_ok, kcX8_ok, by decide +kernel⟩
set_option maxRecDepth 100000 in
theorem kX8_paths : fMokV mX8_paths 3 := ⟨⟨fTB_at 795 rfl rfl, fTB_at 59 rfl rfl, by decide +kernel, by decide +kernel, by decide +kernel⟩, fTB_at 793 rfl rfl, fTB_at 794 rfl rfl⟩
def mX8_path : fM := (yX8_path, cX8_path, 5, (some .long), fLook flX8, fKon kcX8)
theorem bXX8_path : fMb mX8_path := ⟨flX8_ok, kcX8_ok, by decide +kernel⟩
set_option maxRecDepth 100000 in
theorem kX8_path : fMokV mX8_path 4 := ⟨⟨fTB_at 857 rfl rfl, fTB_at 59 rfl rfl, by decide +kernel, by decide +kernel, by decide +kernel⟩, fTB_at 855 rfl rfl, fTB_at 856 rfl rfl⟩
def mX8_sees : fM := (yX8_sees, cX8_sees, 7, (some .int), fLook flX8, fKon kcX8)
theorem bXX8_sees : fMb mX8_sees := ⟨flX8_ok, kcX8_ok, by decide +kernel⟩
set_option maxRecDepth 100000 in
theorem kX8_sees : fMokV mX8_sees 5 := ⟨⟨fTB_at 879 rfl rfl, fTB_at 59 rfl rfl, by decide +kernel, by decide +kernel, by decide +kernel⟩, fTB_at 877 rfl rfl, fTB_at 878 rfl rfl⟩
def mX8_leastTick : fM := (yX8_leastTick, cX8_leastTick, 3, (some .int), fLook flX8, fKon kcX8)
theorem bXX8_leastTick : fMb mX8_leastTick := ⟨flX8_ok, kcX8_ok, by decide +kernel⟩
set_option maxRecDepth 100000 in
theorem kX8_leastTick : fMokV mX8_leastTick 0 := ⟨⟨fTB_at 892 rfl rfl, fTB_at 59 rfl rfl, by decide +kernel, by decide +kernel, by decide +kernel⟩, fTB_at 891 rfl rfl, fTB_at 48 rfl rfl⟩
def mX8_heardBy : fM := (yX8_heardBy, cX8_heardBy, 14, (some .long), fLook flX8, fKon kcX8)
theorem bXX8_heardBy : fMb mX8_heardBy := ⟨flX8_ok, kcX8_ok, by decide +kernel⟩
set_option maxRecDepth 100000 in
theorem kX8_heardBy : fMokV mX8_heardBy 2 := ⟨⟨fTB_at 888 rfl rfl, fTB_at 59 rfl rfl, by decide +kernel, by decide +kernel, by decide +kernel⟩, fTB_at 887 rfl rfl, fTB_at 47 rfl rfl⟩
def mX8_heard : fM := (yX8_heard, cX8_heard, 4, (some .long), fLook flX8, fKon kcX8)
theorem bXX8_heard : fMb mX8_heard := ⟨flX8_ok, kcX8_ok, by decide +kernel⟩
set_option maxRecDepth 100000 in
theorem kX8_heard : fMokV mX8_heard 3 := ⟨⟨fTB_at 883 rfl rfl, fTB_at 59 rfl rfl, by decide +kernel, by decide +kernel, by decide +kernel⟩, fTB_at 881 rfl rfl, fTB_at 882 rfl rfl⟩
def mX8_at : fM := (yX8_at, cX8_at, 7, (some .long), fLook flX8, fKon kcX8)
theorem bXX8_at : fMb mX8_at := ⟨flX8_ok, kcX8_ok, by decide +kernel⟩
set_option maxRecDepth 100000 in
theorem kX8_at : fMokV mX8_at 3 := ⟨⟨fTB_at 896 rfl rfl, fTB_at 59 rfl rfl, by decide +kernel, by decide +kernel, by decide +kernel⟩, fTB_at 894 rfl rfl, fTB_at 895 rfl rfl⟩
def mX8_left : fM := (yX8_left, cX8_left, 9, (some .long), fLook flX8, fKon kcX8)
theorem bXX8_left : fMb mX8_left := ⟨flX8_ok, kcX8_ok, by decide +kernel⟩
set_option maxRecDepth 100000 in
theorem kX8_left : fMokV mX8_left 2 := ⟨⟨fTB_at 901 rfl rfl, fTB_at 59 rfl rfl, by decide +kernel, by decide +kernel, by decide +kernel⟩, fTB_at 899 rfl rfl, fTB_at 900 rfl rfl⟩
def mX8_worst : fM := (yX8_worst, cX8_worst, 8, (some .int), fLook flX8, fKon kcX8)
theorem bXX8_worst : fMb mX8_worst := ⟨flX8_ok, kcX8_ok, by decide +kernel⟩
set_option maxRecDepth 100000 in
theorem kX8_worst : fMokV mX8_worst 1 := ⟨⟨fTB_at 906 rfl rfl, fTB_at 59 rfl rfl, by decide +kernel, by decide +kernel, by decide +kernel⟩, fTB_at 904 rfl rfl, fTB_at 905 rfl rfl⟩
def mX8_bits : fM := (yX8_bits, cX8_bits, 3, (some .int), fLook flX8, fKon kcX8)
theorem bXX8_bits : fMb mX8_bits := ⟨flX8_ok, kcX8_ok, by decide +kernel⟩
set_option maxRecDepth 100000 in
theorem kX8_bits : fMokS mX8_bits 1 := ⟨⟨fTB_at 913 rfl rfl, fTB_at 59 rfl rfl, by decide +kernel, by decide +kernel, by decide +kernel⟩, fTB_at 912 rfl rfl⟩
def mX8_best : fM := (yX8_best, cX8_best, 17, (some .int), fLook flX8, fKon kcX8)
theorem bXX8_best : fMb mX8_best := ⟨flX8_ok, kcX8_ok, by decide +kernel⟩
set_option maxRecDepth 100000 in
theorem kX8_best : fMokV mX8_best 5 := ⟨⟨fTB_at 910 rfl rfl, fTB_at 59 rfl rfl, by decide +kernel, by decide +kernel, by decide +kernel⟩, fTB_at 908 rfl rfl, fTB_at 909 rfl rfl⟩
def mJ6_bitCount_0f7a4 : fM := (yJ6_bitCount_0f7a4, cJ6_bitCount_0f7a4, 1, (some .int), fLook flJ6, fKon kcJ6)
theorem bXJ6_bitCount_0f7a4 : fMb mJ6_bitCount_0f7a4 := ⟨flJ6_ok, kcJ6_ok, by decide +kernel⟩
set_option maxRecDepth 100000 in
theorem kJ6_bitCount_0f7a4 : fMokS mJ6_bitCount_0f7a4 1 := ⟨⟨fTB_at 580 rfl rfl, fTB_at 60 rfl rfl, by decide +kernel, by decide +kernel, by decide +kernel⟩, fTB_at 579 rfl rfl⟩
def mJ9_abs_067f4 : fM := (yJ9_abs_067f4, cJ9_abs_067f4, 2, (some .long), fLook flJ9, fKon kcJ9)
set_option maxRecDepth 100000 in
theorem kJ9_abs_067f4 : fMokS mJ9_abs_067f4 1 := ⟨⟨fTB_at 456 rfl rfl, fTB_at 54 rfl rfl, by decide +kernel, by decide +kernel, by decide +kernel⟩, fTB_at 455 rfl rfl⟩
def mJ9_max_7cf53 : fM := (yJ9_max_7cf53, cJ9_max_7cf53, 2, (some .int), fLook flJ9, fKon kcJ9)
set_option maxRecDepth 100000 in
theorem kJ9_max_7cf53 : fMokS mJ9_max_7cf53 2 := ⟨⟨fTB_at 134 rfl rfl, fTB_at 54 rfl rfl, by decide +kernel, by decide +kernel, by decide +kernel⟩, fTB_at 133 rfl rfl⟩
def mJ9_min_7cf53 : fM := (yJ9_min_7cf53, cJ9_min_7cf53, 2, (some .int), fLook flJ9, fKon kcJ9)
set_option maxRecDepth 100000 in
theorem kJ9_min_7cf53 : fMokS mJ9_min_7cf53 2 := ⟨⟨fTB_at 351 rfl rfl, fTB_at 54 rfl rfl, by decide +kernel, by decide +kernel, by decide +kernel⟩, fTB_at 350 rfl rfl⟩
def mL_law : fM := (yL_law, cL_law, 4, (some .boolean), fLook flL, fKon kcL)
theorem bXL_law : fMb mL_law := ⟨flL_ok, kcL_ok, by decide +kernel⟩
end
section
/-! Math's methods, by the kit's rows -/
section MathRules
variable {G : fG} {M : fM} {Z : fZ} {pc : Nat} {L : fL} {S : fS} {x y : Int32} {u : Int64} {r : List Value} {idx : Nat}
theorem fV.mmax (hd : decode M.2.1 pc = .ok (.invokestatic idx, 3)) (hlink : Cond.methodLink M.1.cls idx yJ9_max_7cf53 ∈ fTB) (hf : 1 ≤ Z.2.1.frames ∧ (r.map fun v => v.category).sum + 13 ≤ Z.2.1.locals ∧ Z.2.2.2.1.1 ≤ Z.2.1.cells ∧ Z.2.2.2.1.2 ≤ Z.2.1.slots) (k : fV G M Z (pc + 3) L (.int (if x < y then y else x) :: r) S) : fV G M Z pc L (.int y :: .int x :: r) S :=
  fun p e s m args below meth c X h1 h2 h3 h4 H locs ls g1 g2 g3 => va_mmax X.1 X.2.1 (h1.trans g3.1.symm) X.2.2.1 (X.2.2.2.1 _ hlink) (X.2.2.2.1 _ kJ9_max_7cf53.2) (X.2.2.2.1 _ kJ9_max_7cf53.1.2.1) (X.2.2.2.1 _ kJ9_max_7cf53.1.1) hf.1 (by rw [fCat]; exact hf.2.1) hf.2.2.1 hf.2.2.2 hd (k p e s m args below meth c X h1 h2 h3 h4 H locs ls g1 g2 g3)
theorem fV.mmin (hd : decode M.2.1 pc = .ok (.invokestatic idx, 3)) (hlink : Cond.methodLink M.1.cls idx yJ9_min_7cf53 ∈ fTB) (hf : 1 ≤ Z.2.1.frames ∧ (r.map fun v => v.category).sum + 13 ≤ Z.2.1.locals ∧ Z.2.2.2.1.1 ≤ Z.2.1.cells ∧ Z.2.2.2.1.2 ≤ Z.2.1.slots) (k : fV G M Z (pc + 3) L (.int (if y < x then y else x) :: r) S) : fV G M Z pc L (.int y :: .int x :: r) S :=
  fun p e s m args below meth c X h1 h2 h3 h4 H locs ls g1 g2 g3 => va_mmin X.1 X.2.1 (h1.trans g3.1.symm) X.2.2.1 (X.2.2.2.1 _ hlink) (X.2.2.2.1 _ kJ9_min_7cf53.2) (X.2.2.2.1 _ kJ9_min_7cf53.1.2.1) (X.2.2.2.1 _ kJ9_min_7cf53.1.1) hf.1 (by rw [fCat]; exact hf.2.1) hf.2.2.1 hf.2.2.2 hd (k p e s m args below meth c X h1 h2 h3 h4 H locs ls g1 g2 g3)
theorem fV.mabs (hd : decode M.2.1 pc = .ok (.invokestatic idx, 3)) (hlink : Cond.methodLink M.1.cls idx yJ9_abs_067f4 ∈ fTB) (hf : 1 ≤ Z.2.1.frames ∧ (r.map fun v => v.category).sum + 20 ≤ Z.2.1.locals ∧ Z.2.2.2.1.1 ≤ Z.2.1.cells ∧ Z.2.2.2.1.2 ≤ Z.2.1.slots) (k : fV G M Z (pc + 3) L (.long (if 0 < u then u else -u) :: r) S) : fV G M Z pc L (.long u :: r) S :=
  fun p e s m args below meth c X h1 h2 h3 h4 H locs ls g1 g2 g3 => va_mabs_long X.1 X.2.1 (h1.trans g3.1.symm) X.2.2.1 (X.2.2.2.1 _ hlink) (X.2.2.2.1 _ kJ9_abs_067f4.2) (X.2.2.2.1 _ kJ9_abs_067f4.1.2.1) (X.2.2.2.1 _ kJ9_abs_067f4.1.1) hf.1 (by rw [fCat]; have := hf.2.1; omega) hf.2.2.1 hf.2.2.2 hd (k p e s m args below meth c X h1 h2 h3 h4 H locs ls g1 g2 g3)
theorem fRoom {nl d : Nat} (h : nl ≤ 45) : d + 1 ≤ (fRm (d + 1)).frames ∧ 8 + (nl + 11) + 64 * d ≤ (fRm (d + 1)).locals := ⟨Nat.le_refl _, by show _ ≤ 64 * (d + 1); omega⟩
theorem fRoomM {n d : Nat} (h : n ≤ 30) : 1 ≤ (fRm (d + 1)).frames ∧ n + 20 ≤ (fRm (d + 1)).locals ∧ 0 ≤ (fRm (d + 1)).cells ∧ 0 ≤ (fRm (d + 1)).slots := ⟨by show 1 ≤ d + 1; omega, by show _ ≤ 64 * (d + 1); omega, Nat.zero_le _, Nat.zero_le _⟩
theorem fRoomN {n d : Nat} (h : n ≤ 30) : 1 ≤ (fRm (d + 1)).frames ∧ n + 13 ≤ (fRm (d + 1)).locals ∧ 0 ≤ (fRm (d + 1)).cells ∧ 0 ≤ (fRm (d + 1)).slots := ⟨by show 1 ≤ d + 1; omega, by show _ ≤ 64 * (d + 1); omega, Nat.zero_le _, Nat.zero_le _⟩
/-- a truth as the JVM has it -/
def fB (b : Bool) : Int32 := bif b then 1 else 0
theorem fB01 (b : Bool) : fB b = 0 ∨ fB b = 1 := by cases b <;> simp [fB]
theorem fB0 {b : Bool} : fB b = 0 ↔ b = false := by cases b <;> decide
theorem fBn {b : Bool} : ¬ fB b = 0 ↔ b = true := by cases b <;> decide
end MathRules
end
section
/-! numbers, truths, the hall -/
theorem vin {x : Int32} {n : Nat} (hn : n < 2 ^ 31) (h0 : 0 ≤ x) (h1 : x < OfNat.ofNat n) : vp_in x n := by
  rw [vp_in_iff]
  have a := Int32.le_iff_toInt_le.mp h0
  have b := Int32.lt_iff_toInt_lt.mp h1
  have e : (OfNat.ofNat n : Int32).toInt = (n : Int) := nI_toInt hn
  have z : (0 : Int32).toInt = 0 := by decide
  omega
theorem vinN {w n : Nat} (h : w < n) (hn : n < 2 ^ 31) {x : Int32} (hx : x = nI w) : vp_in x n := by subst hx; exact vp_in_nI h hn
theorem fBt {P : Prop} [Decidable P] (h : P) : some (Value.int 1) = some (Value.int (fB (decide P))) := by simp [fB, h]
theorem fBf {P : Prop} [Decidable P] (h : ¬ P) : some (Value.int 0) = some (Value.int (fB (decide P))) := by simp [fB, h]
theorem fBd0 {P : Prop} [Decidable P] : fB (decide P) = 0 ↔ ¬ P := by by_cases h : P <;> simp [fB, h]
theorem fBd1 {P : Prop} [Decidable P] : ¬ fB (decide P) = 0 ↔ P := by by_cases h : P <;> simp [fB, h]
theorem nlit (k : Nat) : (OfNat.ofNat k : Int32) = nI k := rfl
theorem w_le (x y : Int32) : x.toInt64 ≤ y.toInt64 ↔ x ≤ y := by rw [Int64.le_iff_toInt_le, Int32.le_iff_toInt_le, Int32.toInt_toInt64, Int32.toInt_toInt64]
theorem w_lt (x y : Int32) : x.toInt64 < y.toInt64 ↔ x < y := by rw [Int64.lt_iff_toInt_lt, Int32.lt_iff_toInt_lt, Int32.toInt_toInt64, Int32.toInt_toInt64]
theorem w_eq (x y : Int32) : x.toInt64 = y.toInt64 ↔ x = y := by rw [← Int64.toInt_inj, ← Int32.toInt_inj, Int32.toInt_toInt64, Int32.toInt_toInt64]
theorem w_lit {n : Nat} (h : n < 2 ^ 31) : (OfNat.ofNat n : Int64) = (OfNat.ofNat n : Int32).toInt64 := (nI_l h).symm
theorem w_leN {n : Nat} (h : n < 2 ^ 31) (x : Int32) : x.toInt64 ≤ OfNat.ofNat n ↔ x ≤ OfNat.ofNat n := by rw [w_lit h, w_le]
theorem w_geN {n : Nat} (h : n < 2 ^ 31) (x : Int32) : OfNat.ofNat n ≤ x.toInt64 ↔ OfNat.ofNat n ≤ x := by rw [w_lit h, w_le]
theorem n_in {x : Int32} {n : Nat} (hn : n < 2 ^ 31) (h0 : 0 ≤ x) (h1 : x < nI n) : ∃ w : Nat, w < n ∧ x = nI w := by
  obtain ⟨j, h2, h3⟩ := nI_of (x := x) (by grind)
  subst h3
  exact ⟨j, (nI_ltI h2 hn).mp h1, rfl⟩
/-- the hall: stuffs, walls, sources, seats, rules -/
abbrev hH : Type := (Int32 × (Nat → Int32) × (Nat → Int32)) × (Int32 × (Nat → Int32) × (Nat → Int32)) × (Int32 × (Nat → Int32) × (Nat → Int32) × (Nat → Int32)) × (Int32 × (Nat → Int32) × (Nat → Int32)) × (Int32 × Int32)
def hC (S : fS) : hH := ((gI S 1 2, gA S 2, gA S 3), (gI S 4 6, gA S 5, gA S 6), (gI S 11 2, gA S 12, gA S 13, gA S 17), (gI S 14 2, gA S 15, gA S 16), (gI S 0 9, gI S 0 10))
def hD (S : fS) : hH := ((gI S 36 0, gA S 37, gA S 38), (gI S 36 3, gA S 39, gA S 40), (gI S 36 6, gA S 41, gA S 42, gA S 43), (gI S 36 10, gA S 44, gA S 45), (gI S 36 13, gI S 36 14))
/-- the hall's numbers are within their bounds: a stuffs, b walls, c sources, e seats -/
def hOk (h : hH) (a b c e : Nat) : Prop :=
  (h.1.1 = nI a ∧ 1 ≤ a ∧ a ≤ 8 ∧ ∀ i, i < a → (0 ≤ h.1.2.1 i ∧ h.1.2.1 i ≤ 100) ∧ (0 ≤ h.1.2.2 i ∧ h.1.2.2 i ≤ 1000)) ∧
  (h.2.1.1 = nI b ∧ b ≤ 16 ∧ ∀ w, w < b → ((∀ j, j < 4 → 0 ≤ h.2.1.2.1 (4 * w + j) ∧ h.2.1.2.1 (4 * w + j) ≤ 1000) ∧ ((h.2.1.2.1 (4 * w) = h.2.1.2.1 (4 * w + 2) ∧ ¬ h.2.1.2.1 (4 * w + 1) = h.2.1.2.1 (4 * w + 3)) ∨ (¬ h.2.1.2.1 (4 * w) = h.2.1.2.1 (4 * w + 2) ∧ h.2.1.2.1 (4 * w + 1) = h.2.1.2.1 (4 * w + 3)))) ∧ ∃ i, i < a ∧ h.2.1.2.2 w = nI i) ∧
  (h.2.2.1.1 = nI c ∧ c ≤ 4 ∧ ∀ i, i < c → (0 ≤ h.2.2.1.2.1 i ∧ h.2.2.1.2.1 i ≤ 1000) ∧ (0 ≤ h.2.2.1.2.2.1 i ∧ h.2.2.1.2.2.1 i ≤ 1000) ∧ (1 ≤ h.2.2.1.2.2.2 i ∧ h.2.2.1.2.2.2 i ≤ 1000)) ∧
  (h.2.2.2.1.1 = nI e ∧ e ≤ 8 ∧ ∀ i, i < e → (0 ≤ h.2.2.2.1.2.1 i ∧ h.2.2.2.1.2.1 i ≤ 1000) ∧ (0 ≤ h.2.2.2.1.2.2 i ∧ h.2.2.2.1.2.2 i ≤ 1000)) ∧
  (0 ≤ h.2.2.2.2.1 ∧ h.2.2.2.2.1 ≤ 3) ∧ (1 ≤ h.2.2.2.2.2 ∧ h.2.2.2.2.2 ≤ 100)
/-- what the landed program keeps beside: a wall's axis, line, low and high end -/
def hAx (en : Nat → Int32) (w : Nat) : Bool := decide (en (4 * w) = en (4 * w + 2))
def hLine (en : Nat → Int32) (w : Nat) : Int32 := if en (4 * w) = en (4 * w + 2) then en (4 * w) else en (4 * w + 1)
def hLow (en : Nat → Int32) (w : Nat) : Int32 := if en (4 * w) = en (4 * w + 2) then (if en (4 * w + 3) < en (4 * w + 1) then en (4 * w + 3) else en (4 * w + 1)) else (if en (4 * w + 2) < en (4 * w) then en (4 * w + 2) else en (4 * w))
def hHigh (en : Nat → Int32) (w : Nat) : Int32 := if en (4 * w) = en (4 * w + 2) then (if en (4 * w + 1) < en (4 * w + 3) then en (4 * w + 3) else en (4 * w + 1)) else (if en (4 * w) < en (4 * w + 2) then en (4 * w + 2) else en (4 * w))
def hAxI (en : Nat → Int32) (w : Nat) : Int32 := if en (4 * w) = en (4 * w + 2) then 0 else 1
def hGeo (S : fS) (b : Nat) : Prop := ∀ w, w < b → gA S 7 w = hAxI (gA S 5) w ∧ gA S 8 w = hLine (gA S 5) w ∧ gA S 9 w = hLow (gA S 5) w ∧ gA S 10 w = hHigh (gA S 5) w
end
section
def iX7_isWithin_0_2 : List Instr := [.iload_n 0, .iload_n 1]
theorem oX7_isWithin_0_2 : fOkB cX7_isWithin 0 iX7_isWithin_0_2 = true := by decide +kernel
theorem bX7_isWithin_2 : fBk cX7_isWithin 2 (.if_icmp .lt) 14 := ⟨12, by decide +kernel, by decide⟩
def iX7_isWithin_14_1 : List Instr := [.iconst 0]
theorem oX7_isWithin_14_1 : fOkB cX7_isWithin 14 iX7_isWithin_14_1 = true := by decide +kernel
theorem dX7_isWithin_15 : decode cX7_isWithin 15 = .ok (.ireturn, 1) := by decide +kernel
def iX7_isWithin_5_2 : List Instr := [.iload_n 0, .iload_n 2]
theorem oX7_isWithin_5_2 : fOkB cX7_isWithin 5 iX7_isWithin_5_2 = true := by decide +kernel
theorem bX7_isWithin_7 : fBk cX7_isWithin 7 (.if_icmp .gt) 14 := ⟨7, by decide +kernel, by decide⟩
def iX7_isWithin_10_2 : List Instr := [.iconst 1, .goto 4]
theorem oX7_isWithin_10_2 : fOkB cX7_isWithin 10 iX7_isWithin_10_2 = true := by decide +kernel
set_option maxRecDepth 100000 in
theorem qX7_isWithin {G : fG} {d : Nat} {S : fS} (x a b : Int32)  : fCtr G (d) mX7_isWithin [.int x, .int a, .int b] S (fun r S' => r = some (.int (fB (decide (a ≤ x ∧ x ≤ b)))) ∧ S' = S) := by
  refine fCtr.of bXX7_isWithin (Nat.le_of_ble_eq_true rfl) rfl ?_
  refine fV.run iX7_isWithin_0_2 oX7_isWithin_0_2 (pc' := 2) (L' := [(0, .int x), (1, .int a), (2, .int b)]) (st' := [.int a, .int x]) (S' := S) rfl trivial ?_
  refine fV.icmp_lt bX7_isWithin_2 (fun c2 => ?_) (fun c2 => ?_)
  · refine fV.run iX7_isWithin_14_1 oX7_isWithin_14_1 (pc' := 15) (L' := [(0, .int x), (1, .int a), (2, .int b)]) (st' := [.int 0]) (S' := S) rfl trivial ?_
    exact fV.zret rfl dX7_isWithin_15 (by decide) ⟨fBf (by grind [fB]), rfl⟩
  · refine fV.run iX7_isWithin_5_2 oX7_isWithin_5_2 (pc' := 7) (L' := [(0, .int x), (1, .int a), (2, .int b)]) (st' := [.int b, .int x]) (S' := S) rfl trivial ?_
    refine fV.icmp_gt bX7_isWithin_7 (fun c7 => ?_) (fun c7 => ?_)
    · refine fV.run iX7_isWithin_14_1 oX7_isWithin_14_1 (pc' := 15) (L' := [(0, .int x), (1, .int a), (2, .int b)]) (st' := [.int 0]) (S' := S) rfl trivial ?_
      exact fV.zret rfl dX7_isWithin_15 (by decide) ⟨fBf (by grind [fB]), rfl⟩
    · refine fV.run iX7_isWithin_10_2 oX7_isWithin_10_2 (pc' := 15) (L' := [(0, .int x), (1, .int a), (2, .int b)]) (st' := [.int 1]) (S' := S) rfl trivial ?_
      exact fV.zret rfl dX7_isWithin_15 (by decide) ⟨fBt (by grind [fB]), rfl⟩
def iX7_isPoint_0_3 : List Instr := [.iload_n 0, .iconst 0, .sipush 1000]
theorem oX7_isPoint_0_3 : fOkB cX7_isPoint 0 iX7_isPoint_0_3 = true := by decide +kernel
set_option maxRecDepth 100000 in
theorem lX7_74 : Cond.methodLink RX7 74 yX7_isWithin ∈ fTB := fTB_at 327 rfl rfl
theorem dX7_isPoint_5 : decode cX7_isPoint 5 = .ok (.invokestatic 74, 3) := by decide +kernel
theorem bX7_isPoint_8 : fBk cX7_isPoint 8 (.ifCond .eq) 26 := ⟨18, by decide +kernel, by decide⟩
def iX7_isPoint_26_1 : List Instr := [.iconst 0]
theorem oX7_isPoint_26_1 : fOkB cX7_isPoint 26 iX7_isPoint_26_1 = true := by decide +kernel
theorem dX7_isPoint_27 : decode cX7_isPoint 27 = .ok (.ireturn, 1) := by decide +kernel
def iX7_isPoint_11_3 : List Instr := [.iload_n 1, .iconst 0, .sipush 1000]
theorem oX7_isPoint_11_3 : fOkB cX7_isPoint 11 iX7_isPoint_11_3 = true := by decide +kernel
theorem dX7_isPoint_16 : decode cX7_isPoint 16 = .ok (.invokestatic 74, 3) := by decide +kernel
theorem bX7_isPoint_19 : fBk cX7_isPoint 19 (.ifCond .eq) 26 := ⟨7, by decide +kernel, by decide⟩
def iX7_isPoint_22_2 : List Instr := [.iconst 1, .goto 4]
theorem oX7_isPoint_22_2 : fOkB cX7_isPoint 22 iX7_isPoint_22_2 = true := by decide +kernel
set_option maxRecDepth 100000 in
theorem qX7_isPoint {G : fG} {d : Nat} {S : fS} (x y : Int32)  : fCtr G (d + 1) mX7_isPoint [.int x, .int y] S (fun r S' => r = some (.int (fB (decide ((0 ≤ x ∧ x ≤ 1000) ∧ (0 ≤ y ∧ y ≤ 1000))))) ∧ S' = S) := by
  refine fCtr.of bXX7_isPoint (Nat.le_of_ble_eq_true rfl) rfl ?_
  refine fV.run iX7_isPoint_0_3 oX7_isPoint_0_3 (pc' := 5) (L' := [(0, .int x), (1, .int y)]) (st' := [.int 1000, .int 0, .int x]) (S' := S) rfl trivial ?_
  refine fV.callS (M2 := mX7_isWithin) (d := d) (av := [.int x, .int 0, .int 1000]) (rest := []) kX7_isWithin dX7_isPoint_5 lX7_74 rfl rfl (Nat.le_of_ble_eq_true rfl) (fRoom (by decide)) ⟨Nat.le_refl _, Nat.le_refl _⟩ (qX7_isWithin _ _ _) ?_
  rintro _ S9 ⟨rfl, h9⟩
  rw [h9]
  clear h9 S9
  refine fV.to (pc' := 8) (L' := [(0, .int x), (1, .int y)]) (st' := [.int (fB (decide (0 ≤ x ∧ x ≤ 1000)))]) (S' := S) rfl rfl rfl rfl ?_
  refine fV.if_eq bX7_isPoint_8 (fun c8 => ?_) (fun c8 => ?_)
  · refine fV.run iX7_isPoint_26_1 oX7_isPoint_26_1 (pc' := 27) (L' := [(0, .int x), (1, .int y)]) (st' := [.int 0]) (S' := S) rfl trivial ?_
    exact fV.zret rfl dX7_isPoint_27 (by decide) ⟨fBf (by grind [fB]), rfl⟩
  · refine fV.run iX7_isPoint_11_3 oX7_isPoint_11_3 (pc' := 16) (L' := [(0, .int x), (1, .int y)]) (st' := [.int 1000, .int 0, .int y]) (S' := S) rfl trivial ?_
    refine fV.callS (M2 := mX7_isWithin) (d := d) (av := [.int y, .int 0, .int 1000]) (rest := []) kX7_isWithin dX7_isPoint_16 lX7_74 rfl rfl (Nat.le_of_ble_eq_true rfl) (fRoom (by decide)) ⟨Nat.le_refl _, Nat.le_refl _⟩ (qX7_isWithin _ _ _) ?_
    rintro _ S9 ⟨rfl, h9⟩
    rw [h9]
    clear h9 S9
    refine fV.to (pc' := 19) (L' := [(0, .int x), (1, .int y)]) (st' := [.int (fB (decide (0 ≤ y ∧ y ≤ 1000)))]) (S' := S) rfl rfl rfl rfl ?_
    refine fV.if_eq bX7_isPoint_19 (fun c19 => ?_) (fun c19 => ?_)
    · refine fV.run iX7_isPoint_26_1 oX7_isPoint_26_1 (pc' := 27) (L' := [(0, .int x), (1, .int y)]) (st' := [.int 0]) (S' := S) rfl trivial ?_
      exact fV.zret rfl dX7_isPoint_27 (by decide) ⟨fBf (by grind [fB]), rfl⟩
    · refine fV.run iX7_isPoint_22_2 oX7_isPoint_22_2 (pc' := 27) (L' := [(0, .int x), (1, .int y)]) (st' := [.int 1]) (S' := S) rfl trivial ?_
      exact fV.zret rfl dX7_isPoint_27 (by decide) ⟨fBt (by grind [fB]), rfl⟩
def iX2_has_0_1 : List Instr := [.iload_n 1]
theorem oX2_has_0_1 : fOkB cX2_has 0 iX2_has_0_1 = true := by decide +kernel
theorem bX2_has_1 : fBk cX2_has 1 (.ifCond .lt) 16 := ⟨15, by decide +kernel, by decide⟩
def iX2_has_16_1 : List Instr := [.iconst 0]
theorem oX2_has_16_1 : fOkB cX2_has 16 iX2_has_16_1 = true := by decide +kernel
theorem dX2_has_17 : decode cX2_has 17 = .ok (.ireturn, 1) := by decide +kernel
def iX2_has_4_3 : List Instr := [.iload_n 1, .aload_n 0, .getfield 9]
theorem oX2_has_4_3 : fOkB cX2_has 4 iX2_has_4_3 = true := by decide +kernel
theorem bX2_has_9 : fBk cX2_has 9 (.if_icmp .ge) 16 := ⟨7, by decide +kernel, by decide⟩
def iX2_has_12_2 : List Instr := [.iconst 1, .goto 4]
theorem oX2_has_12_2 : fOkB cX2_has 12 iX2_has_12_2 = true := by decide +kernel
set_option maxRecDepth 100000 in
theorem qX2_has_11 {G : fG} {d : Nat} {S : fS} (x : Int32)  : fCtr G (d) mX2_has [.ref 11, .int x] S (fun r S' => r = some (.int (fB (decide (0 ≤ x ∧ x < gI S 11 2)))) ∧ S' = S) := by
  refine fCtr.of bXX2_has (Nat.le_of_ble_eq_true rfl) rfl ?_
  refine fV.run iX2_has_0_1 oX2_has_0_1 (pc' := 1) (L' := [(0, .ref 11), (1, .int x)]) (st' := [.int x]) (S' := S) rfl trivial ?_
  refine fV.if_lt bX2_has_1 (fun c1 => ?_) (fun c1 => ?_)
  · refine fV.run iX2_has_16_1 oX2_has_16_1 (pc' := 17) (L' := [(0, .ref 11), (1, .int x)]) (st' := [.int 0]) (S' := S) rfl trivial ?_
    exact fV.zret rfl dX2_has_17 (by decide) ⟨fBf (by grind [fB]), rfl⟩
  · refine fV.run iX2_has_4_3 oX2_has_4_3 (pc' := 9) (L' := [(0, .ref 11), (1, .int x)]) (st' := [.int (gI S 11 2), .int x]) (S' := S) rfl trivial ?_
    refine fV.icmp_ge bX2_has_9 (fun c9 => ?_) (fun c9 => ?_)
    · refine fV.run iX2_has_16_1 oX2_has_16_1 (pc' := 17) (L' := [(0, .ref 11), (1, .int x)]) (st' := [.int 0]) (S' := S) rfl trivial ?_
      exact fV.zret rfl dX2_has_17 (by decide) ⟨fBf (by grind [fB]), rfl⟩
    · refine fV.run iX2_has_12_2 oX2_has_12_2 (pc' := 17) (L' := [(0, .ref 11), (1, .int x)]) (st' := [.int 1]) (S' := S) rfl trivial ?_
      exact fV.zret rfl dX2_has_17 (by decide) ⟨fBt (by grind [fB]), rfl⟩
set_option maxRecDepth 100000 in
theorem qX2_has_14 {G : fG} {d : Nat} {S : fS} (x : Int32)  : fCtr G (d) mX2_has [.ref 14, .int x] S (fun r S' => r = some (.int (fB (decide (0 ≤ x ∧ x < gI S 14 2)))) ∧ S' = S) := by
  refine fCtr.of bXX2_has (Nat.le_of_ble_eq_true rfl) rfl ?_
  refine fV.run iX2_has_0_1 oX2_has_0_1 (pc' := 1) (L' := [(0, .ref 14), (1, .int x)]) (st' := [.int x]) (S' := S) rfl trivial ?_
  refine fV.if_lt bX2_has_1 (fun c1 => ?_) (fun c1 => ?_)
  · refine fV.run iX2_has_16_1 oX2_has_16_1 (pc' := 17) (L' := [(0, .ref 14), (1, .int x)]) (st' := [.int 0]) (S' := S) rfl trivial ?_
    exact fV.zret rfl dX2_has_17 (by decide) ⟨fBf (by grind [fB]), rfl⟩
  · refine fV.run iX2_has_4_3 oX2_has_4_3 (pc' := 9) (L' := [(0, .ref 14), (1, .int x)]) (st' := [.int (gI S 14 2), .int x]) (S' := S) rfl trivial ?_
    refine fV.icmp_ge bX2_has_9 (fun c9 => ?_) (fun c9 => ?_)
    · refine fV.run iX2_has_16_1 oX2_has_16_1 (pc' := 17) (L' := [(0, .ref 14), (1, .int x)]) (st' := [.int 0]) (S' := S) rfl trivial ?_
      exact fV.zret rfl dX2_has_17 (by decide) ⟨fBf (by grind [fB]), rfl⟩
    · refine fV.run iX2_has_12_2 oX2_has_12_2 (pc' := 17) (L' := [(0, .ref 14), (1, .int x)]) (st' := [.int 1]) (S' := S) rfl trivial ?_
      exact fV.zret rfl dX2_has_17 (by decide) ⟨fBt (by grind [fB]), rfl⟩
def iX4_has_0_1 : List Instr := [.iload_n 1]
theorem oX4_has_0_1 : fOkB cX4_has 0 iX4_has_0_1 = true := by decide +kernel
theorem bX4_has_1 : fBk cX4_has 1 (.ifCond .lt) 16 := ⟨15, by decide +kernel, by decide⟩
def iX4_has_16_1 : List Instr := [.iconst 0]
theorem oX4_has_16_1 : fOkB cX4_has 16 iX4_has_16_1 = true := by decide +kernel
theorem dX4_has_17 : decode cX4_has 17 = .ok (.ireturn, 1) := by decide +kernel
def iX4_has_4_3 : List Instr := [.iload_n 1, .aload_n 0, .getfield 18]
theorem oX4_has_4_3 : fOkB cX4_has 4 iX4_has_4_3 = true := by decide +kernel
theorem bX4_has_9 : fBk cX4_has 9 (.if_icmp .ge) 16 := ⟨7, by decide +kernel, by decide⟩
def iX4_has_12_2 : List Instr := [.iconst 1, .goto 4]
theorem oX4_has_12_2 : fOkB cX4_has 12 iX4_has_12_2 = true := by decide +kernel
set_option maxRecDepth 100000 in
theorem qX4_has_1 {G : fG} {d : Nat} {S : fS} (x : Int32)  : fCtr G (d) mX4_has [.ref 1, .int x] S (fun r S' => r = some (.int (fB (decide (0 ≤ x ∧ x < gI S 1 2)))) ∧ S' = S) := by
  refine fCtr.of bXX4_has (Nat.le_of_ble_eq_true rfl) rfl ?_
  refine fV.run iX4_has_0_1 oX4_has_0_1 (pc' := 1) (L' := [(0, .ref 1), (1, .int x)]) (st' := [.int x]) (S' := S) rfl trivial ?_
  refine fV.if_lt bX4_has_1 (fun c1 => ?_) (fun c1 => ?_)
  · refine fV.run iX4_has_16_1 oX4_has_16_1 (pc' := 17) (L' := [(0, .ref 1), (1, .int x)]) (st' := [.int 0]) (S' := S) rfl trivial ?_
    exact fV.zret rfl dX4_has_17 (by decide) ⟨fBf (by grind [fB]), rfl⟩
  · refine fV.run iX4_has_4_3 oX4_has_4_3 (pc' := 9) (L' := [(0, .ref 1), (1, .int x)]) (st' := [.int (gI S 1 2), .int x]) (S' := S) rfl trivial ?_
    refine fV.icmp_ge bX4_has_9 (fun c9 => ?_) (fun c9 => ?_)
    · refine fV.run iX4_has_16_1 oX4_has_16_1 (pc' := 17) (L' := [(0, .ref 1), (1, .int x)]) (st' := [.int 0]) (S' := S) rfl trivial ?_
      exact fV.zret rfl dX4_has_17 (by decide) ⟨fBf (by grind [fB]), rfl⟩
    · refine fV.run iX4_has_12_2 oX4_has_12_2 (pc' := 17) (L' := [(0, .ref 1), (1, .int x)]) (st' := [.int 1]) (S' := S) rfl trivial ?_
      exact fV.zret rfl dX4_has_17 (by decide) ⟨fBt (by grind [fB]), rfl⟩
def iX6_has_0_1 : List Instr := [.iload_n 1]
theorem oX6_has_0_1 : fOkB cX6_has 0 iX6_has_0_1 = true := by decide +kernel
theorem bX6_has_1 : fBk cX6_has 1 (.ifCond .lt) 16 := ⟨15, by decide +kernel, by decide⟩
def iX6_has_16_1 : List Instr := [.iconst 0]
theorem oX6_has_16_1 : fOkB cX6_has 16 iX6_has_16_1 = true := by decide +kernel
theorem dX6_has_17 : decode cX6_has 17 = .ok (.ireturn, 1) := by decide +kernel
def iX6_has_4_3 : List Instr := [.iload_n 1, .aload_n 0, .getfield 30]
theorem oX6_has_4_3 : fOkB cX6_has 4 iX6_has_4_3 = true := by decide +kernel
theorem bX6_has_9 : fBk cX6_has 9 (.if_icmp .ge) 16 := ⟨7, by decide +kernel, by decide⟩
def iX6_has_12_2 : List Instr := [.iconst 1, .goto 4]
theorem oX6_has_12_2 : fOkB cX6_has 12 iX6_has_12_2 = true := by decide +kernel
set_option maxRecDepth 100000 in
theorem qX6_has_4 {G : fG} {d : Nat} {S : fS} (x : Int32)  : fCtr G (d) mX6_has [.ref 4, .int x] S (fun r S' => r = some (.int (fB (decide (0 ≤ x ∧ x < gI S 4 6)))) ∧ S' = S) := by
  refine fCtr.of bXX6_has (Nat.le_of_ble_eq_true rfl) rfl ?_
  refine fV.run iX6_has_0_1 oX6_has_0_1 (pc' := 1) (L' := [(0, .ref 4), (1, .int x)]) (st' := [.int x]) (S' := S) rfl trivial ?_
  refine fV.if_lt bX6_has_1 (fun c1 => ?_) (fun c1 => ?_)
  · refine fV.run iX6_has_16_1 oX6_has_16_1 (pc' := 17) (L' := [(0, .ref 4), (1, .int x)]) (st' := [.int 0]) (S' := S) rfl trivial ?_
    exact fV.zret rfl dX6_has_17 (by decide) ⟨fBf (by grind [fB]), rfl⟩
  · refine fV.run iX6_has_4_3 oX6_has_4_3 (pc' := 9) (L' := [(0, .ref 4), (1, .int x)]) (st' := [.int (gI S 4 6), .int x]) (S' := S) rfl trivial ?_
    refine fV.icmp_ge bX6_has_9 (fun c9 => ?_) (fun c9 => ?_)
    · refine fV.run iX6_has_16_1 oX6_has_16_1 (pc' := 17) (L' := [(0, .ref 4), (1, .int x)]) (st' := [.int 0]) (S' := S) rfl trivial ?_
      exact fV.zret rfl dX6_has_17 (by decide) ⟨fBf (by grind [fB]), rfl⟩
    · refine fV.run iX6_has_12_2 oX6_has_12_2 (pc' := 17) (L' := [(0, .ref 4), (1, .int x)]) (st' := [.int 1]) (S' := S) rfl trivial ?_
      exact fV.zret rfl dX6_has_17 (by decide) ⟨fBt (by grind [fB]), rfl⟩
def iX7_areThere_0_3 : List Instr := [.aload_n 0, .getfield 28, .iload_n 1]
theorem oX7_areThere_0_3 : fOkB cX7_areThere 0 iX7_areThere_0_3 = true := by decide +kernel
set_option maxRecDepth 100000 in
theorem lX7_101 : Cond.methodLink RX7 101 yX2_has ∈ fTB := fTB_at 377 rfl rfl
theorem dX7_areThere_5 : decode cX7_areThere 5 = .ok (.invokevirtual 101, 3) := by decide +kernel
theorem bX7_areThere_8 : fBk cX7_areThere 8 (.ifCond .eq) 26 := ⟨18, by decide +kernel, by decide⟩
def iX7_areThere_26_1 : List Instr := [.iconst 0]
theorem oX7_areThere_26_1 : fOkB cX7_areThere 26 iX7_areThere_26_1 = true := by decide +kernel
theorem dX7_areThere_27 : decode cX7_areThere 27 = .ok (.ireturn, 1) := by decide +kernel
def iX7_areThere_11_3 : List Instr := [.aload_n 0, .getfield 32, .iload_n 2]
theorem oX7_areThere_11_3 : fOkB cX7_areThere 11 iX7_areThere_11_3 = true := by decide +kernel
theorem dX7_areThere_16 : decode cX7_areThere 16 = .ok (.invokevirtual 101, 3) := by decide +kernel
theorem bX7_areThere_19 : fBk cX7_areThere 19 (.ifCond .eq) 26 := ⟨7, by decide +kernel, by decide⟩
def iX7_areThere_22_2 : List Instr := [.iconst 1, .goto 4]
theorem oX7_areThere_22_2 : fOkB cX7_areThere 22 iX7_areThere_22_2 = true := by decide +kernel
set_option maxRecDepth 100000 in
theorem qX7_areThere {G : fG} {d : Nat} {S : fS} (x y : Int32)  : fCtr G (d + 1) mX7_areThere [.ref 0, .int x, .int y] S (fun r S' => r = some (.int (fB (decide ((0 ≤ x ∧ x < gI S 11 2) ∧ (0 ≤ y ∧ y < gI S 14 2))))) ∧ S' = S) := by
  refine fCtr.of bXX7_areThere (Nat.le_of_ble_eq_true rfl) rfl ?_
  refine fV.run iX7_areThere_0_3 oX7_areThere_0_3 (pc' := 5) (L' := [(0, .ref 0), (1, .int x), (2, .int y)]) (st' := [.int x, .ref 11]) (S' := S) rfl trivial ?_
  refine fV.callV (M2 := mX2_has) (d := d) (o := 11) (av := [.int x]) (rest := []) kX2_has dX7_areThere_5 lX7_101 rfl rfl rfl (Nat.le_of_ble_eq_true rfl) (fRoom (by decide)) ⟨Nat.le_refl _, Nat.le_refl _⟩ (qX2_has_11 _) ?_
  rintro _ S9 ⟨rfl, h9⟩
  rw [h9]
  clear h9 S9
  refine fV.to (pc' := 8) (L' := [(0, .ref 0), (1, .int x), (2, .int y)]) (st' := [.int (fB (decide (0 ≤ x ∧ x < (gI S 11 2))))]) (S' := S) rfl rfl rfl rfl ?_
  refine fV.if_eq bX7_areThere_8 (fun c8 => ?_) (fun c8 => ?_)
  · refine fV.run iX7_areThere_26_1 oX7_areThere_26_1 (pc' := 27) (L' := [(0, .ref 0), (1, .int x), (2, .int y)]) (st' := [.int 0]) (S' := S) rfl trivial ?_
    exact fV.zret rfl dX7_areThere_27 (by decide) ⟨fBf (by grind [fB]), rfl⟩
  · refine fV.run iX7_areThere_11_3 oX7_areThere_11_3 (pc' := 16) (L' := [(0, .ref 0), (1, .int x), (2, .int y)]) (st' := [.int y, .ref 14]) (S' := S) rfl trivial ?_
    refine fV.callV (M2 := mX2_has) (d := d) (o := 14) (av := [.int y]) (rest := []) kX2_has dX7_areThere_16 lX7_101 rfl rfl rfl (Nat.le_of_ble_eq_true rfl) (fRoom (by decide)) ⟨Nat.le_refl _, Nat.le_refl _⟩ (qX2_has_14 _) ?_
    rintro _ S9 ⟨rfl, h9⟩
    rw [h9]
    clear h9 S9
    refine fV.to (pc' := 19) (L' := [(0, .ref 0), (1, .int x), (2, .int y)]) (st' := [.int (fB (decide (0 ≤ y ∧ y < (gI S 14 2))))]) (S' := S) rfl rfl rfl rfl ?_
    refine fV.if_eq bX7_areThere_19 (fun c19 => ?_) (fun c19 => ?_)
    · refine fV.run iX7_areThere_26_1 oX7_areThere_26_1 (pc' := 27) (L' := [(0, .ref 0), (1, .int x), (2, .int y)]) (st' := [.int 0]) (S' := S) rfl trivial ?_
      exact fV.zret rfl dX7_areThere_27 (by decide) ⟨fBf (by grind [fB]), rfl⟩
    · refine fV.run iX7_areThere_22_2 oX7_areThere_22_2 (pc' := 27) (L' := [(0, .ref 0), (1, .int x), (2, .int y)]) (st' := [.int 1]) (S' := S) rfl trivial ?_
      exact fV.zret rfl dX7_areThere_27 (by decide) ⟨fBt (by grind [fB]), rfl⟩
def iX7_isWallOrNone_0_2 : List Instr := [.iload_n 1, .iconst (-1)]
theorem oX7_isWallOrNone_0_2 : fOkB cX7_isWallOrNone 0 iX7_isWallOrNone_0_2 = true := by decide +kernel
theorem bX7_isWallOrNone_2 : fBk cX7_isWallOrNone 2 (.if_icmp .eq) 16 := ⟨14, by decide +kernel, by decide⟩
def iX7_isWallOrNone_16_2 : List Instr := [.iconst 1, .goto 4]
theorem oX7_isWallOrNone_16_2 : fOkB cX7_isWallOrNone 16 iX7_isWallOrNone_16_2 = true := by decide +kernel
theorem dX7_isWallOrNone_21 : decode cX7_isWallOrNone 21 = .ok (.ireturn, 1) := by decide +kernel
def iX7_isWallOrNone_5_3 : List Instr := [.aload_n 0, .getfield 19, .iload_n 1]
theorem oX7_isWallOrNone_5_3 : fOkB cX7_isWallOrNone 5 iX7_isWallOrNone_5_3 = true := by decide +kernel
set_option maxRecDepth 100000 in
theorem lX7_93 : Cond.methodLink RX7 93 yX6_has ∈ fTB := fTB_at 357 rfl rfl
theorem dX7_isWallOrNone_10 : decode cX7_isWallOrNone 10 = .ok (.invokevirtual 93, 3) := by decide +kernel
theorem bX7_isWallOrNone_13 : fBk cX7_isWallOrNone 13 (.ifCond .eq) 20 := ⟨7, by decide +kernel, by decide⟩
def iX7_isWallOrNone_20_1 : List Instr := [.iconst 0]
theorem oX7_isWallOrNone_20_1 : fOkB cX7_isWallOrNone 20 iX7_isWallOrNone_20_1 = true := by decide +kernel
set_option maxRecDepth 100000 in
theorem qX7_isWallOrNone {G : fG} {d : Nat} {S : fS} (x : Int32)  : fCtr G (d + 1) mX7_isWallOrNone [.ref 0, .int x] S (fun r S' => r = some (.int (fB (decide (x = -1 ∨ (0 ≤ x ∧ x < gI S 4 6))))) ∧ S' = S) := by
  refine fCtr.of bXX7_isWallOrNone (Nat.le_of_ble_eq_true rfl) rfl ?_
  refine fV.run iX7_isWallOrNone_0_2 oX7_isWallOrNone_0_2 (pc' := 2) (L' := [(0, .ref 0), (1, .int x)]) (st' := [.int (-1), .int x]) (S' := S) rfl trivial ?_
  refine fV.icmp_eq bX7_isWallOrNone_2 (fun c2 => ?_) (fun c2 => ?_)
  · refine fV.run iX7_isWallOrNone_16_2 oX7_isWallOrNone_16_2 (pc' := 21) (L' := [(0, .ref 0), (1, .int x)]) (st' := [.int 1]) (S' := S) rfl trivial ?_
    exact fV.zret rfl dX7_isWallOrNone_21 (by decide) ⟨fBt (by grind [fB]), rfl⟩
  · refine fV.run iX7_isWallOrNone_5_3 oX7_isWallOrNone_5_3 (pc' := 10) (L' := [(0, .ref 0), (1, .int x)]) (st' := [.int x, .ref 4]) (S' := S) rfl trivial ?_
    refine fV.callV (M2 := mX6_has) (d := d) (o := 4) (av := [.int x]) (rest := []) kX6_has dX7_isWallOrNone_10 lX7_93 rfl rfl rfl (Nat.le_of_ble_eq_true rfl) (fRoom (by decide)) ⟨Nat.le_refl _, Nat.le_refl _⟩ (qX6_has_4 _) ?_
    rintro _ S9 ⟨rfl, h9⟩
    rw [h9]
    clear h9 S9
    refine fV.to (pc' := 13) (L' := [(0, .ref 0), (1, .int x)]) (st' := [.int (fB (decide (0 ≤ x ∧ x < (gI S 4 6))))]) (S' := S) rfl rfl rfl rfl ?_
    refine fV.if_eq bX7_isWallOrNone_13 (fun c13 => ?_) (fun c13 => ?_)
    · refine fV.run iX7_isWallOrNone_20_1 oX7_isWallOrNone_20_1 (pc' := 21) (L' := [(0, .ref 0), (1, .int x)]) (st' := [.int 0]) (S' := S) rfl trivial ?_
      exact fV.zret rfl dX7_isWallOrNone_21 (by decide) ⟨fBf (by grind [fB]), rfl⟩
    · refine fV.run iX7_isWallOrNone_16_2 oX7_isWallOrNone_16_2 (pc' := 21) (L' := [(0, .ref 0), (1, .int x)]) (st' := [.int 1]) (S' := S) rfl trivial ?_
      exact fV.zret rfl dX7_isWallOrNone_21 (by decide) ⟨fBt (by grind [fB]), rfl⟩
def iX8_in_0_3 : List Instr := [.lload_n 0, .lload_n 2, .lcmp]
theorem oX8_in_0_3 : fOkB cX8_in 0 iX8_in_0_3 = true := by decide +kernel
theorem bX8_in_3 : fBk cX8_in 3 (.ifCond .lt) 17 := ⟨14, by decide +kernel, by decide⟩
def iX8_in_17_1 : List Instr := [.iconst 0]
theorem oX8_in_17_1 : fOkB cX8_in 17 iX8_in_17_1 = true := by decide +kernel
theorem dX8_in_18 : decode cX8_in 18 = .ok (.ireturn, 1) := by decide +kernel
def iX8_in_6_3 : List Instr := [.lload_n 0, .lload 4, .lcmp]
theorem oX8_in_6_3 : fOkB cX8_in 6 iX8_in_6_3 = true := by decide +kernel
theorem bX8_in_10 : fBk cX8_in 10 (.ifCond .gt) 17 := ⟨7, by decide +kernel, by decide⟩
def iX8_in_13_2 : List Instr := [.iconst 1, .goto 4]
theorem oX8_in_13_2 : fOkB cX8_in 13 iX8_in_13_2 = true := by decide +kernel
set_option maxRecDepth 100000 in
theorem qX8_in {G : fG} {d : Nat} {S : fS} (v a b : Int64)  : fCtr G (d) mX8_in [.long v, .long a, .long b] S (fun r S' => r = some (.int (fB (decide (a ≤ v ∧ v ≤ b)))) ∧ S' = S) := by
  refine fCtr.of bXX8_in (Nat.le_of_ble_eq_true rfl) rfl ?_
  refine fV.run iX8_in_0_3 oX8_in_0_3 (pc' := 3) (L' := [(0, .long v), (2, .long a), (4, .long b)]) (st' := [.int (lg_cmp v a)]) (S' := S) rfl trivial ?_
  refine fV.lif_lt bX8_in_3 (fun c3 => ?_) (fun c3 => ?_)
  · refine fV.run iX8_in_17_1 oX8_in_17_1 (pc' := 18) (L' := [(0, .long v), (2, .long a), (4, .long b)]) (st' := [.int 0]) (S' := S) rfl trivial ?_
    exact fV.zret rfl dX8_in_18 (by decide) ⟨fBf (by grind [fB]), rfl⟩
  · refine fV.run iX8_in_6_3 oX8_in_6_3 (pc' := 10) (L' := [(0, .long v), (2, .long a), (4, .long b)]) (st' := [.int (lg_cmp v b)]) (S' := S) rfl trivial ?_
    refine fV.lif_gt bX8_in_10 (fun c10 => ?_) (fun c10 => ?_)
    · refine fV.run iX8_in_17_1 oX8_in_17_1 (pc' := 18) (L' := [(0, .long v), (2, .long a), (4, .long b)]) (st' := [.int 0]) (S' := S) rfl trivial ?_
      exact fV.zret rfl dX8_in_18 (by decide) ⟨fBf (by grind [fB]), rfl⟩
    · refine fV.run iX8_in_13_2 oX8_in_13_2 (pc' := 18) (L' := [(0, .long v), (2, .long a), (4, .long b)]) (st' := [.int 1]) (S' := S) rfl trivial ?_
      exact fV.zret rfl dX8_in_18 (by decide) ⟨fBt (by grind [fB]), rfl⟩
end
section
/-! the calls that change the hall, and plain questions: what they answer and what becomes of the hall -/
def oStuff (h : hH) (s c : Int32) : Int32 × hH :=
  if (0 ≤ s ∧ s ≤ 100) ∧ (0 ≤ c ∧ c ≤ 1000) then (if h.1.1 = 8 then (-1004, h) else (h.1.1, ((h.1.1 + 1, upd h.1.2.1 h.1.1.toNatClampNeg s, upd h.1.2.2 h.1.1.toNatClampNeg c), h.2))) else (-1002, h)
def oEnds (en : Nat → Int32) (n x0 y0 x1 y1 : Int32) : Nat → Int32 := upd (upd (upd (upd en (4 * n).toNatClampNeg x0) (4 * n + 1).toNatClampNeg y0) (4 * n + 2).toNatClampNeg x1) (4 * n + 3).toNatClampNeg y1
def oWall (h : hH) (x0 y0 x1 y1 m : Int32) : Int32 × hH :=
  if 0 ≤ m ∧ m < h.1.1 then (if ((0 ≤ x0 ∧ x0 ≤ 1000) ∧ (0 ≤ y0 ∧ y0 ≤ 1000)) ∧ ((0 ≤ x1 ∧ x1 ≤ 1000) ∧ (0 ≤ y1 ∧ y1 ≤ 1000)) then
    (if (x0 = x1 ∧ ¬ y0 = y1) ∨ (¬ x0 = x1 ∧ y0 = y1) then (if h.2.1.1 = 16 then (-1004, h) else (h.2.1.1, (h.1, (h.2.1.1 + 1, oEnds h.2.1.2.1 h.2.1.1 x0 y0 x1 y1, upd h.2.1.2.2 h.2.1.1.toNatClampNeg m), h.2.2))) else (-1002, h)) else (-1002, h)) else (-1001, h)
def oCover (h : hH) (w m : Int32) : Int32 × hH :=
  if (0 ≤ w ∧ w < h.2.1.1) ∧ (0 ≤ m ∧ m < h.1.1) then (h.2.1.2.2 w.toNatClampNeg, (h.1, (h.2.1.1, h.2.1.2.1, upd h.2.1.2.2 w.toNatClampNeg m), h.2.2)) else (-1001, h)
def oBack (h : hH) : Int32 × hH := if h.2.1.1 = 0 then (-1003, h) else (h.2.1.1 - 1, (h.1, (h.2.1.1 - 1, h.2.1.2), h.2.2))
def oSource (h : hH) (x y p : Int32) : Int32 × hH :=
  if ((0 ≤ x ∧ x ≤ 1000) ∧ (0 ≤ y ∧ y ≤ 1000)) ∧ (1 ≤ p ∧ p ≤ 1000) then (if h.2.2.1.1 = 4 then (-1004, h) else (h.2.2.1.1, (h.1, h.2.1, (h.2.2.1.1 + 1, upd h.2.2.1.2.1 h.2.2.1.1.toNatClampNeg x, upd h.2.2.1.2.2.1 h.2.2.1.1.toNatClampNeg y, upd h.2.2.1.2.2.2 h.2.2.1.1.toNatClampNeg p), h.2.2.2))) else (-1002, h)
def oSeat (h : hH) (x y : Int32) : Int32 × hH :=
  if (0 ≤ x ∧ x ≤ 1000) ∧ (0 ≤ y ∧ y ≤ 1000) then (if h.2.2.2.1.1 = 8 then (-1004, h) else (h.2.2.2.1.1, (h.1, h.2.1, h.2.2.1, (h.2.2.2.1.1 + 1, upd h.2.2.2.1.2.1 h.2.2.2.1.1.toNatClampNeg x, upd h.2.2.2.1.2.2 h.2.2.2.1.1.toNatClampNeg y), h.2.2.2.2))) else (-1002, h)
def oMove (h : hH) (k t x y : Int32) : Int32 × hH :=
  if t = 0 then (if 0 ≤ k ∧ k < h.2.2.1.1 then (if (0 ≤ x ∧ x ≤ 1000) ∧ (0 ≤ y ∧ y ≤ 1000) then (1, (h.1, h.2.1, (h.2.2.1.1, upd h.2.2.1.2.1 k.toNatClampNeg x, upd h.2.2.1.2.2.1 k.toNatClampNeg y, h.2.2.1.2.2.2), h.2.2.2)) else (-1002, h)) else (-1001, h))
  else if t = 1 then (if 0 ≤ k ∧ k < h.2.2.2.1.1 then (if (0 ≤ x ∧ x ≤ 1000) ∧ (0 ≤ y ∧ y ≤ 1000) then (1, (h.1, h.2.1, h.2.2.1, (h.2.2.2.1.1, upd h.2.2.2.1.2.1 k.toNatClampNeg x, upd h.2.2.2.1.2.2 k.toNatClampNeg y), h.2.2.2.2)) else (-1002, h)) else (-1001, h))
  else (-1002, h)
def oRule (h : hH) (t v : Int32) : Int32 × hH :=
  if t = 0 then (if 0 ≤ v ∧ v ≤ 3 then (h.2.2.2.2.1, (h.1, h.2.1, h.2.2.1, h.2.2.2.1, (v, h.2.2.2.2.2))) else (-1002, h))
  else if t = 1 then (if 1 ≤ v ∧ v ≤ 100 then (h.2.2.2.2.2, (h.1, h.2.1, h.2.2.1, h.2.2.2.1, (h.2.2.2.2.1, v))) else (-1002, h))
  else (-1002, h)
/-- what a call of the landed program leaves: the answer and the hall as told, the other half as it was, the walls' lines kept -/
def qC (S : fS) (p : Int32 × hH) (r : Option Value) (S' : fS) : Prop := r = some (.int p.1) ∧ hC S' = p.2 ∧ S'.2 = S.2 ∧ ∀ b, hGeo S b → hGeo S' b
def qD (S : fS) (p : Int32 × hH) (r : Option Value) (S' : fS) : Prop := r = some (.int p.1) ∧ hD S' = p.2 ∧ S'.1 = S.1
theorem vin16 {x : Int32} {b : Nat} (hb : b ≤ 16) (h0 : 0 ≤ x) (h1 : x < nI b) : vp_in x 16 := by
  obtain ⟨w, hw, rfl⟩ := n_in (by omega) h0 h1
  exact vp_in_nI (by omega) (by decide)
theorem vinB {x : Int32} {b n : Nat} (hb : b ≤ n) (hn : n < 2 ^ 31) (h0 : 0 ≤ x) (h1 : x < nI b) : vp_in x n := by
  obtain ⟨w, hw, rfl⟩ := n_in (by omega) h0 h1
  exact vp_in_nI (by omega) hn
def iX4_add_0_3 : List Instr := [.aload_n 0, .getfield 18, .bipush 8]
theorem oX4_add_0_3 : fOkB cX4_add 0 iX4_add_0_3 = true := by decide +kernel
theorem bX4_add_6 : fBk cX4_add 6 (.if_icmp .lt) 13 := ⟨7, by decide +kernel, by decide⟩
def iX4_add_13_22 : List Instr := [.aload_n 0, .getfield 9, .aload_n 0, .getfield 18, .iload_n 1, .iastore, .aload_n 0, .getfield 15, .aload_n 0, .getfield 18, .iload_n 2, .iastore, .aload_n 0, .dup, .getfield 18, .iconst 1, .iadd, .putfield 18, .aload_n 0, .getfield 18, .iconst 1, .isub]
theorem oX4_add_13_22 : fOkB cX4_add 13 iX4_add_13_22 = true := by decide +kernel
theorem dX4_add_49 : decode cX4_add 49 = .ok (.ireturn, 1) := by decide +kernel
def iX4_add_9_1 : List Instr := [.sipush (-1004)]
theorem oX4_add_9_1 : fOkB cX4_add 9 iX4_add_9_1 = true := by decide +kernel
theorem dX4_add_12 : decode cX4_add 12 = .ok (.ireturn, 1) := by decide +kernel
set_option maxRecDepth 100000 in
theorem qX4_add {G : fG} {d : Nat} {S : fS} (s c : Int32) (h0 : 0 ≤ gI S 1 2) (h8 : gI S 1 2 ≤ 8) : fCtr G (d) mX4_add [.ref 1, .int s, .int c] S (fun r S' => if gI S 1 2 = 8 then r = some (.int (-1004)) ∧ S' = S else r = some (.int (gI S 1 2)) ∧ S' = wI (wA (wA S 2 (upd (gA S 2) (gI S 1 2).toNatClampNeg s)) 3 (upd (gA S 3) (gI S 1 2).toNatClampNeg c)) 1 2 (gI S 1 2 + 1)) := by
  refine fCtr.of bXX4_add (Nat.le_of_ble_eq_true rfl) rfl ?_
  refine fV.run iX4_add_0_3 oX4_add_0_3 (pc' := 6) (L' := [(0, .ref 1), (1, .int s), (2, .int c)]) (st' := [.int 8, .int (gI S 1 2)]) (S' := S) rfl trivial ?_
  refine fV.icmp_lt bX4_add_6 (fun c6 => ?_) (fun c6 => ?_)
  · refine fV.run iX4_add_13_22 oX4_add_13_22 (pc' := 49) (L' := [(0, .ref 1), (1, .int s), (2, .int c)]) (st' := [.int (((gI S 1 2) + 1) - 1)]) (S' := (wI (wA (wA S 2 (upd (gA S 2) (gI S 1 2).toNatClampNeg s)) 3 (upd (gA S 3) (gI S 1 2).toNatClampNeg c)) 1 2 ((gI S 1 2) + 1))) (P := vp_in (gI S 1 2) 8 ∧ vp_in (gI S 1 2) 8 ∧ True) rfl ⟨(vin (by decide) (by grind [fB]) (by grind [fB])), (vin (by decide) (by grind [fB]) (by grind [fB])), trivial⟩ ?_
    exact fV.iret rfl dX4_add_49 (by rw [if_neg (by grind)]; exact ⟨by rw [Int32.add_sub_cancel], rfl⟩)
  · refine fV.run iX4_add_9_1 oX4_add_9_1 (pc' := 12) (L' := [(0, .ref 1), (1, .int s), (2, .int c)]) (st' := [.int (-1004)]) (S' := S) rfl trivial ?_
    exact fV.iret rfl dX4_add_12 (by rw [if_pos (by grind)]; exact ⟨rfl, rfl⟩)
def iX2_put_0_10 : List Instr := [.aload_n 0, .getfield 21, .iload_n 1, .iload_n 2, .iastore, .aload_n 0, .getfield 25, .iload_n 1, .iload_n 3, .iastore]
theorem oX2_put_0_10 : fOkB cX2_put 0 iX2_put_0_10 = true := by decide +kernel
theorem dX2_put_14 : decode cX2_put 14 = .ok (.return_, 1) := by decide +kernel
set_option maxRecDepth 100000 in
theorem qX2_put_11 {G : fG} {d : Nat} {S : fS} (k x y : Int32) (hk : vp_in k 4) : fCtr G (d) mX2_put [.ref 11, .int k, .int x, .int y] S (fun r S' => r = none ∧ S' = wA (wA S 12 (upd (gA S 12) k.toNatClampNeg x)) 13 (upd (gA S 13) k.toNatClampNeg y)) := by
  refine fCtr.of bXX2_put (Nat.le_of_ble_eq_true rfl) rfl ?_
  refine fV.run iX2_put_0_10 oX2_put_0_10 (pc' := 14) (L' := [(0, .ref 11), (1, .int k), (2, .int x), (3, .int y)]) (st' := []) (S' := (wA (wA S 12 (upd (gA S 12) k.toNatClampNeg x)) 13 (upd (gA S 13) k.toNatClampNeg y))) (P := vp_in k 4 ∧ vp_in k 4 ∧ True) rfl ⟨hk, hk, trivial⟩ ?_
  exact fV.vret rfl dX2_put_14 ⟨rfl, rfl⟩
def iX2_add_0_5 : List Instr := [.aload_n 0, .getfield 9, .aload_n 0, .getfield 21, .arraylength]
theorem oX2_add_0_5 : fOkB cX2_add 0 iX2_add_0_5 = true := by decide +kernel
theorem bX2_add_9 : fBk cX2_add 9 (.if_icmp .lt) 16 := ⟨7, by decide +kernel, by decide⟩
def iX2_add_16_5 : List Instr := [.aload_n 0, .aload_n 0, .getfield 9, .iload_n 1, .iload_n 2]
theorem oX2_add_16_5 : fOkB cX2_add 16 iX2_add_16_5 = true := by decide +kernel
set_option maxRecDepth 100000 in
theorem lX2_28 : Cond.methodLink RX2 28 yX2_put ∈ fTB := fTB_at 373 rfl rfl
theorem dX2_add_23 : decode cX2_add 23 = .ok (.invokevirtual 28, 3) := by decide +kernel
def iX2_add_26_10 : List Instr := [.aload_n 0, .dup, .getfield 9, .iconst 1, .iadd, .putfield 9, .aload_n 0, .getfield 9, .iconst 1, .isub]
theorem oX2_add_26_10 : fOkB cX2_add 26 iX2_add_26_10 = true := by decide +kernel
theorem dX2_add_42 : decode cX2_add 42 = .ok (.ireturn, 1) := by decide +kernel
def iX2_add_12_1 : List Instr := [.sipush (-1004)]
theorem oX2_add_12_1 : fOkB cX2_add 12 iX2_add_12_1 = true := by decide +kernel
theorem dX2_add_15 : decode cX2_add 15 = .ok (.ireturn, 1) := by decide +kernel
set_option maxRecDepth 100000 in
theorem qX2_add_11 {G : fG} {d : Nat} {S : fS} (x y : Int32) (h0 : 0 ≤ gI S 11 2) (h8 : gI S 11 2 ≤ 4) : fCtr G (d + 1) mX2_add [.ref 11, .int x, .int y] S (fun r S' => if gI S 11 2 = 4 then r = some (.int (-1004)) ∧ S' = S else r = some (.int (gI S 11 2)) ∧ S' = wI (wA (wA S 12 (upd (gA S 12) (gI S 11 2).toNatClampNeg x)) 13 (upd (gA S 13) (gI S 11 2).toNatClampNeg y)) 11 2 (gI S 11 2 + 1)) := by
  refine fCtr.of bXX2_add (Nat.le_of_ble_eq_true rfl) rfl ?_
  refine fV.run iX2_add_0_5 oX2_add_0_5 (pc' := 9) (L' := [(0, .ref 11), (1, .int x), (2, .int y)]) (st' := [.int 4, .int (gI S 11 2)]) (S' := S) rfl trivial ?_
  refine fV.icmp_lt bX2_add_9 (fun c9 => ?_) (fun c9 => ?_)
  · refine fV.run iX2_add_16_5 oX2_add_16_5 (pc' := 23) (L' := [(0, .ref 11), (1, .int x), (2, .int y)]) (st' := [.int y, .int x, .int (gI S 11 2), .ref 11]) (S' := S) rfl trivial ?_
    refine fV.callV (M2 := mX2_put) (d := d) (o := 11) (av := [.int (gI S 11 2), .int x, .int y]) (rest := []) kX2_put dX2_add_23 lX2_28 rfl rfl rfl (Nat.le_of_ble_eq_true rfl) (fRoom (by decide)) ⟨Nat.le_refl _, Nat.le_refl _⟩ (qX2_put_11 _ _ _ (vin (by decide) (by grind [fB]) (by grind [fB]))) ?_
    rintro _ S9 ⟨rfl, h9⟩
    rw [h9]
    clear h9 S9
    refine fV.to (pc' := 26) (L' := [(0, .ref 11), (1, .int x), (2, .int y)]) (st' := []) (S' := (wA (wA S 12 (upd (gA S 12) (gI S 11 2).toNatClampNeg x)) 13 (upd (gA S 13) (gI S 11 2).toNatClampNeg y))) rfl rfl rfl rfl ?_
    refine fV.run iX2_add_26_10 oX2_add_26_10 (pc' := 42) (L' := [(0, .ref 11), (1, .int x), (2, .int y)]) (st' := [.int (((gI S 11 2) + 1) - 1)]) (S' := (wI (wA (wA S 12 (upd (gA S 12) (gI S 11 2).toNatClampNeg x)) 13 (upd (gA S 13) (gI S 11 2).toNatClampNeg y)) 11 2 ((gI S 11 2) + 1))) rfl trivial ?_
    exact fV.iret rfl dX2_add_42 (by rw [if_neg (by grind)]; exact ⟨by rw [Int32.add_sub_cancel], rfl⟩)
  · refine fV.run iX2_add_12_1 oX2_add_12_1 (pc' := 15) (L' := [(0, .ref 11), (1, .int x), (2, .int y)]) (st' := [.int (-1004)]) (S' := S) rfl trivial ?_
    exact fV.iret rfl dX2_add_15 (by rw [if_pos (by grind)]; exact ⟨rfl, rfl⟩)
set_option maxRecDepth 100000 in
theorem qX2_put_14 {G : fG} {d : Nat} {S : fS} (k x y : Int32) (hk : vp_in k 8) : fCtr G (d) mX2_put [.ref 14, .int k, .int x, .int y] S (fun r S' => r = none ∧ S' = wA (wA S 15 (upd (gA S 15) k.toNatClampNeg x)) 16 (upd (gA S 16) k.toNatClampNeg y)) := by
  refine fCtr.of bXX2_put (Nat.le_of_ble_eq_true rfl) rfl ?_
  refine fV.run iX2_put_0_10 oX2_put_0_10 (pc' := 14) (L' := [(0, .ref 14), (1, .int k), (2, .int x), (3, .int y)]) (st' := []) (S' := (wA (wA S 15 (upd (gA S 15) k.toNatClampNeg x)) 16 (upd (gA S 16) k.toNatClampNeg y))) (P := vp_in k 8 ∧ vp_in k 8 ∧ True) rfl ⟨hk, hk, trivial⟩ ?_
  exact fV.vret rfl dX2_put_14 ⟨rfl, rfl⟩
set_option maxRecDepth 100000 in
theorem qX2_add_14 {G : fG} {d : Nat} {S : fS} (x y : Int32) (h0 : 0 ≤ gI S 14 2) (h8 : gI S 14 2 ≤ 8) : fCtr G (d + 1) mX2_add [.ref 14, .int x, .int y] S (fun r S' => if gI S 14 2 = 8 then r = some (.int (-1004)) ∧ S' = S else r = some (.int (gI S 14 2)) ∧ S' = wI (wA (wA S 15 (upd (gA S 15) (gI S 14 2).toNatClampNeg x)) 16 (upd (gA S 16) (gI S 14 2).toNatClampNeg y)) 14 2 (gI S 14 2 + 1)) := by
  refine fCtr.of bXX2_add (Nat.le_of_ble_eq_true rfl) rfl ?_
  refine fV.run iX2_add_0_5 oX2_add_0_5 (pc' := 9) (L' := [(0, .ref 14), (1, .int x), (2, .int y)]) (st' := [.int 8, .int (gI S 14 2)]) (S' := S) rfl trivial ?_
  refine fV.icmp_lt bX2_add_9 (fun c9 => ?_) (fun c9 => ?_)
  · refine fV.run iX2_add_16_5 oX2_add_16_5 (pc' := 23) (L' := [(0, .ref 14), (1, .int x), (2, .int y)]) (st' := [.int y, .int x, .int (gI S 14 2), .ref 14]) (S' := S) rfl trivial ?_
    refine fV.callV (M2 := mX2_put) (d := d) (o := 14) (av := [.int (gI S 14 2), .int x, .int y]) (rest := []) kX2_put dX2_add_23 lX2_28 rfl rfl rfl (Nat.le_of_ble_eq_true rfl) (fRoom (by decide)) ⟨Nat.le_refl _, Nat.le_refl _⟩ (qX2_put_14 _ _ _ (vin (by decide) (by grind [fB]) (by grind [fB]))) ?_
    rintro _ S9 ⟨rfl, h9⟩
    rw [h9]
    clear h9 S9
    refine fV.to (pc' := 26) (L' := [(0, .ref 14), (1, .int x), (2, .int y)]) (st' := []) (S' := (wA (wA S 15 (upd (gA S 15) (gI S 14 2).toNatClampNeg x)) 16 (upd (gA S 16) (gI S 14 2).toNatClampNeg y))) rfl rfl rfl rfl ?_
    refine fV.run iX2_add_26_10 oX2_add_26_10 (pc' := 42) (L' := [(0, .ref 14), (1, .int x), (2, .int y)]) (st' := [.int (((gI S 14 2) + 1) - 1)]) (S' := (wI (wA (wA S 15 (upd (gA S 15) (gI S 14 2).toNatClampNeg x)) 16 (upd (gA S 16) (gI S 14 2).toNatClampNeg y)) 14 2 ((gI S 14 2) + 1))) rfl trivial ?_
    exact fV.iret rfl dX2_add_42 (by rw [if_neg (by grind)]; exact ⟨by rw [Int32.add_sub_cancel], rfl⟩)
  · refine fV.run iX2_add_12_1 oX2_add_12_1 (pc' := 15) (L' := [(0, .ref 14), (1, .int x), (2, .int y)]) (st' := [.int (-1004)]) (S' := S) rfl trivial ?_
    exact fV.iret rfl dX2_add_15 (by rw [if_pos (by grind)]; exact ⟨rfl, rfl⟩)
theorem upd_at {f : Nat → Int32} {k : Nat} {x : Int32} : upd f k x k = x := pk_us
theorem upd_ne {f : Nat → Int32} {k j : Nat} {x : Int32} (h : j ≠ k) : upd f k x j = f j := pk_un h
theorem cl4 {b : Nat} (hb : b < 1000) : (4 * nI b).toNatClampNeg = 4 * b ∧ (4 * nI b + 1).toNatClampNeg = 4 * b + 1 ∧ (4 * nI b + 2).toNatClampNeg = 4 * b + 2 ∧ (4 * nI b + 3).toNatClampNeg = 4 * b + 3 := by
  have e : ∀ j : Nat, (4 * nI b + nI j) = nI (4 * b + j) := fun j => by simp [nI, Int32.ofNat_add, Int32.ofNat_mul]
  have e0 : (4 * nI b) = nI (4 * b) := by simp [nI, Int32.ofNat_mul]
  refine ⟨by rw [e0, nI_clamp (by omega)], ?_, ?_, ?_⟩
  · rw [show (1 : Int32) = nI 1 from rfl, e 1, nI_clamp (by omega)]
  · rw [show (2 : Int32) = nI 2 from rfl, e 2, nI_clamp (by omega)]
  · rw [show (3 : Int32) = nI 3 from rfl, e 3, nI_clamp (by omega)]
theorem oEnds_lo {en : Nat → Int32} {b i : Nat} {x0 y0 x1 y1 : Int32} (hb : b < 1000) (h : i < 4 * b) : oEnds en (nI b) x0 y0 x1 y1 i = en i := by
  obtain ⟨h0, h1, h2, h3⟩ := cl4 hb
  unfold oEnds
  rw [h0, h1, h2, h3, upd_ne (by omega), upd_ne (by omega), upd_ne (by omega), upd_ne (by omega)]
theorem oEnds_at {en : Nat → Int32} {b : Nat} {x0 y0 x1 y1 : Int32} (hb : b < 1000) : oEnds en (nI b) x0 y0 x1 y1 (4 * b) = x0 ∧ oEnds en (nI b) x0 y0 x1 y1 (4 * b + 1) = y0 ∧ oEnds en (nI b) x0 y0 x1 y1 (4 * b + 2) = x1 ∧ oEnds en (nI b) x0 y0 x1 y1 (4 * b + 3) = y1 := by
  obtain ⟨h0, h1, h2, h3⟩ := cl4 hb
  unfold oEnds
  rw [h0, h1, h2, h3]
  refine ⟨?_, ?_, ?_, ?_⟩
  · rw [upd_ne (by omega), upd_ne (by omega), upd_ne (by omega), upd_at]
  · rw [upd_ne (by omega), upd_ne (by omega), upd_at]
  · rw [upd_ne (by omega), upd_at]
  · rw [upd_at]
/-- behind Walls.add -/
def gWadd (S S' : fS) (x0 y0 x1 y1 m : Int32) : Prop := S'.2 = S.2 ∧ hC S' = ((hC S).1, (gI S 4 6 + 1, oEnds (gA S 5) (gI S 4 6) x0 y0 x1 y1, upd (gA S 6) (gI S 4 6).toNatClampNeg m), (hC S).2.2) ∧
  gA S' 7 = upd (gA S 7) (gI S 4 6).toNatClampNeg (if x0 = x1 then 0 else 1) ∧ gA S' 8 = upd (gA S 8) (gI S 4 6).toNatClampNeg (if x0 = x1 then x0 else y0) ∧
  gA S' 9 = upd (gA S 9) (gI S 4 6).toNatClampNeg (if x0 = x1 then (if y1 < y0 then y1 else y0) else (if x1 < x0 then x1 else x0)) ∧ gA S' 10 = upd (gA S 10) (gI S 4 6).toNatClampNeg (if x0 = x1 then (if y0 < y1 then y1 else y0) else (if x0 < x1 then x1 else x0))
theorem geo_add {S S' : fS} {x0 y0 x1 y1 m : Int32} {b : Nat} (h : gWadd S S' x0 y0 x1 y1 m) (hb : gI S 4 6 = nI b) (hb16 : b < 1000) (hg : hGeo S b) : hGeo S' (b + 1) := by
  obtain ⟨-, h1, h7, h8, h9, h10⟩ := h
  have h5 : gA S' 5 = oEnds (gA S 5) (gI S 4 6) x0 y0 x1 y1 := congrArg (fun q => q.2.1.2.1) h1
  rw [hb, nI_clamp (by omega)] at h7 h8 h9 h10
  rw [hb] at h5
  intro w hw
  rw [h7, h8, h9, h10, h5]
  by_cases e : w = b
  · subst e
    obtain ⟨a0, a1, a2, a3⟩ := oEnds_at (en := gA S 5) (x0 := x0) (y0 := y0) (x1 := x1) (y1 := y1) hb16
    simp only [upd_at, hAxI, hLine, hLow, hHigh, a0, a1, a2, a3, and_self]
  · have hw2 : w < b := by omega
    obtain ⟨g1, g2, g3, g4⟩ := hg w hw2
    have q0 := oEnds_lo (en := gA S 5) (x0 := x0) (y0 := y0) (x1 := x1) (y1 := y1) hb16 (show 4 * w < 4 * b by omega)
    have q1 := oEnds_lo (en := gA S 5) (x0 := x0) (y0 := y0) (x1 := x1) (y1 := y1) hb16 (show 4 * w + 1 < 4 * b by omega)
    have q2 := oEnds_lo (en := gA S 5) (x0 := x0) (y0 := y0) (x1 := x1) (y1 := y1) hb16 (show 4 * w + 2 < 4 * b by omega)
    have q3 := oEnds_lo (en := gA S 5) (x0 := x0) (y0 := y0) (x1 := x1) (y1 := y1) hb16 (show 4 * w + 3 < 4 * b by omega)
    rw [upd_ne e, upd_ne e, upd_ne e, upd_ne e, g1, g2, g3, g4]
    simp only [hAxI, hLine, hLow, hHigh, q0, q1, q2, q3, and_self]
def iX6_add_0_3 : List Instr := [.aload_n 0, .getfield 30, .bipush 16]
theorem oX6_add_0_3 : fOkB cX6_add 0 iX6_add_0_3 = true := by decide +kernel
theorem bX6_add_6 : fBk cX6_add 6 (.if_icmp .lt) 13 := ⟨7, by decide +kernel, by decide⟩
def iX6_add_13_46 : List Instr := [.aload_n 0, .getfield 9, .iconst 4, .aload_n 0, .getfield 30, .imul, .iload_n 1, .iastore, .aload_n 0, .getfield 9, .iconst 4, .aload_n 0, .getfield 30, .imul, .iconst 1, .iadd, .iload_n 2, .iastore, .aload_n 0, .getfield 9, .iconst 4, .aload_n 0, .getfield 30, .imul, .iconst 2, .iadd, .iload_n 3, .iastore, .aload_n 0, .getfield 9, .iconst 4, .aload_n 0, .getfield 30, .imul, .iconst 3, .iadd, .iload 4, .iastore, .aload_n 0, .getfield 15, .aload_n 0, .getfield 30, .iload 5, .iastore, .iload_n 1, .iload_n 3]
theorem oX6_add_13_46 : fOkB cX6_add 13 iX6_add_13_46 = true := by decide +kernel
theorem bX6_add_81 : fBk cX6_add 81 (.if_icmp .ne) 88 := ⟨7, by decide +kernel, by decide⟩
def iX6_add_88_7 : List Instr := [.iconst 0, .istore 6, .aload_n 0, .getfield 18, .aload_n 0, .getfield 30, .iload 6]
theorem oX6_add_88_7 : fOkB cX6_add 88 iX6_add_88_7 = true := by decide +kernel
theorem bX6_add_101 : fBk cX6_add 101 (.ifCond .eq) 108 := ⟨7, by decide +kernel, by decide⟩
def iX6_add_108_7 : List Instr := [.iconst 1, .iastore, .aload_n 0, .getfield 21, .aload_n 0, .getfield 30, .iload 6]
theorem oX6_add_108_7 : fOkB cX6_add 108 iX6_add_108_7 = true := by decide +kernel
theorem bX6_add_120 : fBk cX6_add 120 (.ifCond .eq) 127 := ⟨7, by decide +kernel, by decide⟩
def iX6_add_127_7 : List Instr := [.iload_n 2, .iastore, .aload_n 0, .getfield 24, .aload_n 0, .getfield 30, .iload 6]
theorem oX6_add_127_7 : fOkB cX6_add 127 iX6_add_127_7 = true := by decide +kernel
theorem bX6_add_139 : fBk cX6_add 139 (.ifCond .eq) 151 := ⟨12, by decide +kernel, by decide⟩
def iX6_add_151_2 : List Instr := [.iload_n 1, .iload_n 3]
theorem oX6_add_151_2 : fOkB cX6_add 151 iX6_add_151_2 = true := by decide +kernel
set_option maxRecDepth 100000 in
theorem lX6_34 : Cond.methodLink RX6 34 yJ9_min_7cf53 ∈ fTB := fTB_at 349 rfl rfl
theorem dX6_add_153 : decode cX6_add 153 = .ok (.invokestatic 34, 3) := by decide +kernel
def iX6_add_156_6 : List Instr := [.iastore, .aload_n 0, .getfield 27, .aload_n 0, .getfield 30, .iload 6]
theorem oX6_add_156_6 : fOkB cX6_add 156 iX6_add_156_6 = true := by decide +kernel
theorem bX6_add_167 : fBk cX6_add 167 (.ifCond .eq) 179 := ⟨12, by decide +kernel, by decide⟩
def iX6_add_179_2 : List Instr := [.iload_n 1, .iload_n 3]
theorem oX6_add_179_2 : fOkB cX6_add 179 iX6_add_179_2 = true := by decide +kernel
set_option maxRecDepth 100000 in
theorem lX6_40 : Cond.methodLink RX6 40 yJ9_max_7cf53 ∈ fTB := fTB_at 352 rfl rfl
theorem dX6_add_181 : decode cX6_add 181 = .ok (.invokestatic 40, 3) := by decide +kernel
def iX6_add_184_11 : List Instr := [.iastore, .aload_n 0, .dup, .getfield 30, .iconst 1, .iadd, .putfield 30, .aload_n 0, .getfield 30, .iconst 1, .isub]
theorem oX6_add_184_11 : fOkB cX6_add 184 iX6_add_184_11 = true := by decide +kernel
theorem dX6_add_201 : decode cX6_add 201 = .ok (.ireturn, 1) := by decide +kernel
def iX6_add_84_8 : List Instr := [.iconst 1, .goto 4, .istore 6, .aload_n 0, .getfield 18, .aload_n 0, .getfield 30, .iload 6]
theorem oX6_add_84_8 : fOkB cX6_add 84 iX6_add_84_8 = true := by decide +kernel
def iX6_add_104_8 : List Instr := [.iconst 0, .goto 4, .iastore, .aload_n 0, .getfield 21, .aload_n 0, .getfield 30, .iload 6]
theorem oX6_add_104_8 : fOkB cX6_add 104 iX6_add_104_8 = true := by decide +kernel
def iX6_add_123_8 : List Instr := [.iload_n 1, .goto 4, .iastore, .aload_n 0, .getfield 24, .aload_n 0, .getfield 30, .iload 6]
theorem oX6_add_123_8 : fOkB cX6_add 123 iX6_add_123_8 = true := by decide +kernel
def iX6_add_142_2 : List Instr := [.iload_n 2, .iload 4]
theorem oX6_add_142_2 : fOkB cX6_add 142 iX6_add_142_2 = true := by decide +kernel
theorem dX6_add_145 : decode cX6_add 145 = .ok (.invokestatic 34, 3) := by decide +kernel
def iX6_add_148_7 : List Instr := [.goto 8, .iastore, .aload_n 0, .getfield 27, .aload_n 0, .getfield 30, .iload 6]
theorem oX6_add_148_7 : fOkB cX6_add 148 iX6_add_148_7 = true := by decide +kernel
def iX6_add_170_2 : List Instr := [.iload_n 2, .iload 4]
theorem oX6_add_170_2 : fOkB cX6_add 170 iX6_add_170_2 = true := by decide +kernel
theorem dX6_add_173 : decode cX6_add 173 = .ok (.invokestatic 40, 3) := by decide +kernel
def iX6_add_176_12 : List Instr := [.goto 8, .iastore, .aload_n 0, .dup, .getfield 30, .iconst 1, .iadd, .putfield 30, .aload_n 0, .getfield 30, .iconst 1, .isub]
theorem oX6_add_176_12 : fOkB cX6_add 176 iX6_add_176_12 = true := by decide +kernel
def iX6_add_9_1 : List Instr := [.sipush (-1004)]
theorem oX6_add_9_1 : fOkB cX6_add 9 iX6_add_9_1 = true := by decide +kernel
theorem dX6_add_12 : decode cX6_add 12 = .ok (.ireturn, 1) := by decide +kernel
set_option maxRecDepth 100000 in
theorem qX6_add {G : fG} {d : Nat} {S : fS} (x0 y0 x1 y1 m : Int32) (h0 : 0 ≤ gI S 4 6) (h8 : gI S 4 6 ≤ 16) : fCtr G (d + 1) mX6_add [.ref 4, .int x0, .int y0, .int x1, .int y1, .int m] S (fun r S' => if gI S 4 6 = 16 then r = some (.int (-1004)) ∧ S' = S else r = some (.int (gI S 4 6)) ∧ gWadd S S' x0 y0 x1 y1 m) := by
  refine fCtr.of bXX6_add (Nat.le_of_ble_eq_true rfl) rfl ?_
  refine fV.run iX6_add_0_3 oX6_add_0_3 (pc' := 6) (L' := [(0, .ref 4), (1, .int x0), (2, .int y0), (3, .int x1), (4, .int y1), (5, .int m)]) (st' := [.int 16, .int (gI S 4 6)]) (S' := S) rfl trivial ?_
  refine fV.icmp_lt bX6_add_6 (fun c6 => ?_) (fun c6 => ?_)
  · refine fV.run iX6_add_13_46 oX6_add_13_46 (pc' := 81) (L' := [(0, .ref 4), (1, .int x0), (2, .int y0), (3, .int x1), (4, .int y1), (5, .int m)]) (st' := [.int x1, .int x0]) (S' := (wA (wA (wA (wA (wA S 5 (upd (gA S 5) (4 * (gI S 4 6)).toNatClampNeg x0)) 5 (upd (upd (gA S 5) (4 * (gI S 4 6)).toNatClampNeg x0) ((4 * (gI S 4 6)) + 1).toNatClampNeg y0)) 5 (upd (upd (upd (gA S 5) (4 * (gI S 4 6)).toNatClampNeg x0) ((4 * (gI S 4 6)) + 1).toNatClampNeg y0) ((4 * (gI S 4 6)) + 2).toNatClampNeg x1)) 5 (upd (upd (upd (upd (gA S 5) (4 * (gI S 4 6)).toNatClampNeg x0) ((4 * (gI S 4 6)) + 1).toNatClampNeg y0) ((4 * (gI S 4 6)) + 2).toNatClampNeg x1) ((4 * (gI S 4 6)) + 3).toNatClampNeg y1)) 6 (upd (gA S 6) (gI S 4 6).toNatClampNeg m))) (P := vp_in (4 * (gI S 4 6)) 64 ∧ vp_in ((4 * (gI S 4 6)) + 1) 64 ∧ vp_in ((4 * (gI S 4 6)) + 2) 64 ∧ vp_in ((4 * (gI S 4 6)) + 3) 64 ∧ vp_in (gI S 4 6) 16 ∧ True) rfl ⟨(vin (by decide) (by grind [fB]) (by grind [fB])), (vin (by decide) (by grind [fB]) (by grind [fB])), (vin (by decide) (by grind [fB]) (by grind [fB])), (vin (by decide) (by grind [fB]) (by grind [fB])), (vin (by decide) (by grind [fB]) (by grind [fB])), trivial⟩ ?_
    refine fV.icmp_ne bX6_add_81 (fun c81 => ?_) (fun c81 => ?_)
    · refine fV.run iX6_add_88_7 oX6_add_88_7 (pc' := 101) (L' := [(0, .ref 4), (1, .int x0), (2, .int y0), (3, .int x1), (4, .int y1), (5, .int m), (6, .int 0)]) (st' := [.int 0, .int (gI S 4 6), .ref 7]) (S' := (wA (wA (wA (wA (wA S 5 (upd (gA S 5) (4 * (gI S 4 6)).toNatClampNeg x0)) 5 (upd (upd (gA S 5) (4 * (gI S 4 6)).toNatClampNeg x0) ((4 * (gI S 4 6)) + 1).toNatClampNeg y0)) 5 (upd (upd (upd (gA S 5) (4 * (gI S 4 6)).toNatClampNeg x0) ((4 * (gI S 4 6)) + 1).toNatClampNeg y0) ((4 * (gI S 4 6)) + 2).toNatClampNeg x1)) 5 (upd (upd (upd (upd (gA S 5) (4 * (gI S 4 6)).toNatClampNeg x0) ((4 * (gI S 4 6)) + 1).toNatClampNeg y0) ((4 * (gI S 4 6)) + 2).toNatClampNeg x1) ((4 * (gI S 4 6)) + 3).toNatClampNeg y1)) 6 (upd (gA S 6) (gI S 4 6).toNatClampNeg m))) rfl trivial ?_
      refine fV.if_eq bX6_add_101 (fun c101 => ?_) (fun c101 => ?_)
      · refine fV.run iX6_add_108_7 oX6_add_108_7 (pc' := 120) (L' := [(0, .ref 4), (1, .int x0), (2, .int y0), (3, .int x1), (4, .int y1), (5, .int m), (6, .int 0)]) (st' := [.int 0, .int (gI S 4 6), .ref 8]) (S' := (wA (wA (wA (wA (wA (wA S 5 (upd (gA S 5) (4 * (gI S 4 6)).toNatClampNeg x0)) 5 (upd (upd (gA S 5) (4 * (gI S 4 6)).toNatClampNeg x0) ((4 * (gI S 4 6)) + 1).toNatClampNeg y0)) 5 (upd (upd (upd (gA S 5) (4 * (gI S 4 6)).toNatClampNeg x0) ((4 * (gI S 4 6)) + 1).toNatClampNeg y0) ((4 * (gI S 4 6)) + 2).toNatClampNeg x1)) 5 (upd (upd (upd (upd (gA S 5) (4 * (gI S 4 6)).toNatClampNeg x0) ((4 * (gI S 4 6)) + 1).toNatClampNeg y0) ((4 * (gI S 4 6)) + 2).toNatClampNeg x1) ((4 * (gI S 4 6)) + 3).toNatClampNeg y1)) 6 (upd (gA S 6) (gI S 4 6).toNatClampNeg m)) 7 (upd (gA S 7) (gI S 4 6).toNatClampNeg 1))) (P := vp_in (gI S 4 6) 16 ∧ True) rfl ⟨(vin (by decide) (by grind [fB]) (by grind [fB])), trivial⟩ ?_
        refine fV.if_eq bX6_add_120 (fun c120 => ?_) (fun c120 => ?_)
        · refine fV.run iX6_add_127_7 oX6_add_127_7 (pc' := 139) (L' := [(0, .ref 4), (1, .int x0), (2, .int y0), (3, .int x1), (4, .int y1), (5, .int m), (6, .int 0)]) (st' := [.int 0, .int (gI S 4 6), .ref 9]) (S' := (wA (wA (wA (wA (wA (wA (wA S 5 (upd (gA S 5) (4 * (gI S 4 6)).toNatClampNeg x0)) 5 (upd (upd (gA S 5) (4 * (gI S 4 6)).toNatClampNeg x0) ((4 * (gI S 4 6)) + 1).toNatClampNeg y0)) 5 (upd (upd (upd (gA S 5) (4 * (gI S 4 6)).toNatClampNeg x0) ((4 * (gI S 4 6)) + 1).toNatClampNeg y0) ((4 * (gI S 4 6)) + 2).toNatClampNeg x1)) 5 (upd (upd (upd (upd (gA S 5) (4 * (gI S 4 6)).toNatClampNeg x0) ((4 * (gI S 4 6)) + 1).toNatClampNeg y0) ((4 * (gI S 4 6)) + 2).toNatClampNeg x1) ((4 * (gI S 4 6)) + 3).toNatClampNeg y1)) 6 (upd (gA S 6) (gI S 4 6).toNatClampNeg m)) 7 (upd (gA S 7) (gI S 4 6).toNatClampNeg 1)) 8 (upd (gA S 8) (gI S 4 6).toNatClampNeg y0))) (P := vp_in (gI S 4 6) 16 ∧ True) rfl ⟨(vin (by decide) (by grind [fB]) (by grind [fB])), trivial⟩ ?_
          refine fV.if_eq bX6_add_139 (fun c139 => ?_) (fun c139 => ?_)
          · refine fV.run iX6_add_151_2 oX6_add_151_2 (pc' := 153) (L' := [(0, .ref 4), (1, .int x0), (2, .int y0), (3, .int x1), (4, .int y1), (5, .int m), (6, .int 0)]) (st' := [.int x1, .int x0, .int (gI S 4 6), .ref 9]) (S' := (wA (wA (wA (wA (wA (wA (wA S 5 (upd (gA S 5) (4 * (gI S 4 6)).toNatClampNeg x0)) 5 (upd (upd (gA S 5) (4 * (gI S 4 6)).toNatClampNeg x0) ((4 * (gI S 4 6)) + 1).toNatClampNeg y0)) 5 (upd (upd (upd (gA S 5) (4 * (gI S 4 6)).toNatClampNeg x0) ((4 * (gI S 4 6)) + 1).toNatClampNeg y0) ((4 * (gI S 4 6)) + 2).toNatClampNeg x1)) 5 (upd (upd (upd (upd (gA S 5) (4 * (gI S 4 6)).toNatClampNeg x0) ((4 * (gI S 4 6)) + 1).toNatClampNeg y0) ((4 * (gI S 4 6)) + 2).toNatClampNeg x1) ((4 * (gI S 4 6)) + 3).toNatClampNeg y1)) 6 (upd (gA S 6) (gI S 4 6).toNatClampNeg m)) 7 (upd (gA S 7) (gI S 4 6).toNatClampNeg 1)) 8 (upd (gA S 8) (gI S 4 6).toNatClampNeg y0))) rfl trivial ?_
            refine fV.mmin dX6_add_153 lX6_34 (fRoomN (Nat.le_of_ble_eq_true rfl)) ?_
            refine fV.run iX6_add_156_6 oX6_add_156_6 (pc' := 167) (L' := [(0, .ref 4), (1, .int x0), (2, .int y0), (3, .int x1), (4, .int y1), (5, .int m), (6, .int 0)]) (st' := [.int 0, .int (gI S 4 6), .ref 10]) (S' := (wA (wA (wA (wA (wA (wA (wA (wA S 5 (upd (gA S 5) (4 * (gI S 4 6)).toNatClampNeg x0)) 5 (upd (upd (gA S 5) (4 * (gI S 4 6)).toNatClampNeg x0) ((4 * (gI S 4 6)) + 1).toNatClampNeg y0)) 5 (upd (upd (upd (gA S 5) (4 * (gI S 4 6)).toNatClampNeg x0) ((4 * (gI S 4 6)) + 1).toNatClampNeg y0) ((4 * (gI S 4 6)) + 2).toNatClampNeg x1)) 5 (upd (upd (upd (upd (gA S 5) (4 * (gI S 4 6)).toNatClampNeg x0) ((4 * (gI S 4 6)) + 1).toNatClampNeg y0) ((4 * (gI S 4 6)) + 2).toNatClampNeg x1) ((4 * (gI S 4 6)) + 3).toNatClampNeg y1)) 6 (upd (gA S 6) (gI S 4 6).toNatClampNeg m)) 7 (upd (gA S 7) (gI S 4 6).toNatClampNeg 1)) 8 (upd (gA S 8) (gI S 4 6).toNatClampNeg y0)) 9 (upd (gA S 9) (gI S 4 6).toNatClampNeg (if x1 < x0 then x1 else x0)))) (P := vp_in (gI S 4 6) 16 ∧ True) rfl ⟨(vin (by decide) (by grind [fB]) (by grind [fB])), trivial⟩ ?_
            refine fV.if_eq bX6_add_167 (fun c167 => ?_) (fun c167 => ?_)
            · refine fV.run iX6_add_179_2 oX6_add_179_2 (pc' := 181) (L' := [(0, .ref 4), (1, .int x0), (2, .int y0), (3, .int x1), (4, .int y1), (5, .int m), (6, .int 0)]) (st' := [.int x1, .int x0, .int (gI S 4 6), .ref 10]) (S' := (wA (wA (wA (wA (wA (wA (wA (wA S 5 (upd (gA S 5) (4 * (gI S 4 6)).toNatClampNeg x0)) 5 (upd (upd (gA S 5) (4 * (gI S 4 6)).toNatClampNeg x0) ((4 * (gI S 4 6)) + 1).toNatClampNeg y0)) 5 (upd (upd (upd (gA S 5) (4 * (gI S 4 6)).toNatClampNeg x0) ((4 * (gI S 4 6)) + 1).toNatClampNeg y0) ((4 * (gI S 4 6)) + 2).toNatClampNeg x1)) 5 (upd (upd (upd (upd (gA S 5) (4 * (gI S 4 6)).toNatClampNeg x0) ((4 * (gI S 4 6)) + 1).toNatClampNeg y0) ((4 * (gI S 4 6)) + 2).toNatClampNeg x1) ((4 * (gI S 4 6)) + 3).toNatClampNeg y1)) 6 (upd (gA S 6) (gI S 4 6).toNatClampNeg m)) 7 (upd (gA S 7) (gI S 4 6).toNatClampNeg 1)) 8 (upd (gA S 8) (gI S 4 6).toNatClampNeg y0)) 9 (upd (gA S 9) (gI S 4 6).toNatClampNeg (if x1 < x0 then x1 else x0)))) rfl trivial ?_
              refine fV.mmax dX6_add_181 lX6_40 (fRoomN (Nat.le_of_ble_eq_true rfl)) ?_
              refine fV.run iX6_add_184_11 oX6_add_184_11 (pc' := 201) (L' := [(0, .ref 4), (1, .int x0), (2, .int y0), (3, .int x1), (4, .int y1), (5, .int m), (6, .int 0)]) (st' := [.int (((gI S 4 6) + 1) - 1)]) (S' := (wI (wA (wA (wA (wA (wA (wA (wA (wA (wA S 5 (upd (gA S 5) (4 * (gI S 4 6)).toNatClampNeg x0)) 5 (upd (upd (gA S 5) (4 * (gI S 4 6)).toNatClampNeg x0) ((4 * (gI S 4 6)) + 1).toNatClampNeg y0)) 5 (upd (upd (upd (gA S 5) (4 * (gI S 4 6)).toNatClampNeg x0) ((4 * (gI S 4 6)) + 1).toNatClampNeg y0) ((4 * (gI S 4 6)) + 2).toNatClampNeg x1)) 5 (upd (upd (upd (upd (gA S 5) (4 * (gI S 4 6)).toNatClampNeg x0) ((4 * (gI S 4 6)) + 1).toNatClampNeg y0) ((4 * (gI S 4 6)) + 2).toNatClampNeg x1) ((4 * (gI S 4 6)) + 3).toNatClampNeg y1)) 6 (upd (gA S 6) (gI S 4 6).toNatClampNeg m)) 7 (upd (gA S 7) (gI S 4 6).toNatClampNeg 1)) 8 (upd (gA S 8) (gI S 4 6).toNatClampNeg y0)) 9 (upd (gA S 9) (gI S 4 6).toNatClampNeg (if x1 < x0 then x1 else x0))) 10 (upd (gA S 10) (gI S 4 6).toNatClampNeg (if x0 < x1 then x1 else x0))) 4 6 ((gI S 4 6) + 1))) (P := vp_in (gI S 4 6) 16 ∧ True) rfl ⟨(vin (by decide) (by grind [fB]) (by grind [fB])), trivial⟩ ?_
              exact fV.iret rfl dX6_add_201 (by rw [if_neg (by grind)]; exact ⟨by rw [Int32.add_sub_cancel], rfl, rfl, by simp only [if_neg c81]; rfl, by simp only [if_neg c81]; rfl, by simp only [if_neg c81]; rfl, by simp only [if_neg c81]; rfl⟩)
            · exact absurd c167 (by decide)
          · exact absurd c139 (by decide)
        · exact absurd c120 (by decide)
      · exact absurd c101 (by decide)
    · refine fV.run iX6_add_84_8 oX6_add_84_8 (pc' := 101) (L' := [(0, .ref 4), (1, .int x0), (2, .int y0), (3, .int x1), (4, .int y1), (5, .int m), (6, .int 1)]) (st' := [.int 1, .int (gI S 4 6), .ref 7]) (S' := (wA (wA (wA (wA (wA S 5 (upd (gA S 5) (4 * (gI S 4 6)).toNatClampNeg x0)) 5 (upd (upd (gA S 5) (4 * (gI S 4 6)).toNatClampNeg x0) ((4 * (gI S 4 6)) + 1).toNatClampNeg y0)) 5 (upd (upd (upd (gA S 5) (4 * (gI S 4 6)).toNatClampNeg x0) ((4 * (gI S 4 6)) + 1).toNatClampNeg y0) ((4 * (gI S 4 6)) + 2).toNatClampNeg x1)) 5 (upd (upd (upd (upd (gA S 5) (4 * (gI S 4 6)).toNatClampNeg x0) ((4 * (gI S 4 6)) + 1).toNatClampNeg y0) ((4 * (gI S 4 6)) + 2).toNatClampNeg x1) ((4 * (gI S 4 6)) + 3).toNatClampNeg y1)) 6 (upd (gA S 6) (gI S 4 6).toNatClampNeg m))) rfl trivial ?_
      refine fV.if_eq bX6_add_101 (fun c101 => ?_) (fun c101 => ?_)
      · exact absurd c101 (by decide)
      · refine fV.run iX6_add_104_8 oX6_add_104_8 (pc' := 120) (L' := [(0, .ref 4), (1, .int x0), (2, .int y0), (3, .int x1), (4, .int y1), (5, .int m), (6, .int 1)]) (st' := [.int 1, .int (gI S 4 6), .ref 8]) (S' := (wA (wA (wA (wA (wA (wA S 5 (upd (gA S 5) (4 * (gI S 4 6)).toNatClampNeg x0)) 5 (upd (upd (gA S 5) (4 * (gI S 4 6)).toNatClampNeg x0) ((4 * (gI S 4 6)) + 1).toNatClampNeg y0)) 5 (upd (upd (upd (gA S 5) (4 * (gI S 4 6)).toNatClampNeg x0) ((4 * (gI S 4 6)) + 1).toNatClampNeg y0) ((4 * (gI S 4 6)) + 2).toNatClampNeg x1)) 5 (upd (upd (upd (upd (gA S 5) (4 * (gI S 4 6)).toNatClampNeg x0) ((4 * (gI S 4 6)) + 1).toNatClampNeg y0) ((4 * (gI S 4 6)) + 2).toNatClampNeg x1) ((4 * (gI S 4 6)) + 3).toNatClampNeg y1)) 6 (upd (gA S 6) (gI S 4 6).toNatClampNeg m)) 7 (upd (gA S 7) (gI S 4 6).toNatClampNeg 0))) (P := vp_in (gI S 4 6) 16 ∧ True) rfl ⟨(vin (by decide) (by grind [fB]) (by grind [fB])), trivial⟩ ?_
        refine fV.if_eq bX6_add_120 (fun c120 => ?_) (fun c120 => ?_)
        · exact absurd c120 (by decide)
        · refine fV.run iX6_add_123_8 oX6_add_123_8 (pc' := 139) (L' := [(0, .ref 4), (1, .int x0), (2, .int y0), (3, .int x1), (4, .int y1), (5, .int m), (6, .int 1)]) (st' := [.int 1, .int (gI S 4 6), .ref 9]) (S' := (wA (wA (wA (wA (wA (wA (wA S 5 (upd (gA S 5) (4 * (gI S 4 6)).toNatClampNeg x0)) 5 (upd (upd (gA S 5) (4 * (gI S 4 6)).toNatClampNeg x0) ((4 * (gI S 4 6)) + 1).toNatClampNeg y0)) 5 (upd (upd (upd (gA S 5) (4 * (gI S 4 6)).toNatClampNeg x0) ((4 * (gI S 4 6)) + 1).toNatClampNeg y0) ((4 * (gI S 4 6)) + 2).toNatClampNeg x1)) 5 (upd (upd (upd (upd (gA S 5) (4 * (gI S 4 6)).toNatClampNeg x0) ((4 * (gI S 4 6)) + 1).toNatClampNeg y0) ((4 * (gI S 4 6)) + 2).toNatClampNeg x1) ((4 * (gI S 4 6)) + 3).toNatClampNeg y1)) 6 (upd (gA S 6) (gI S 4 6).toNatClampNeg m)) 7 (upd (gA S 7) (gI S 4 6).toNatClampNeg 0)) 8 (upd (gA S 8) (gI S 4 6).toNatClampNeg x0))) (P := vp_in (gI S 4 6) 16 ∧ True) rfl ⟨(vin (by decide) (by grind [fB]) (by grind [fB])), trivial⟩ ?_
          refine fV.if_eq bX6_add_139 (fun c139 => ?_) (fun c139 => ?_)
          · exact absurd c139 (by decide)
          · refine fV.run iX6_add_142_2 oX6_add_142_2 (pc' := 145) (L' := [(0, .ref 4), (1, .int x0), (2, .int y0), (3, .int x1), (4, .int y1), (5, .int m), (6, .int 1)]) (st' := [.int y1, .int y0, .int (gI S 4 6), .ref 9]) (S' := (wA (wA (wA (wA (wA (wA (wA S 5 (upd (gA S 5) (4 * (gI S 4 6)).toNatClampNeg x0)) 5 (upd (upd (gA S 5) (4 * (gI S 4 6)).toNatClampNeg x0) ((4 * (gI S 4 6)) + 1).toNatClampNeg y0)) 5 (upd (upd (upd (gA S 5) (4 * (gI S 4 6)).toNatClampNeg x0) ((4 * (gI S 4 6)) + 1).toNatClampNeg y0) ((4 * (gI S 4 6)) + 2).toNatClampNeg x1)) 5 (upd (upd (upd (upd (gA S 5) (4 * (gI S 4 6)).toNatClampNeg x0) ((4 * (gI S 4 6)) + 1).toNatClampNeg y0) ((4 * (gI S 4 6)) + 2).toNatClampNeg x1) ((4 * (gI S 4 6)) + 3).toNatClampNeg y1)) 6 (upd (gA S 6) (gI S 4 6).toNatClampNeg m)) 7 (upd (gA S 7) (gI S 4 6).toNatClampNeg 0)) 8 (upd (gA S 8) (gI S 4 6).toNatClampNeg x0))) rfl trivial ?_
            refine fV.mmin dX6_add_145 lX6_34 (fRoomN (Nat.le_of_ble_eq_true rfl)) ?_
            refine fV.run iX6_add_148_7 oX6_add_148_7 (pc' := 167) (L' := [(0, .ref 4), (1, .int x0), (2, .int y0), (3, .int x1), (4, .int y1), (5, .int m), (6, .int 1)]) (st' := [.int 1, .int (gI S 4 6), .ref 10]) (S' := (wA (wA (wA (wA (wA (wA (wA (wA S 5 (upd (gA S 5) (4 * (gI S 4 6)).toNatClampNeg x0)) 5 (upd (upd (gA S 5) (4 * (gI S 4 6)).toNatClampNeg x0) ((4 * (gI S 4 6)) + 1).toNatClampNeg y0)) 5 (upd (upd (upd (gA S 5) (4 * (gI S 4 6)).toNatClampNeg x0) ((4 * (gI S 4 6)) + 1).toNatClampNeg y0) ((4 * (gI S 4 6)) + 2).toNatClampNeg x1)) 5 (upd (upd (upd (upd (gA S 5) (4 * (gI S 4 6)).toNatClampNeg x0) ((4 * (gI S 4 6)) + 1).toNatClampNeg y0) ((4 * (gI S 4 6)) + 2).toNatClampNeg x1) ((4 * (gI S 4 6)) + 3).toNatClampNeg y1)) 6 (upd (gA S 6) (gI S 4 6).toNatClampNeg m)) 7 (upd (gA S 7) (gI S 4 6).toNatClampNeg 0)) 8 (upd (gA S 8) (gI S 4 6).toNatClampNeg x0)) 9 (upd (gA S 9) (gI S 4 6).toNatClampNeg (if y1 < y0 then y1 else y0)))) (P := vp_in (gI S 4 6) 16 ∧ True) rfl ⟨(vin (by decide) (by grind [fB]) (by grind [fB])), trivial⟩ ?_
            refine fV.if_eq bX6_add_167 (fun c167 => ?_) (fun c167 => ?_)
            · exact absurd c167 (by decide)
            · refine fV.run iX6_add_170_2 oX6_add_170_2 (pc' := 173) (L' := [(0, .ref 4), (1, .int x0), (2, .int y0), (3, .int x1), (4, .int y1), (5, .int m), (6, .int 1)]) (st' := [.int y1, .int y0, .int (gI S 4 6), .ref 10]) (S' := (wA (wA (wA (wA (wA (wA (wA (wA S 5 (upd (gA S 5) (4 * (gI S 4 6)).toNatClampNeg x0)) 5 (upd (upd (gA S 5) (4 * (gI S 4 6)).toNatClampNeg x0) ((4 * (gI S 4 6)) + 1).toNatClampNeg y0)) 5 (upd (upd (upd (gA S 5) (4 * (gI S 4 6)).toNatClampNeg x0) ((4 * (gI S 4 6)) + 1).toNatClampNeg y0) ((4 * (gI S 4 6)) + 2).toNatClampNeg x1)) 5 (upd (upd (upd (upd (gA S 5) (4 * (gI S 4 6)).toNatClampNeg x0) ((4 * (gI S 4 6)) + 1).toNatClampNeg y0) ((4 * (gI S 4 6)) + 2).toNatClampNeg x1) ((4 * (gI S 4 6)) + 3).toNatClampNeg y1)) 6 (upd (gA S 6) (gI S 4 6).toNatClampNeg m)) 7 (upd (gA S 7) (gI S 4 6).toNatClampNeg 0)) 8 (upd (gA S 8) (gI S 4 6).toNatClampNeg x0)) 9 (upd (gA S 9) (gI S 4 6).toNatClampNeg (if y1 < y0 then y1 else y0)))) rfl trivial ?_
              refine fV.mmax dX6_add_173 lX6_40 (fRoomN (Nat.le_of_ble_eq_true rfl)) ?_
              refine fV.run iX6_add_176_12 oX6_add_176_12 (pc' := 201) (L' := [(0, .ref 4), (1, .int x0), (2, .int y0), (3, .int x1), (4, .int y1), (5, .int m), (6, .int 1)]) (st' := [.int (((gI S 4 6) + 1) - 1)]) (S' := (wI (wA (wA (wA (wA (wA (wA (wA (wA (wA S 5 (upd (gA S 5) (4 * (gI S 4 6)).toNatClampNeg x0)) 5 (upd (upd (gA S 5) (4 * (gI S 4 6)).toNatClampNeg x0) ((4 * (gI S 4 6)) + 1).toNatClampNeg y0)) 5 (upd (upd (upd (gA S 5) (4 * (gI S 4 6)).toNatClampNeg x0) ((4 * (gI S 4 6)) + 1).toNatClampNeg y0) ((4 * (gI S 4 6)) + 2).toNatClampNeg x1)) 5 (upd (upd (upd (upd (gA S 5) (4 * (gI S 4 6)).toNatClampNeg x0) ((4 * (gI S 4 6)) + 1).toNatClampNeg y0) ((4 * (gI S 4 6)) + 2).toNatClampNeg x1) ((4 * (gI S 4 6)) + 3).toNatClampNeg y1)) 6 (upd (gA S 6) (gI S 4 6).toNatClampNeg m)) 7 (upd (gA S 7) (gI S 4 6).toNatClampNeg 0)) 8 (upd (gA S 8) (gI S 4 6).toNatClampNeg x0)) 9 (upd (gA S 9) (gI S 4 6).toNatClampNeg (if y1 < y0 then y1 else y0))) 10 (upd (gA S 10) (gI S 4 6).toNatClampNeg (if y0 < y1 then y1 else y0))) 4 6 ((gI S 4 6) + 1))) (P := vp_in (gI S 4 6) 16 ∧ True) rfl ⟨(vin (by decide) (by grind [fB]) (by grind [fB])), trivial⟩ ?_
              exact fV.iret rfl dX6_add_201 (by rw [if_neg (by grind)]; exact ⟨by rw [Int32.add_sub_cancel], rfl, rfl, by simp only [if_pos c81]; rfl, by simp only [if_pos c81]; rfl, by simp only [if_pos c81]; rfl, by simp only [if_pos c81]; rfl⟩)
  · refine fV.run iX6_add_9_1 oX6_add_9_1 (pc' := 12) (L' := [(0, .ref 4), (1, .int x0), (2, .int y0), (3, .int x1), (4, .int y1), (5, .int m)]) (st' := [.int (-1004)]) (S' := S) rfl trivial ?_
    exact fV.iret rfl dX6_add_12 (by rw [if_pos (by grind)]; exact ⟨rfl, rfl⟩)
def iX7_stuff_0_3 : List Instr := [.iload_n 1, .iconst 0, .bipush 100]
theorem oX7_stuff_0_3 : fOkB cX7_stuff 0 iX7_stuff_0_3 = true := by decide +kernel
theorem dX7_stuff_4 : decode cX7_stuff 4 = .ok (.invokestatic 74, 3) := by decide +kernel
theorem bX7_stuff_7 : fBk cX7_stuff 7 (.ifCond .eq) 21 := ⟨14, by decide +kernel, by decide⟩
def iX7_stuff_21_1 : List Instr := [.sipush (-1002)]
theorem oX7_stuff_21_1 : fOkB cX7_stuff 21 iX7_stuff_21_1 = true := by decide +kernel
theorem dX7_stuff_24 : decode cX7_stuff 24 = .ok (.ireturn, 1) := by decide +kernel
def iX7_stuff_10_3 : List Instr := [.iload_n 2, .iconst 0, .sipush 1000]
theorem oX7_stuff_10_3 : fOkB cX7_stuff 10 iX7_stuff_10_3 = true := by decide +kernel
theorem dX7_stuff_15 : decode cX7_stuff 15 = .ok (.invokestatic 74, 3) := by decide +kernel
theorem bX7_stuff_18 : fBk cX7_stuff 18 (.ifCond .ne) 25 := ⟨7, by decide +kernel, by decide⟩
def iX7_stuff_25_4 : List Instr := [.aload_n 0, .getfield 10, .iload_n 1, .iload_n 2]
theorem oX7_stuff_25_4 : fOkB cX7_stuff 25 iX7_stuff_25_4 = true := by decide +kernel
set_option maxRecDepth 100000 in
theorem lX7_78 : Cond.methodLink RX7 78 yX4_add ∈ fTB := fTB_at 330 rfl rfl
theorem dX7_stuff_31 : decode cX7_stuff 31 = .ok (.invokevirtual 78, 3) := by decide +kernel
theorem dX7_stuff_34 : decode cX7_stuff 34 = .ok (.ireturn, 1) := by decide +kernel
set_option maxRecDepth 100000 in
theorem qX7_stuff {G : fG} {d : Nat} {S : fS} (s c : Int32) (h0 : 0 ≤ gI S 1 2) (h8 : gI S 1 2 ≤ 8) : fCtr G (d + 1) mX7_stuff [.ref 0, .int s, .int c] S (qC S (oStuff (hC S) s c)) := by
  refine fCtr.of bXX7_stuff (Nat.le_of_ble_eq_true rfl) rfl ?_
  refine fV.run iX7_stuff_0_3 oX7_stuff_0_3 (pc' := 4) (L' := [(0, .ref 0), (1, .int s), (2, .int c)]) (st' := [.int 100, .int 0, .int s]) (S' := S) rfl trivial ?_
  refine fV.callS (M2 := mX7_isWithin) (d := d) (av := [.int s, .int 0, .int 100]) (rest := []) kX7_isWithin dX7_stuff_4 lX7_74 rfl rfl (Nat.le_of_ble_eq_true rfl) (fRoom (by decide)) ⟨Nat.le_refl _, Nat.le_refl _⟩ (qX7_isWithin _ _ _) ?_
  rintro _ S9 ⟨rfl, h9⟩
  rw [h9]
  clear h9 S9
  refine fV.to (pc' := 7) (L' := [(0, .ref 0), (1, .int s), (2, .int c)]) (st' := [.int (fB (decide (0 ≤ s ∧ s ≤ 100)))]) (S' := S) rfl rfl rfl rfl ?_
  refine fV.if_eq bX7_stuff_7 (fun c7 => ?_) (fun c7 => ?_)
  · refine fV.run iX7_stuff_21_1 oX7_stuff_21_1 (pc' := 24) (L' := [(0, .ref 0), (1, .int s), (2, .int c)]) (st' := [.int (-1002)]) (S' := S) rfl trivial ?_
    exact fV.iret rfl dX7_stuff_24 (by unfold oStuff; rw [if_neg (by grind [fB, hC])]; exact ⟨rfl, rfl, rfl, fun _ z => z⟩)
  · refine fV.run iX7_stuff_10_3 oX7_stuff_10_3 (pc' := 15) (L' := [(0, .ref 0), (1, .int s), (2, .int c)]) (st' := [.int 1000, .int 0, .int c]) (S' := S) rfl trivial ?_
    refine fV.callS (M2 := mX7_isWithin) (d := d) (av := [.int c, .int 0, .int 1000]) (rest := []) kX7_isWithin dX7_stuff_15 lX7_74 rfl rfl (Nat.le_of_ble_eq_true rfl) (fRoom (by decide)) ⟨Nat.le_refl _, Nat.le_refl _⟩ (qX7_isWithin _ _ _) ?_
    rintro _ S9 ⟨rfl, h9⟩
    rw [h9]
    clear h9 S9
    refine fV.to (pc' := 18) (L' := [(0, .ref 0), (1, .int s), (2, .int c)]) (st' := [.int (fB (decide (0 ≤ c ∧ c ≤ 1000)))]) (S' := S) rfl rfl rfl rfl ?_
    refine fV.if_ne bX7_stuff_18 (fun c18 => ?_) (fun c18 => ?_)
    · refine fV.run iX7_stuff_25_4 oX7_stuff_25_4 (pc' := 31) (L' := [(0, .ref 0), (1, .int s), (2, .int c)]) (st' := [.int c, .int s, .ref 1]) (S' := S) rfl trivial ?_
      refine fV.callV (M2 := mX4_add) (d := d) (o := 1) (av := [.int s, .int c]) (rest := []) kX4_add dX7_stuff_31 lX7_78 rfl rfl rfl (Nat.le_of_ble_eq_true rfl) (fRoom (by decide)) ⟨Nat.le_refl _, Nat.le_refl _⟩ (qX4_add _ _ h0 h8) ?_
      rintro r9 S9 h9
      by_cases hf : (gI S 1 2) = 8
      · rw [if_pos hf] at h9
        obtain ⟨rfl, h9⟩ := h9
        rw [h9]
        clear h9 S9
        refine fV.to (pc' := 34) (L' := [(0, .ref 0), (1, .int s), (2, .int c)]) (st' := [.int (-1004)]) (S' := S) rfl rfl rfl rfl ?_
        exact fV.iret rfl dX7_stuff_34 (by unfold oStuff; rw [if_pos (by grind [fB, hC]), if_pos (by grind [fB, hC])]; exact ⟨rfl, rfl, rfl, fun _ z => z⟩)
      · rw [if_neg hf] at h9
        obtain ⟨rfl, h9⟩ := h9
        rw [h9]
        clear h9 S9
        refine fV.to (pc' := 34) (L' := [(0, .ref 0), (1, .int s), (2, .int c)]) (st' := [.int (gI S 1 2)]) (S' := (wI (wA (wA S 2 (upd (gA S 2) (gI S 1 2).toNatClampNeg s)) 3 (upd (gA S 3) (gI S 1 2).toNatClampNeg c)) 1 2 ((gI S 1 2) + 1))) rfl rfl rfl rfl ?_
        exact fV.iret rfl dX7_stuff_34 (by unfold oStuff; rw [if_pos (by grind [fB, hC]), if_neg (by grind [fB, hC])]; exact ⟨rfl, rfl, rfl, fun _ z => z⟩)
    · refine fV.run iX7_stuff_21_1 oX7_stuff_21_1 (pc' := 24) (L' := [(0, .ref 0), (1, .int s), (2, .int c)]) (st' := [.int (-1002)]) (S' := S) rfl trivial ?_
      exact fV.iret rfl dX7_stuff_24 (by unfold oStuff; rw [if_neg (by grind [fB, hC])]; exact ⟨rfl, rfl, rfl, fun _ z => z⟩)
def iX7_cover_0_3 : List Instr := [.aload_n 0, .getfield 19, .iload_n 1]
theorem oX7_cover_0_3 : fOkB cX7_cover 0 iX7_cover_0_3 = true := by decide +kernel
theorem dX7_cover_5 : decode cX7_cover 5 = .ok (.invokevirtual 93, 3) := by decide +kernel
theorem bX7_cover_8 : fBk cX7_cover 8 (.ifCond .eq) 22 := ⟨14, by decide +kernel, by decide⟩
def iX7_cover_22_1 : List Instr := [.sipush (-1001)]
theorem oX7_cover_22_1 : fOkB cX7_cover 22 iX7_cover_22_1 = true := by decide +kernel
theorem dX7_cover_25 : decode cX7_cover 25 = .ok (.ireturn, 1) := by decide +kernel
def iX7_cover_11_3 : List Instr := [.aload_n 0, .getfield 10, .iload_n 2]
theorem oX7_cover_11_3 : fOkB cX7_cover 11 iX7_cover_11_3 = true := by decide +kernel
set_option maxRecDepth 100000 in
theorem lX7_82 : Cond.methodLink RX7 82 yX4_has ∈ fTB := fTB_at 338 rfl rfl
theorem dX7_cover_16 : decode cX7_cover 16 = .ok (.invokevirtual 82, 3) := by decide +kernel
theorem bX7_cover_19 : fBk cX7_cover 19 (.ifCond .ne) 26 := ⟨7, by decide +kernel, by decide⟩
def iX7_cover_26_13 : List Instr := [.aload_n 0, .getfield 19, .getfield 94, .iload_n 1, .iaload, .istore_n 3, .aload_n 0, .getfield 19, .getfield 94, .iload_n 1, .iload_n 2, .iastore, .iload_n 3]
theorem oX7_cover_26_13 : fOkB cX7_cover 26 iX7_cover_26_13 = true := by decide +kernel
theorem dX7_cover_47 : decode cX7_cover 47 = .ok (.ireturn, 1) := by decide +kernel
set_option maxRecDepth 100000 in
theorem qX7_cover {G : fG} {d : Nat} {S : fS} (w m : Int32) (h0 : 0 ≤ gI S 4 6) (h8 : gI S 4 6 ≤ 16) : fCtr G (d + 1) mX7_cover [.ref 0, .int w, .int m] S (qC S (oCover (hC S) w m)) := by
  refine fCtr.of bXX7_cover (Nat.le_of_ble_eq_true rfl) rfl ?_
  refine fV.run iX7_cover_0_3 oX7_cover_0_3 (pc' := 5) (L' := [(0, .ref 0), (1, .int w), (2, .int m)]) (st' := [.int w, .ref 4]) (S' := S) rfl trivial ?_
  refine fV.callV (M2 := mX6_has) (d := d) (o := 4) (av := [.int w]) (rest := []) kX6_has dX7_cover_5 lX7_93 rfl rfl rfl (Nat.le_of_ble_eq_true rfl) (fRoom (by decide)) ⟨Nat.le_refl _, Nat.le_refl _⟩ (qX6_has_4 _) ?_
  rintro _ S9 ⟨rfl, h9⟩
  rw [h9]
  clear h9 S9
  refine fV.to (pc' := 8) (L' := [(0, .ref 0), (1, .int w), (2, .int m)]) (st' := [.int (fB (decide (0 ≤ w ∧ w < (gI S 4 6))))]) (S' := S) rfl rfl rfl rfl ?_
  refine fV.if_eq bX7_cover_8 (fun c8 => ?_) (fun c8 => ?_)
  · refine fV.run iX7_cover_22_1 oX7_cover_22_1 (pc' := 25) (L' := [(0, .ref 0), (1, .int w), (2, .int m)]) (st' := [.int (-1001)]) (S' := S) rfl trivial ?_
    exact fV.iret rfl dX7_cover_25 (by unfold oCover; rw [if_neg (by grind [fB, hC])]; exact ⟨rfl, rfl, rfl, fun _ z => z⟩)
  · refine fV.run iX7_cover_11_3 oX7_cover_11_3 (pc' := 16) (L' := [(0, .ref 0), (1, .int w), (2, .int m)]) (st' := [.int m, .ref 1]) (S' := S) rfl trivial ?_
    refine fV.callV (M2 := mX4_has) (d := d) (o := 1) (av := [.int m]) (rest := []) kX4_has dX7_cover_16 lX7_82 rfl rfl rfl (Nat.le_of_ble_eq_true rfl) (fRoom (by decide)) ⟨Nat.le_refl _, Nat.le_refl _⟩ (qX4_has_1 _) ?_
    rintro _ S9 ⟨rfl, h9⟩
    rw [h9]
    clear h9 S9
    refine fV.to (pc' := 19) (L' := [(0, .ref 0), (1, .int w), (2, .int m)]) (st' := [.int (fB (decide (0 ≤ m ∧ m < (gI S 1 2))))]) (S' := S) rfl rfl rfl rfl ?_
    refine fV.if_ne bX7_cover_19 (fun c19 => ?_) (fun c19 => ?_)
    · refine fV.run iX7_cover_26_13 oX7_cover_26_13 (pc' := 47) (L' := [(0, .ref 0), (1, .int w), (2, .int m), (3, .int (gA S 6 w.toNatClampNeg))]) (st' := [.int (gA S 6 w.toNatClampNeg)]) (S' := (wA S 6 (upd (gA S 6) w.toNatClampNeg m))) (P := vp_in w 16 ∧ vp_in w 16 ∧ True) rfl ⟨(vin (by decide) (by grind [fB]) (by grind [fB])), (vin (by decide) (by grind [fB]) (by grind [fB])), trivial⟩ ?_
      exact fV.iret rfl dX7_cover_47 (by unfold oCover; rw [if_pos (by grind [fB, hC])]; exact ⟨rfl, rfl, rfl, fun _ z => z⟩)
    · refine fV.run iX7_cover_22_1 oX7_cover_22_1 (pc' := 25) (L' := [(0, .ref 0), (1, .int w), (2, .int m)]) (st' := [.int (-1001)]) (S' := S) rfl trivial ?_
      exact fV.iret rfl dX7_cover_25 (by unfold oCover; rw [if_neg (by grind [fB, hC])]; exact ⟨rfl, rfl, rfl, fun _ z => z⟩)
def iX7_back_0_3 : List Instr := [.aload_n 0, .getfield 19, .getfield 97]
theorem oX7_back_0_3 : fOkB cX7_back 0 iX7_back_0_3 = true := by decide +kernel
theorem bX7_back_7 : fBk cX7_back 7 (.ifCond .ne) 14 := ⟨7, by decide +kernel, by decide⟩
def iX7_back_14_10 : List Instr := [.aload_n 0, .getfield 19, .dup, .getfield 97, .iconst 1, .isub, .putfield 97, .aload_n 0, .getfield 19, .getfield 97]
theorem oX7_back_14_10 : fOkB cX7_back 14 iX7_back_14_10 = true := by decide +kernel
theorem dX7_back_34 : decode cX7_back 34 = .ok (.ireturn, 1) := by decide +kernel
def iX7_back_10_1 : List Instr := [.sipush (-1003)]
theorem oX7_back_10_1 : fOkB cX7_back 10 iX7_back_10_1 = true := by decide +kernel
theorem dX7_back_13 : decode cX7_back 13 = .ok (.ireturn, 1) := by decide +kernel
set_option maxRecDepth 100000 in
theorem qX7_back {G : fG} {d : Nat} {S : fS}   : fCtr G (d) mX7_back [.ref 0] S (qC S (oBack (hC S))) := by
  refine fCtr.of bXX7_back (Nat.le_of_ble_eq_true rfl) rfl ?_
  refine fV.run iX7_back_0_3 oX7_back_0_3 (pc' := 7) (L' := [(0, .ref 0)]) (st' := [.int (gI S 4 6)]) (S' := S) rfl trivial ?_
  refine fV.if_ne bX7_back_7 (fun c7 => ?_) (fun c7 => ?_)
  · refine fV.run iX7_back_14_10 oX7_back_14_10 (pc' := 34) (L' := [(0, .ref 0)]) (st' := [.int ((gI S 4 6) - 1)]) (S' := (wI S 4 6 ((gI S 4 6) - 1))) rfl trivial ?_
    exact fV.iret rfl dX7_back_34 (by unfold oBack; rw [if_neg (by grind [fB, hC])]; exact ⟨rfl, rfl, rfl, fun _ z => z⟩)
  · refine fV.run iX7_back_10_1 oX7_back_10_1 (pc' := 13) (L' := [(0, .ref 0)]) (st' := [.int (-1003)]) (S' := S) rfl trivial ?_
    exact fV.iret rfl dX7_back_13 (by unfold oBack; rw [if_pos (by grind [fB, hC])]; exact ⟨rfl, rfl, rfl, fun _ z => z⟩)
def iX7_source_0_2 : List Instr := [.iload_n 1, .iload_n 2]
theorem oX7_source_0_2 : fOkB cX7_source 0 iX7_source_0_2 = true := by decide +kernel
set_option maxRecDepth 100000 in
theorem lX7_86 : Cond.methodLink RX7 86 yX7_isPoint ∈ fTB := fTB_at 342 rfl rfl
theorem dX7_source_2 : decode cX7_source 2 = .ok (.invokestatic 86, 3) := by decide +kernel
theorem bX7_source_5 : fBk cX7_source 5 (.ifCond .eq) 19 := ⟨14, by decide +kernel, by decide⟩
def iX7_source_19_1 : List Instr := [.sipush (-1002)]
theorem oX7_source_19_1 : fOkB cX7_source 19 iX7_source_19_1 = true := by decide +kernel
theorem dX7_source_22 : decode cX7_source 22 = .ok (.ireturn, 1) := by decide +kernel
def iX7_source_8_3 : List Instr := [.iload_n 3, .iconst 1, .sipush 1000]
theorem oX7_source_8_3 : fOkB cX7_source 8 iX7_source_8_3 = true := by decide +kernel
theorem dX7_source_13 : decode cX7_source 13 = .ok (.invokestatic 74, 3) := by decide +kernel
theorem bX7_source_16 : fBk cX7_source 16 (.ifCond .ne) 23 := ⟨7, by decide +kernel, by decide⟩
def iX7_source_23_4 : List Instr := [.aload_n 0, .getfield 28, .iload_n 1, .iload_n 2]
theorem oX7_source_23_4 : fOkB cX7_source 23 iX7_source_23_4 = true := by decide +kernel
set_option maxRecDepth 100000 in
theorem lX7_100 : Cond.methodLink RX7 100 yX2_add ∈ fTB := fTB_at 369 rfl rfl
theorem dX7_source_29 : decode cX7_source 29 = .ok (.invokevirtual 100, 3) := by decide +kernel
def iX7_source_32_4 : List Instr := [.istore 4, .aload_n 0, .getfield 28, .iload 4]
theorem oX7_source_32_4 : fOkB cX7_source 32 iX7_source_32_4 = true := by decide +kernel
theorem dX7_source_40 : decode cX7_source 40 = .ok (.invokevirtual 101, 3) := by decide +kernel
theorem bX7_source_43 : fBk cX7_source 43 (.ifCond .eq) 54 := ⟨11, by decide +kernel, by decide⟩
def iX7_source_54_1 : List Instr := [.iload 4]
theorem oX7_source_54_1 : fOkB cX7_source 54 iX7_source_54_1 = true := by decide +kernel
theorem dX7_source_56 : decode cX7_source 56 = .ok (.ireturn, 1) := by decide +kernel
def iX7_source_46_6 : List Instr := [.aload_n 0, .getfield 35, .iload 4, .iload_n 3, .iastore, .iload 4]
theorem oX7_source_46_6 : fOkB cX7_source 46 iX7_source_46_6 = true := by decide +kernel
set_option maxRecDepth 100000 in
theorem qX7_source {G : fG} {d : Nat} {S : fS} (x y p : Int32) (h0 : 0 ≤ gI S 11 2) (h8 : gI S 11 2 ≤ 4) : fCtr G (d + 2) mX7_source [.ref 0, .int x, .int y, .int p] S (qC S (oSource (hC S) x y p)) := by
  refine fCtr.of bXX7_source (Nat.le_of_ble_eq_true rfl) rfl ?_
  refine fV.run iX7_source_0_2 oX7_source_0_2 (pc' := 2) (L' := [(0, .ref 0), (1, .int x), (2, .int y), (3, .int p)]) (st' := [.int y, .int x]) (S' := S) rfl trivial ?_
  refine fV.callS (M2 := mX7_isPoint) (d := d + 1) (av := [.int x, .int y]) (rest := []) kX7_isPoint dX7_source_2 lX7_86 rfl rfl (Nat.le_of_ble_eq_true rfl) (fRoom (by decide)) ⟨Nat.le_refl _, Nat.le_refl _⟩ (qX7_isPoint _ _) ?_
  rintro _ S9 ⟨rfl, h9⟩
  rw [h9]
  clear h9 S9
  refine fV.to (pc' := 5) (L' := [(0, .ref 0), (1, .int x), (2, .int y), (3, .int p)]) (st' := [.int (fB (decide ((0 ≤ x ∧ x ≤ 1000) ∧ (0 ≤ y ∧ y ≤ 1000))))]) (S' := S) rfl rfl rfl rfl ?_
  refine fV.if_eq bX7_source_5 (fun c5 => ?_) (fun c5 => ?_)
  · refine fV.run iX7_source_19_1 oX7_source_19_1 (pc' := 22) (L' := [(0, .ref 0), (1, .int x), (2, .int y), (3, .int p)]) (st' := [.int (-1002)]) (S' := S) rfl trivial ?_
    exact fV.iret rfl dX7_source_22 (by unfold oSource; rw [if_neg (by grind [fB, hC])]; exact ⟨rfl, rfl, rfl, fun _ z => z⟩)
  · refine fV.run iX7_source_8_3 oX7_source_8_3 (pc' := 13) (L' := [(0, .ref 0), (1, .int x), (2, .int y), (3, .int p)]) (st' := [.int 1000, .int 1, .int p]) (S' := S) rfl trivial ?_
    refine fV.callS (M2 := mX7_isWithin) (d := d + 1) (av := [.int p, .int 1, .int 1000]) (rest := []) kX7_isWithin dX7_source_13 lX7_74 rfl rfl (Nat.le_of_ble_eq_true rfl) (fRoom (by decide)) ⟨Nat.le_refl _, Nat.le_refl _⟩ (qX7_isWithin _ _ _) ?_
    rintro _ S9 ⟨rfl, h9⟩
    rw [h9]
    clear h9 S9
    refine fV.to (pc' := 16) (L' := [(0, .ref 0), (1, .int x), (2, .int y), (3, .int p)]) (st' := [.int (fB (decide (1 ≤ p ∧ p ≤ 1000)))]) (S' := S) rfl rfl rfl rfl ?_
    refine fV.if_ne bX7_source_16 (fun c16 => ?_) (fun c16 => ?_)
    · refine fV.run iX7_source_23_4 oX7_source_23_4 (pc' := 29) (L' := [(0, .ref 0), (1, .int x), (2, .int y), (3, .int p)]) (st' := [.int y, .int x, .ref 11]) (S' := S) rfl trivial ?_
      refine fV.callV (M2 := mX2_add) (d := d + 1) (o := 11) (av := [.int x, .int y]) (rest := []) kX2_add dX7_source_29 lX7_100 rfl rfl rfl (Nat.le_of_ble_eq_true rfl) (fRoom (by decide)) ⟨Nat.le_refl _, Nat.le_refl _⟩ (qX2_add_11 _ _ h0 h8) ?_
      rintro r9 S9 h9
      by_cases hf : (gI S 11 2) = 4
      · rw [if_pos hf] at h9
        obtain ⟨rfl, h9⟩ := h9
        rw [h9]
        clear h9 S9
        refine fV.to (pc' := 32) (L' := [(0, .ref 0), (1, .int x), (2, .int y), (3, .int p)]) (st' := [.int (-1004)]) (S' := S) rfl rfl rfl rfl ?_
        refine fV.run iX7_source_32_4 oX7_source_32_4 (pc' := 40) (L' := [(0, .ref 0), (1, .int x), (2, .int y), (3, .int p), (4, .int (-1004))]) (st' := [.int (-1004), .ref 11]) (S' := S) rfl trivial ?_
        refine fV.callV (M2 := mX2_has) (d := d + 1) (o := 11) (av := [.int (-1004)]) (rest := []) kX2_has dX7_source_40 lX7_101 rfl rfl rfl (Nat.le_of_ble_eq_true rfl) (fRoom (by decide)) ⟨Nat.le_refl _, Nat.le_refl _⟩ (qX2_has_11 _) ?_
        rintro _ S9 ⟨rfl, h9⟩
        rw [h9]
        clear h9 S9
        refine fV.to (pc' := 43) (L' := [(0, .ref 0), (1, .int x), (2, .int y), (3, .int p), (4, .int (-1004))]) (st' := [.int (fB (decide (0 ≤ (-1004) ∧ (-1004) < (gI S 11 2))))]) (S' := S) rfl rfl rfl rfl ?_
        refine fV.if_eq bX7_source_43 (fun c43 => ?_) (fun c43 => ?_)
        · refine fV.run iX7_source_54_1 oX7_source_54_1 (pc' := 56) (L' := [(0, .ref 0), (1, .int x), (2, .int y), (3, .int p), (4, .int (-1004))]) (st' := [.int (-1004)]) (S' := S) rfl trivial ?_
          exact fV.iret rfl dX7_source_56 (by unfold oSource; rw [if_pos (by grind [fB, hC]), if_pos (by grind [fB, hC])]; exact ⟨rfl, rfl, rfl, fun _ z => z⟩)
        · exact absurd c43 (by grind [fB])
      · rw [if_neg hf] at h9
        obtain ⟨rfl, h9⟩ := h9
        rw [h9]
        clear h9 S9
        refine fV.to (pc' := 32) (L' := [(0, .ref 0), (1, .int x), (2, .int y), (3, .int p)]) (st' := [.int (gI S 11 2)]) (S' := (wI (wA (wA S 12 (upd (gA S 12) (gI S 11 2).toNatClampNeg x)) 13 (upd (gA S 13) (gI S 11 2).toNatClampNeg y)) 11 2 ((gI S 11 2) + 1))) rfl rfl rfl rfl ?_
        refine fV.run iX7_source_32_4 oX7_source_32_4 (pc' := 40) (L' := [(0, .ref 0), (1, .int x), (2, .int y), (3, .int p), (4, .int (gI S 11 2))]) (st' := [.int (gI S 11 2), .ref 11]) (S' := (wI (wA (wA S 12 (upd (gA S 12) (gI S 11 2).toNatClampNeg x)) 13 (upd (gA S 13) (gI S 11 2).toNatClampNeg y)) 11 2 ((gI S 11 2) + 1))) rfl trivial ?_
        refine fV.callV (M2 := mX2_has) (d := d + 1) (o := 11) (av := [.int (gI S 11 2)]) (rest := []) kX2_has dX7_source_40 lX7_101 rfl rfl rfl (Nat.le_of_ble_eq_true rfl) (fRoom (by decide)) ⟨Nat.le_refl _, Nat.le_refl _⟩ (qX2_has_11 _) ?_
        rintro _ S9 ⟨rfl, h9⟩
        rw [h9]
        clear h9 S9
        refine fV.to (pc' := 43) (L' := [(0, .ref 0), (1, .int x), (2, .int y), (3, .int p), (4, .int (gI S 11 2))]) (st' := [.int (fB (decide (0 ≤ (gI S 11 2) ∧ (gI S 11 2) < (gI S 11 2) + 1)))]) (S' := (wI (wA (wA S 12 (upd (gA S 12) (gI S 11 2).toNatClampNeg x)) 13 (upd (gA S 13) (gI S 11 2).toNatClampNeg y)) 11 2 ((gI S 11 2) + 1))) rfl rfl rfl rfl ?_
        refine fV.if_eq bX7_source_43 (fun c43 => ?_) (fun c43 => ?_)
        · exact absurd c43 (by grind [fB])
        · refine fV.run iX7_source_46_6 oX7_source_46_6 (pc' := 56) (L' := [(0, .ref 0), (1, .int x), (2, .int y), (3, .int p), (4, .int (gI S 11 2))]) (st' := [.int (gI S 11 2)]) (S' := (wA (wI (wA (wA S 12 (upd (gA S 12) (gI S 11 2).toNatClampNeg x)) 13 (upd (gA S 13) (gI S 11 2).toNatClampNeg y)) 11 2 ((gI S 11 2) + 1)) 17 (upd (gA S 17) (gI S 11 2).toNatClampNeg p))) (P := vp_in (gI S 11 2) 4 ∧ True) rfl ⟨(vin (by decide) (by grind [fB]) (by grind [fB])), trivial⟩ ?_
          exact fV.iret rfl dX7_source_56 (by unfold oSource; rw [if_pos (by grind [fB, hC]), if_neg (by grind [fB, hC])]; exact ⟨rfl, rfl, rfl, fun _ z => z⟩)
    · refine fV.run iX7_source_19_1 oX7_source_19_1 (pc' := 22) (L' := [(0, .ref 0), (1, .int x), (2, .int y), (3, .int p)]) (st' := [.int (-1002)]) (S' := S) rfl trivial ?_
      exact fV.iret rfl dX7_source_22 (by unfold oSource; rw [if_neg (by grind [fB, hC])]; exact ⟨rfl, rfl, rfl, fun _ z => z⟩)
def iX7_seat_0_2 : List Instr := [.iload_n 1, .iload_n 2]
theorem oX7_seat_0_2 : fOkB cX7_seat 0 iX7_seat_0_2 = true := by decide +kernel
theorem dX7_seat_2 : decode cX7_seat 2 = .ok (.invokestatic 86, 3) := by decide +kernel
theorem bX7_seat_5 : fBk cX7_seat 5 (.ifCond .ne) 12 := ⟨7, by decide +kernel, by decide⟩
def iX7_seat_12_4 : List Instr := [.aload_n 0, .getfield 32, .iload_n 1, .iload_n 2]
theorem oX7_seat_12_4 : fOkB cX7_seat 12 iX7_seat_12_4 = true := by decide +kernel
theorem dX7_seat_18 : decode cX7_seat 18 = .ok (.invokevirtual 100, 3) := by decide +kernel
theorem dX7_seat_21 : decode cX7_seat 21 = .ok (.ireturn, 1) := by decide +kernel
def iX7_seat_8_1 : List Instr := [.sipush (-1002)]
theorem oX7_seat_8_1 : fOkB cX7_seat 8 iX7_seat_8_1 = true := by decide +kernel
theorem dX7_seat_11 : decode cX7_seat 11 = .ok (.ireturn, 1) := by decide +kernel
set_option maxRecDepth 100000 in
theorem qX7_seat {G : fG} {d : Nat} {S : fS} (x y : Int32) (h0 : 0 ≤ gI S 14 2) (h8 : gI S 14 2 ≤ 8) : fCtr G (d + 2) mX7_seat [.ref 0, .int x, .int y] S (qC S (oSeat (hC S) x y)) := by
  refine fCtr.of bXX7_seat (Nat.le_of_ble_eq_true rfl) rfl ?_
  refine fV.run iX7_seat_0_2 oX7_seat_0_2 (pc' := 2) (L' := [(0, .ref 0), (1, .int x), (2, .int y)]) (st' := [.int y, .int x]) (S' := S) rfl trivial ?_
  refine fV.callS (M2 := mX7_isPoint) (d := d + 1) (av := [.int x, .int y]) (rest := []) kX7_isPoint dX7_seat_2 lX7_86 rfl rfl (Nat.le_of_ble_eq_true rfl) (fRoom (by decide)) ⟨Nat.le_refl _, Nat.le_refl _⟩ (qX7_isPoint _ _) ?_
  rintro _ S9 ⟨rfl, h9⟩
  rw [h9]
  clear h9 S9
  refine fV.to (pc' := 5) (L' := [(0, .ref 0), (1, .int x), (2, .int y)]) (st' := [.int (fB (decide ((0 ≤ x ∧ x ≤ 1000) ∧ (0 ≤ y ∧ y ≤ 1000))))]) (S' := S) rfl rfl rfl rfl ?_
  refine fV.if_ne bX7_seat_5 (fun c5 => ?_) (fun c5 => ?_)
  · refine fV.run iX7_seat_12_4 oX7_seat_12_4 (pc' := 18) (L' := [(0, .ref 0), (1, .int x), (2, .int y)]) (st' := [.int y, .int x, .ref 14]) (S' := S) rfl trivial ?_
    refine fV.callV (M2 := mX2_add) (d := d + 1) (o := 14) (av := [.int x, .int y]) (rest := []) kX2_add dX7_seat_18 lX7_100 rfl rfl rfl (Nat.le_of_ble_eq_true rfl) (fRoom (by decide)) ⟨Nat.le_refl _, Nat.le_refl _⟩ (qX2_add_14 _ _ h0 h8) ?_
    rintro r9 S9 h9
    by_cases hf : (gI S 14 2) = 8
    · rw [if_pos hf] at h9
      obtain ⟨rfl, h9⟩ := h9
      rw [h9]
      clear h9 S9
      refine fV.to (pc' := 21) (L' := [(0, .ref 0), (1, .int x), (2, .int y)]) (st' := [.int (-1004)]) (S' := S) rfl rfl rfl rfl ?_
      exact fV.iret rfl dX7_seat_21 (by unfold oSeat; rw [if_pos (by grind [fB, hC]), if_pos (by grind [fB, hC])]; exact ⟨rfl, rfl, rfl, fun _ z => z⟩)
    · rw [if_neg hf] at h9
      obtain ⟨rfl, h9⟩ := h9
      rw [h9]
      clear h9 S9
      refine fV.to (pc' := 21) (L' := [(0, .ref 0), (1, .int x), (2, .int y)]) (st' := [.int (gI S 14 2)]) (S' := (wI (wA (wA S 15 (upd (gA S 15) (gI S 14 2).toNatClampNeg x)) 16 (upd (gA S 16) (gI S 14 2).toNatClampNeg y)) 14 2 ((gI S 14 2) + 1))) rfl rfl rfl rfl ?_
      exact fV.iret rfl dX7_seat_21 (by unfold oSeat; rw [if_pos (by grind [fB, hC]), if_neg (by grind [fB, hC])]; exact ⟨rfl, rfl, rfl, fun _ z => z⟩)
  · refine fV.run iX7_seat_8_1 oX7_seat_8_1 (pc' := 11) (L' := [(0, .ref 0), (1, .int x), (2, .int y)]) (st' := [.int (-1002)]) (S' := S) rfl trivial ?_
    exact fV.iret rfl dX7_seat_11 (by unfold oSeat; rw [if_neg (by grind [fB, hC])]; exact ⟨rfl, rfl, rfl, fun _ z => z⟩)
def iX7_wall_0_3 : List Instr := [.aload_n 0, .getfield 10, .iload 5]
theorem oX7_wall_0_3 : fOkB cX7_wall 0 iX7_wall_0_3 = true := by decide +kernel
theorem dX7_wall_6 : decode cX7_wall 6 = .ok (.invokevirtual 82, 3) := by decide +kernel
theorem bX7_wall_9 : fBk cX7_wall 9 (.ifCond .ne) 16 := ⟨7, by decide +kernel, by decide⟩
def iX7_wall_16_2 : List Instr := [.iload_n 1, .iload_n 2]
theorem oX7_wall_16_2 : fOkB cX7_wall 16 iX7_wall_16_2 = true := by decide +kernel
theorem dX7_wall_18 : decode cX7_wall 18 = .ok (.invokestatic 86, 3) := by decide +kernel
theorem bX7_wall_21 : fBk cX7_wall 21 (.ifCond .eq) 33 := ⟨12, by decide +kernel, by decide⟩
def iX7_wall_33_1 : List Instr := [.sipush (-1002)]
theorem oX7_wall_33_1 : fOkB cX7_wall 33 iX7_wall_33_1 = true := by decide +kernel
theorem dX7_wall_36 : decode cX7_wall 36 = .ok (.ireturn, 1) := by decide +kernel
def iX7_wall_24_2 : List Instr := [.iload_n 3, .iload 4]
theorem oX7_wall_24_2 : fOkB cX7_wall 24 iX7_wall_24_2 = true := by decide +kernel
theorem dX7_wall_27 : decode cX7_wall 27 = .ok (.invokestatic 86, 3) := by decide +kernel
theorem bX7_wall_30 : fBk cX7_wall 30 (.ifCond .ne) 37 := ⟨7, by decide +kernel, by decide⟩
def iX7_wall_37_2 : List Instr := [.iload_n 1, .iload_n 3]
theorem oX7_wall_37_2 : fOkB cX7_wall 37 iX7_wall_37_2 = true := by decide +kernel
theorem bX7_wall_39 : fBk cX7_wall 39 (.if_icmp .ne) 46 := ⟨7, by decide +kernel, by decide⟩
def iX7_wall_46_4 : List Instr := [.iconst 0, .istore 6, .iload_n 2, .iload 4]
theorem oX7_wall_46_4 : fOkB cX7_wall 46 iX7_wall_46_4 = true := by decide +kernel
theorem bX7_wall_52 : fBk cX7_wall 52 (.if_icmp .ne) 59 := ⟨7, by decide +kernel, by decide⟩
def iX7_wall_59_4 : List Instr := [.iconst 0, .istore 7, .iload 6, .iload 7]
theorem oX7_wall_59_4 : fOkB cX7_wall 59 iX7_wall_59_4 = true := by decide +kernel
theorem bX7_wall_66 : fBk cX7_wall 66 (.if_icmp .ne) 73 := ⟨7, by decide +kernel, by decide⟩
def iX7_wall_69_1 : List Instr := [.sipush (-1002)]
theorem oX7_wall_69_1 : fOkB cX7_wall 69 iX7_wall_69_1 = true := by decide +kernel
theorem dX7_wall_72 : decode cX7_wall 72 = .ok (.ireturn, 1) := by decide +kernel
def iX7_wall_55_5 : List Instr := [.iconst 1, .goto 4, .istore 7, .iload 6, .iload 7]
theorem oX7_wall_55_5 : fOkB cX7_wall 55 iX7_wall_55_5 = true := by decide +kernel
def iX7_wall_73_7 : List Instr := [.aload_n 0, .getfield 19, .iload_n 1, .iload_n 2, .iload_n 3, .iload 4, .iload 5]
theorem oX7_wall_73_7 : fOkB cX7_wall 73 iX7_wall_73_7 = true := by decide +kernel
set_option maxRecDepth 100000 in
theorem lX7_90 : Cond.methodLink RX7 90 yX6_add ∈ fTB := fTB_at 345 rfl rfl
theorem dX7_wall_84 : decode cX7_wall 84 = .ok (.invokevirtual 90, 3) := by decide +kernel
theorem dX7_wall_87 : decode cX7_wall 87 = .ok (.ireturn, 1) := by decide +kernel
def iX7_wall_42_5 : List Instr := [.iconst 1, .goto 4, .istore 6, .iload_n 2, .iload 4]
theorem oX7_wall_42_5 : fOkB cX7_wall 42 iX7_wall_42_5 = true := by decide +kernel
def iX7_wall_12_1 : List Instr := [.sipush (-1001)]
theorem oX7_wall_12_1 : fOkB cX7_wall 12 iX7_wall_12_1 = true := by decide +kernel
theorem dX7_wall_15 : decode cX7_wall 15 = .ok (.ireturn, 1) := by decide +kernel
set_option maxRecDepth 100000 in
theorem qX7_wall {G : fG} {d : Nat} {S : fS} (x0 y0 x1 y1 m : Int32) (h0 : 0 ≤ gI S 4 6) (h8 : gI S 4 6 ≤ 16) : fCtr G (d + 2) mX7_wall [.ref 0, .int x0, .int y0, .int x1, .int y1, .int m] S (fun r S' => r = some (.int (oWall (hC S) x0 y0 x1 y1 m).1) ∧ hC S' = (oWall (hC S) x0 y0 x1 y1 m).2 ∧ S'.2 = S.2 ∧ ∀ b, gI S 4 6 = nI b → b < 1000 → hGeo S b → (S' = S ∨ (gI S' 4 6 = nI (b + 1) ∧ hGeo S' (b + 1)))) := by
  refine fCtr.of bXX7_wall (Nat.le_of_ble_eq_true rfl) rfl ?_
  refine fV.run iX7_wall_0_3 oX7_wall_0_3 (pc' := 6) (L' := [(0, .ref 0), (1, .int x0), (2, .int y0), (3, .int x1), (4, .int y1), (5, .int m)]) (st' := [.int m, .ref 1]) (S' := S) rfl trivial ?_
  refine fV.callV (M2 := mX4_has) (d := d + 1) (o := 1) (av := [.int m]) (rest := []) kX4_has dX7_wall_6 lX7_82 rfl rfl rfl (Nat.le_of_ble_eq_true rfl) (fRoom (by decide)) ⟨Nat.le_refl _, Nat.le_refl _⟩ (qX4_has_1 _) ?_
  rintro _ S9 ⟨rfl, h9⟩
  rw [h9]
  clear h9 S9
  refine fV.to (pc' := 9) (L' := [(0, .ref 0), (1, .int x0), (2, .int y0), (3, .int x1), (4, .int y1), (5, .int m)]) (st' := [.int (fB (decide (0 ≤ m ∧ m < (gI S 1 2))))]) (S' := S) rfl rfl rfl rfl ?_
  refine fV.if_ne bX7_wall_9 (fun c9 => ?_) (fun c9 => ?_)
  · refine fV.run iX7_wall_16_2 oX7_wall_16_2 (pc' := 18) (L' := [(0, .ref 0), (1, .int x0), (2, .int y0), (3, .int x1), (4, .int y1), (5, .int m)]) (st' := [.int y0, .int x0]) (S' := S) rfl trivial ?_
    refine fV.callS (M2 := mX7_isPoint) (d := d + 1) (av := [.int x0, .int y0]) (rest := []) kX7_isPoint dX7_wall_18 lX7_86 rfl rfl (Nat.le_of_ble_eq_true rfl) (fRoom (by decide)) ⟨Nat.le_refl _, Nat.le_refl _⟩ (qX7_isPoint _ _) ?_
    rintro _ S9 ⟨rfl, h9⟩
    rw [h9]
    clear h9 S9
    refine fV.to (pc' := 21) (L' := [(0, .ref 0), (1, .int x0), (2, .int y0), (3, .int x1), (4, .int y1), (5, .int m)]) (st' := [.int (fB (decide ((0 ≤ x0 ∧ x0 ≤ 1000) ∧ (0 ≤ y0 ∧ y0 ≤ 1000))))]) (S' := S) rfl rfl rfl rfl ?_
    refine fV.if_eq bX7_wall_21 (fun c21 => ?_) (fun c21 => ?_)
    · refine fV.run iX7_wall_33_1 oX7_wall_33_1 (pc' := 36) (L' := [(0, .ref 0), (1, .int x0), (2, .int y0), (3, .int x1), (4, .int y1), (5, .int m)]) (st' := [.int (-1002)]) (S' := S) rfl trivial ?_
      exact fV.iret rfl dX7_wall_36 (by unfold oWall; rw [if_pos (by grind [fB, hC]), if_neg (by grind [fB, hC])]; exact ⟨rfl, rfl, rfl, fun _ _ _ _ => Or.inl rfl⟩)
    · refine fV.run iX7_wall_24_2 oX7_wall_24_2 (pc' := 27) (L' := [(0, .ref 0), (1, .int x0), (2, .int y0), (3, .int x1), (4, .int y1), (5, .int m)]) (st' := [.int y1, .int x1]) (S' := S) rfl trivial ?_
      refine fV.callS (M2 := mX7_isPoint) (d := d + 1) (av := [.int x1, .int y1]) (rest := []) kX7_isPoint dX7_wall_27 lX7_86 rfl rfl (Nat.le_of_ble_eq_true rfl) (fRoom (by decide)) ⟨Nat.le_refl _, Nat.le_refl _⟩ (qX7_isPoint _ _) ?_
      rintro _ S9 ⟨rfl, h9⟩
      rw [h9]
      clear h9 S9
      refine fV.to (pc' := 30) (L' := [(0, .ref 0), (1, .int x0), (2, .int y0), (3, .int x1), (4, .int y1), (5, .int m)]) (st' := [.int (fB (decide ((0 ≤ x1 ∧ x1 ≤ 1000) ∧ (0 ≤ y1 ∧ y1 ≤ 1000))))]) (S' := S) rfl rfl rfl rfl ?_
      refine fV.if_ne bX7_wall_30 (fun c30 => ?_) (fun c30 => ?_)
      · refine fV.run iX7_wall_37_2 oX7_wall_37_2 (pc' := 39) (L' := [(0, .ref 0), (1, .int x0), (2, .int y0), (3, .int x1), (4, .int y1), (5, .int m)]) (st' := [.int x1, .int x0]) (S' := S) rfl trivial ?_
        refine fV.icmp_ne bX7_wall_39 (fun c39 => ?_) (fun c39 => ?_)
        · refine fV.run iX7_wall_46_4 oX7_wall_46_4 (pc' := 52) (L' := [(0, .ref 0), (1, .int x0), (2, .int y0), (3, .int x1), (4, .int y1), (5, .int m), (6, .int 0)]) (st' := [.int y1, .int y0]) (S' := S) rfl trivial ?_
          refine fV.icmp_ne bX7_wall_52 (fun c52 => ?_) (fun c52 => ?_)
          · refine fV.run iX7_wall_59_4 oX7_wall_59_4 (pc' := 66) (L' := [(0, .ref 0), (1, .int x0), (2, .int y0), (3, .int x1), (4, .int y1), (5, .int m), (6, .int 0), (7, .int 0)]) (st' := [.int 0, .int 0]) (S' := S) rfl trivial ?_
            refine fV.icmp_ne bX7_wall_66 (fun c66 => ?_) (fun c66 => ?_)
            · exact absurd c66 (by decide)
            · refine fV.run iX7_wall_69_1 oX7_wall_69_1 (pc' := 72) (L' := [(0, .ref 0), (1, .int x0), (2, .int y0), (3, .int x1), (4, .int y1), (5, .int m), (6, .int 0), (7, .int 0)]) (st' := [.int (-1002)]) (S' := S) rfl trivial ?_
              exact fV.iret rfl dX7_wall_72 (by unfold oWall; rw [if_pos (by grind [fB, hC]), if_pos (by grind [fB, hC]), if_neg (by grind [fB, hC])]; exact ⟨rfl, rfl, rfl, fun _ _ _ _ => Or.inl rfl⟩)
          · refine fV.run iX7_wall_55_5 oX7_wall_55_5 (pc' := 66) (L' := [(0, .ref 0), (1, .int x0), (2, .int y0), (3, .int x1), (4, .int y1), (5, .int m), (6, .int 0), (7, .int 1)]) (st' := [.int 1, .int 0]) (S' := S) rfl trivial ?_
            refine fV.icmp_ne bX7_wall_66 (fun c66 => ?_) (fun c66 => ?_)
            · refine fV.run iX7_wall_73_7 oX7_wall_73_7 (pc' := 84) (L' := [(0, .ref 0), (1, .int x0), (2, .int y0), (3, .int x1), (4, .int y1), (5, .int m), (6, .int 0), (7, .int 1)]) (st' := [.int m, .int y1, .int x1, .int y0, .int x0, .ref 4]) (S' := S) rfl trivial ?_
              refine fV.callV (M2 := mX6_add) (d := d + 1) (o := 4) (av := [.int x0, .int y0, .int x1, .int y1, .int m]) (rest := []) kX6_add dX7_wall_84 lX7_90 rfl rfl rfl (Nat.le_of_ble_eq_true rfl) (fRoom (by decide)) ⟨Nat.le_refl _, Nat.le_refl _⟩ (qX6_add _ _ _ _ _ h0 h8) ?_
              rintro r9 S9 h9
              by_cases hf : (gI S 4 6) = 16
              · rw [if_pos hf] at h9
                obtain ⟨rfl, h9⟩ := h9
                rw [h9]
                clear h9 S9
                refine fV.to (pc' := 87) (L' := [(0, .ref 0), (1, .int x0), (2, .int y0), (3, .int x1), (4, .int y1), (5, .int m), (6, .int 0), (7, .int 1)]) (st' := [.int (-1004)]) (S' := S) rfl rfl rfl rfl ?_
                exact fV.iret rfl dX7_wall_87 (by unfold oWall; rw [if_pos (by grind [fB, hC]), if_pos (by grind [fB, hC]), if_pos (by grind [fB, hC]), if_pos (by grind [fB, hC])]; exact ⟨rfl, rfl, rfl, fun _ _ _ _ => Or.inl rfl⟩)
              · rw [if_neg hf] at h9
                obtain ⟨rfl, hw⟩ := h9
                refine fV.to (pc' := 87) (L' := [(0, .ref 0), (1, .int x0), (2, .int y0), (3, .int x1), (4, .int y1), (5, .int m), (6, .int 0), (7, .int 1)]) (st' := [.int (gI S 4 6)]) (S' := S9) rfl rfl rfl rfl ?_
                exact fV.iret rfl dX7_wall_87 (by unfold oWall; rw [if_pos (by grind [fB, hC]), if_pos (by grind [fB, hC]), if_pos (by grind [fB, hC]), if_neg (by grind [fB, hC])]; exact ⟨rfl, hw.2.1, hw.1, fun b hb h1 hg => Or.inr ⟨by have z := congrArg (fun q => q.2.1.1) hw.2.1; simp only [hC] at z; rw [z, hb]; exact nI_1 b, geo_add hw hb h1 hg⟩⟩)
            · exact absurd c66 (by decide)
        · refine fV.run iX7_wall_42_5 oX7_wall_42_5 (pc' := 52) (L' := [(0, .ref 0), (1, .int x0), (2, .int y0), (3, .int x1), (4, .int y1), (5, .int m), (6, .int 1)]) (st' := [.int y1, .int y0]) (S' := S) rfl trivial ?_
          refine fV.icmp_ne bX7_wall_52 (fun c52 => ?_) (fun c52 => ?_)
          · refine fV.run iX7_wall_59_4 oX7_wall_59_4 (pc' := 66) (L' := [(0, .ref 0), (1, .int x0), (2, .int y0), (3, .int x1), (4, .int y1), (5, .int m), (6, .int 1), (7, .int 0)]) (st' := [.int 0, .int 1]) (S' := S) rfl trivial ?_
            refine fV.icmp_ne bX7_wall_66 (fun c66 => ?_) (fun c66 => ?_)
            · refine fV.run iX7_wall_73_7 oX7_wall_73_7 (pc' := 84) (L' := [(0, .ref 0), (1, .int x0), (2, .int y0), (3, .int x1), (4, .int y1), (5, .int m), (6, .int 1), (7, .int 0)]) (st' := [.int m, .int y1, .int x1, .int y0, .int x0, .ref 4]) (S' := S) rfl trivial ?_
              refine fV.callV (M2 := mX6_add) (d := d + 1) (o := 4) (av := [.int x0, .int y0, .int x1, .int y1, .int m]) (rest := []) kX6_add dX7_wall_84 lX7_90 rfl rfl rfl (Nat.le_of_ble_eq_true rfl) (fRoom (by decide)) ⟨Nat.le_refl _, Nat.le_refl _⟩ (qX6_add _ _ _ _ _ h0 h8) ?_
              rintro r9 S9 h9
              by_cases hf : (gI S 4 6) = 16
              · rw [if_pos hf] at h9
                obtain ⟨rfl, h9⟩ := h9
                rw [h9]
                clear h9 S9
                refine fV.to (pc' := 87) (L' := [(0, .ref 0), (1, .int x0), (2, .int y0), (3, .int x1), (4, .int y1), (5, .int m), (6, .int 1), (7, .int 0)]) (st' := [.int (-1004)]) (S' := S) rfl rfl rfl rfl ?_
                exact fV.iret rfl dX7_wall_87 (by unfold oWall; rw [if_pos (by grind [fB, hC]), if_pos (by grind [fB, hC]), if_pos (by grind [fB, hC]), if_pos (by grind [fB, hC])]; exact ⟨rfl, rfl, rfl, fun _ _ _ _ => Or.inl rfl⟩)
              · rw [if_neg hf] at h9
                obtain ⟨rfl, hw⟩ := h9
                refine fV.to (pc' := 87) (L' := [(0, .ref 0), (1, .int x0), (2, .int y0), (3, .int x1), (4, .int y1), (5, .int m), (6, .int 1), (7, .int 0)]) (st' := [.int (gI S 4 6)]) (S' := S9) rfl rfl rfl rfl ?_
                exact fV.iret rfl dX7_wall_87 (by unfold oWall; rw [if_pos (by grind [fB, hC]), if_pos (by grind [fB, hC]), if_pos (by grind [fB, hC]), if_neg (by grind [fB, hC])]; exact ⟨rfl, hw.2.1, hw.1, fun b hb h1 hg => Or.inr ⟨by have z := congrArg (fun q => q.2.1.1) hw.2.1; simp only [hC] at z; rw [z, hb]; exact nI_1 b, geo_add hw hb h1 hg⟩⟩)
            · exact absurd c66 (by decide)
          · refine fV.run iX7_wall_55_5 oX7_wall_55_5 (pc' := 66) (L' := [(0, .ref 0), (1, .int x0), (2, .int y0), (3, .int x1), (4, .int y1), (5, .int m), (6, .int 1), (7, .int 1)]) (st' := [.int 1, .int 1]) (S' := S) rfl trivial ?_
            refine fV.icmp_ne bX7_wall_66 (fun c66 => ?_) (fun c66 => ?_)
            · exact absurd c66 (by decide)
            · refine fV.run iX7_wall_69_1 oX7_wall_69_1 (pc' := 72) (L' := [(0, .ref 0), (1, .int x0), (2, .int y0), (3, .int x1), (4, .int y1), (5, .int m), (6, .int 1), (7, .int 1)]) (st' := [.int (-1002)]) (S' := S) rfl trivial ?_
              exact fV.iret rfl dX7_wall_72 (by unfold oWall; rw [if_pos (by grind [fB, hC]), if_pos (by grind [fB, hC]), if_neg (by grind [fB, hC])]; exact ⟨rfl, rfl, rfl, fun _ _ _ _ => Or.inl rfl⟩)
      · refine fV.run iX7_wall_33_1 oX7_wall_33_1 (pc' := 36) (L' := [(0, .ref 0), (1, .int x0), (2, .int y0), (3, .int x1), (4, .int y1), (5, .int m)]) (st' := [.int (-1002)]) (S' := S) rfl trivial ?_
        exact fV.iret rfl dX7_wall_36 (by unfold oWall; rw [if_pos (by grind [fB, hC]), if_neg (by grind [fB, hC])]; exact ⟨rfl, rfl, rfl, fun _ _ _ _ => Or.inl rfl⟩)
  · refine fV.run iX7_wall_12_1 oX7_wall_12_1 (pc' := 15) (L' := [(0, .ref 0), (1, .int x0), (2, .int y0), (3, .int x1), (4, .int y1), (5, .int m)]) (st' := [.int (-1001)]) (S' := S) rfl trivial ?_
    exact fV.iret rfl dX7_wall_15 (by unfold oWall; rw [if_neg (by grind [fB, hC])]; exact ⟨rfl, rfl, rfl, fun _ _ _ _ => Or.inl rfl⟩)
def iX7_move_0_3 : List Instr := [.iload_n 2, .iconst 0, .iconst 1]
theorem oX7_move_0_3 : fOkB cX7_move 0 iX7_move_0_3 = true := by decide +kernel
theorem dX7_move_3 : decode cX7_move 3 = .ok (.invokestatic 74, 3) := by decide +kernel
theorem bX7_move_6 : fBk cX7_move 6 (.ifCond .ne) 13 := ⟨7, by decide +kernel, by decide⟩
def iX7_move_13_1 : List Instr := [.iload_n 2]
theorem oX7_move_13_1 : fOkB cX7_move 13 iX7_move_13_1 = true := by decide +kernel
theorem bX7_move_14 : fBk cX7_move 14 (.ifCond .ne) 24 := ⟨10, by decide +kernel, by decide⟩
def iX7_move_24_5 : List Instr := [.aload_n 0, .getfield 32, .astore 5, .aload 5, .iload_n 1]
theorem oX7_move_24_5 : fOkB cX7_move 24 iX7_move_24_5 = true := by decide +kernel
theorem dX7_move_33 : decode cX7_move 33 = .ok (.invokevirtual 101, 3) := by decide +kernel
theorem bX7_move_36 : fBk cX7_move 36 (.ifCond .ne) 43 := ⟨7, by decide +kernel, by decide⟩
def iX7_move_43_2 : List Instr := [.iload_n 3, .iload 4]
theorem oX7_move_43_2 : fOkB cX7_move 43 iX7_move_43_2 = true := by decide +kernel
theorem dX7_move_46 : decode cX7_move 46 = .ok (.invokestatic 86, 3) := by decide +kernel
theorem bX7_move_49 : fBk cX7_move 49 (.ifCond .ne) 56 := ⟨7, by decide +kernel, by decide⟩
def iX7_move_56_4 : List Instr := [.aload 5, .iload_n 1, .iload_n 3, .iload 4]
theorem oX7_move_56_4 : fOkB cX7_move 56 iX7_move_56_4 = true := by decide +kernel
set_option maxRecDepth 100000 in
theorem lX7_102 : Cond.methodLink RX7 102 yX2_put ∈ fTB := fTB_at 389 rfl rfl
theorem dX7_move_62 : decode cX7_move 62 = .ok (.invokevirtual 102, 3) := by decide +kernel
def iX7_move_65_1 : List Instr := [.iconst 1]
theorem oX7_move_65_1 : fOkB cX7_move 65 iX7_move_65_1 = true := by decide +kernel
theorem dX7_move_66 : decode cX7_move 66 = .ok (.ireturn, 1) := by decide +kernel
def iX7_move_52_1 : List Instr := [.sipush (-1002)]
theorem oX7_move_52_1 : fOkB cX7_move 52 iX7_move_52_1 = true := by decide +kernel
theorem dX7_move_55 : decode cX7_move 55 = .ok (.ireturn, 1) := by decide +kernel
def iX7_move_39_1 : List Instr := [.sipush (-1001)]
theorem oX7_move_39_1 : fOkB cX7_move 39 iX7_move_39_1 = true := by decide +kernel
theorem dX7_move_42 : decode cX7_move 42 = .ok (.ireturn, 1) := by decide +kernel
def iX7_move_17_6 : List Instr := [.aload_n 0, .getfield 28, .goto 7, .astore 5, .aload 5, .iload_n 1]
theorem oX7_move_17_6 : fOkB cX7_move 17 iX7_move_17_6 = true := by decide +kernel
def iX7_move_9_1 : List Instr := [.sipush (-1002)]
theorem oX7_move_9_1 : fOkB cX7_move 9 iX7_move_9_1 = true := by decide +kernel
theorem dX7_move_12 : decode cX7_move 12 = .ok (.ireturn, 1) := by decide +kernel
set_option maxRecDepth 100000 in
theorem qX7_move {G : fG} {d : Nat} {S : fS} (k t x y : Int32) (h0 : gI S 11 2 ≤ 4) (h8 : gI S 14 2 ≤ 8) : fCtr G (d + 2) mX7_move [.ref 0, .int k, .int t, .int x, .int y] S (qC S (oMove (hC S) k t x y)) := by
  refine fCtr.of bXX7_move (Nat.le_of_ble_eq_true rfl) rfl ?_
  refine fV.run iX7_move_0_3 oX7_move_0_3 (pc' := 3) (L' := [(0, .ref 0), (1, .int k), (2, .int t), (3, .int x), (4, .int y)]) (st' := [.int 1, .int 0, .int t]) (S' := S) rfl trivial ?_
  refine fV.callS (M2 := mX7_isWithin) (d := d + 1) (av := [.int t, .int 0, .int 1]) (rest := []) kX7_isWithin dX7_move_3 lX7_74 rfl rfl (Nat.le_of_ble_eq_true rfl) (fRoom (by decide)) ⟨Nat.le_refl _, Nat.le_refl _⟩ (qX7_isWithin _ _ _) ?_
  rintro _ S9 ⟨rfl, h9⟩
  rw [h9]
  clear h9 S9
  refine fV.to (pc' := 6) (L' := [(0, .ref 0), (1, .int k), (2, .int t), (3, .int x), (4, .int y)]) (st' := [.int (fB (decide (0 ≤ t ∧ t ≤ 1)))]) (S' := S) rfl rfl rfl rfl ?_
  refine fV.if_ne bX7_move_6 (fun c6 => ?_) (fun c6 => ?_)
  · refine fV.run iX7_move_13_1 oX7_move_13_1 (pc' := 14) (L' := [(0, .ref 0), (1, .int k), (2, .int t), (3, .int x), (4, .int y)]) (st' := [.int t]) (S' := S) rfl trivial ?_
    refine fV.if_ne bX7_move_14 (fun c14 => ?_) (fun c14 => ?_)
    · refine fV.run iX7_move_24_5 oX7_move_24_5 (pc' := 33) (L' := [(0, .ref 0), (1, .int k), (2, .int t), (3, .int x), (4, .int y), (5, .ref 14)]) (st' := [.int k, .ref 14]) (S' := S) rfl trivial ?_
      refine fV.callV (M2 := mX2_has) (d := d + 1) (o := 14) (av := [.int k]) (rest := []) kX2_has dX7_move_33 lX7_101 rfl rfl rfl (Nat.le_of_ble_eq_true rfl) (fRoom (by decide)) ⟨Nat.le_refl _, Nat.le_refl _⟩ (qX2_has_14 _) ?_
      rintro _ S9 ⟨rfl, h9⟩
      rw [h9]
      clear h9 S9
      refine fV.to (pc' := 36) (L' := [(0, .ref 0), (1, .int k), (2, .int t), (3, .int x), (4, .int y), (5, .ref 14)]) (st' := [.int (fB (decide (0 ≤ k ∧ k < (gI S 14 2))))]) (S' := S) rfl rfl rfl rfl ?_
      refine fV.if_ne bX7_move_36 (fun c36 => ?_) (fun c36 => ?_)
      · refine fV.run iX7_move_43_2 oX7_move_43_2 (pc' := 46) (L' := [(0, .ref 0), (1, .int k), (2, .int t), (3, .int x), (4, .int y), (5, .ref 14)]) (st' := [.int y, .int x]) (S' := S) rfl trivial ?_
        refine fV.callS (M2 := mX7_isPoint) (d := d + 1) (av := [.int x, .int y]) (rest := []) kX7_isPoint dX7_move_46 lX7_86 rfl rfl (Nat.le_of_ble_eq_true rfl) (fRoom (by decide)) ⟨Nat.le_refl _, Nat.le_refl _⟩ (qX7_isPoint _ _) ?_
        rintro _ S9 ⟨rfl, h9⟩
        rw [h9]
        clear h9 S9
        refine fV.to (pc' := 49) (L' := [(0, .ref 0), (1, .int k), (2, .int t), (3, .int x), (4, .int y), (5, .ref 14)]) (st' := [.int (fB (decide ((0 ≤ x ∧ x ≤ 1000) ∧ (0 ≤ y ∧ y ≤ 1000))))]) (S' := S) rfl rfl rfl rfl ?_
        refine fV.if_ne bX7_move_49 (fun c49 => ?_) (fun c49 => ?_)
        · refine fV.run iX7_move_56_4 oX7_move_56_4 (pc' := 62) (L' := [(0, .ref 0), (1, .int k), (2, .int t), (3, .int x), (4, .int y), (5, .ref 14)]) (st' := [.int y, .int x, .int k, .ref 14]) (S' := S) rfl trivial ?_
          refine fV.callV (M2 := mX2_put) (d := d + 1) (o := 14) (av := [.int k, .int x, .int y]) (rest := []) kX2_put dX7_move_62 lX7_102 rfl rfl rfl (Nat.le_of_ble_eq_true rfl) (fRoom (by decide)) ⟨Nat.le_refl _, Nat.le_refl _⟩ (qX2_put_14 _ _ _ (vin (by decide) (by grind [fB]) (by grind [fB]))) ?_
          rintro _ S9 ⟨rfl, h9⟩
          rw [h9]
          clear h9 S9
          refine fV.to (pc' := 65) (L' := [(0, .ref 0), (1, .int k), (2, .int t), (3, .int x), (4, .int y), (5, .ref 14)]) (st' := []) (S' := (wA (wA S 15 (upd (gA S 15) k.toNatClampNeg x)) 16 (upd (gA S 16) k.toNatClampNeg y))) rfl rfl rfl rfl ?_
          refine fV.run iX7_move_65_1 oX7_move_65_1 (pc' := 66) (L' := [(0, .ref 0), (1, .int k), (2, .int t), (3, .int x), (4, .int y), (5, .ref 14)]) (st' := [.int 1]) (S' := (wA (wA S 15 (upd (gA S 15) k.toNatClampNeg x)) 16 (upd (gA S 16) k.toNatClampNeg y))) rfl trivial ?_
          exact fV.iret rfl dX7_move_66 (by unfold oMove; rw [if_neg (by grind [fB, hC]), if_pos (by grind [fB, hC]), if_pos (by grind [fB, hC]), if_pos (by grind [fB, hC])]; exact ⟨rfl, rfl, rfl, fun _ z => z⟩)
        · refine fV.run iX7_move_52_1 oX7_move_52_1 (pc' := 55) (L' := [(0, .ref 0), (1, .int k), (2, .int t), (3, .int x), (4, .int y), (5, .ref 14)]) (st' := [.int (-1002)]) (S' := S) rfl trivial ?_
          exact fV.iret rfl dX7_move_55 (by unfold oMove; rw [if_neg (by grind [fB, hC]), if_pos (by grind [fB, hC]), if_pos (by grind [fB, hC]), if_neg (by grind [fB, hC])]; exact ⟨rfl, rfl, rfl, fun _ z => z⟩)
      · refine fV.run iX7_move_39_1 oX7_move_39_1 (pc' := 42) (L' := [(0, .ref 0), (1, .int k), (2, .int t), (3, .int x), (4, .int y), (5, .ref 14)]) (st' := [.int (-1001)]) (S' := S) rfl trivial ?_
        exact fV.iret rfl dX7_move_42 (by unfold oMove; rw [if_neg (by grind [fB, hC]), if_pos (by grind [fB, hC]), if_neg (by grind [fB, hC])]; exact ⟨rfl, rfl, rfl, fun _ z => z⟩)
    · refine fV.run iX7_move_17_6 oX7_move_17_6 (pc' := 33) (L' := [(0, .ref 0), (1, .int k), (2, .int t), (3, .int x), (4, .int y), (5, .ref 11)]) (st' := [.int k, .ref 11]) (S' := S) rfl trivial ?_
      refine fV.callV (M2 := mX2_has) (d := d + 1) (o := 11) (av := [.int k]) (rest := []) kX2_has dX7_move_33 lX7_101 rfl rfl rfl (Nat.le_of_ble_eq_true rfl) (fRoom (by decide)) ⟨Nat.le_refl _, Nat.le_refl _⟩ (qX2_has_11 _) ?_
      rintro _ S9 ⟨rfl, h9⟩
      rw [h9]
      clear h9 S9
      refine fV.to (pc' := 36) (L' := [(0, .ref 0), (1, .int k), (2, .int t), (3, .int x), (4, .int y), (5, .ref 11)]) (st' := [.int (fB (decide (0 ≤ k ∧ k < (gI S 11 2))))]) (S' := S) rfl rfl rfl rfl ?_
      refine fV.if_ne bX7_move_36 (fun c36 => ?_) (fun c36 => ?_)
      · refine fV.run iX7_move_43_2 oX7_move_43_2 (pc' := 46) (L' := [(0, .ref 0), (1, .int k), (2, .int t), (3, .int x), (4, .int y), (5, .ref 11)]) (st' := [.int y, .int x]) (S' := S) rfl trivial ?_
        refine fV.callS (M2 := mX7_isPoint) (d := d + 1) (av := [.int x, .int y]) (rest := []) kX7_isPoint dX7_move_46 lX7_86 rfl rfl (Nat.le_of_ble_eq_true rfl) (fRoom (by decide)) ⟨Nat.le_refl _, Nat.le_refl _⟩ (qX7_isPoint _ _) ?_
        rintro _ S9 ⟨rfl, h9⟩
        rw [h9]
        clear h9 S9
        refine fV.to (pc' := 49) (L' := [(0, .ref 0), (1, .int k), (2, .int t), (3, .int x), (4, .int y), (5, .ref 11)]) (st' := [.int (fB (decide ((0 ≤ x ∧ x ≤ 1000) ∧ (0 ≤ y ∧ y ≤ 1000))))]) (S' := S) rfl rfl rfl rfl ?_
        refine fV.if_ne bX7_move_49 (fun c49 => ?_) (fun c49 => ?_)
        · refine fV.run iX7_move_56_4 oX7_move_56_4 (pc' := 62) (L' := [(0, .ref 0), (1, .int k), (2, .int t), (3, .int x), (4, .int y), (5, .ref 11)]) (st' := [.int y, .int x, .int k, .ref 11]) (S' := S) rfl trivial ?_
          refine fV.callV (M2 := mX2_put) (d := d + 1) (o := 11) (av := [.int k, .int x, .int y]) (rest := []) kX2_put dX7_move_62 lX7_102 rfl rfl rfl (Nat.le_of_ble_eq_true rfl) (fRoom (by decide)) ⟨Nat.le_refl _, Nat.le_refl _⟩ (qX2_put_11 _ _ _ (vin (by decide) (by grind [fB]) (by grind [fB]))) ?_
          rintro _ S9 ⟨rfl, h9⟩
          rw [h9]
          clear h9 S9
          refine fV.to (pc' := 65) (L' := [(0, .ref 0), (1, .int k), (2, .int t), (3, .int x), (4, .int y), (5, .ref 11)]) (st' := []) (S' := (wA (wA S 12 (upd (gA S 12) k.toNatClampNeg x)) 13 (upd (gA S 13) k.toNatClampNeg y))) rfl rfl rfl rfl ?_
          refine fV.run iX7_move_65_1 oX7_move_65_1 (pc' := 66) (L' := [(0, .ref 0), (1, .int k), (2, .int t), (3, .int x), (4, .int y), (5, .ref 11)]) (st' := [.int 1]) (S' := (wA (wA S 12 (upd (gA S 12) k.toNatClampNeg x)) 13 (upd (gA S 13) k.toNatClampNeg y))) rfl trivial ?_
          exact fV.iret rfl dX7_move_66 (by unfold oMove; rw [if_pos (by grind [fB, hC]), if_pos (by grind [fB, hC]), if_pos (by grind [fB, hC])]; exact ⟨rfl, rfl, rfl, fun _ z => z⟩)
        · refine fV.run iX7_move_52_1 oX7_move_52_1 (pc' := 55) (L' := [(0, .ref 0), (1, .int k), (2, .int t), (3, .int x), (4, .int y), (5, .ref 11)]) (st' := [.int (-1002)]) (S' := S) rfl trivial ?_
          exact fV.iret rfl dX7_move_55 (by unfold oMove; rw [if_pos (by grind [fB, hC]), if_pos (by grind [fB, hC]), if_neg (by grind [fB, hC])]; exact ⟨rfl, rfl, rfl, fun _ z => z⟩)
      · refine fV.run iX7_move_39_1 oX7_move_39_1 (pc' := 42) (L' := [(0, .ref 0), (1, .int k), (2, .int t), (3, .int x), (4, .int y), (5, .ref 11)]) (st' := [.int (-1001)]) (S' := S) rfl trivial ?_
        exact fV.iret rfl dX7_move_42 (by unfold oMove; rw [if_pos (by grind [fB, hC]), if_neg (by grind [fB, hC])]; exact ⟨rfl, rfl, rfl, fun _ z => z⟩)
  · refine fV.run iX7_move_9_1 oX7_move_9_1 (pc' := 12) (L' := [(0, .ref 0), (1, .int k), (2, .int t), (3, .int x), (4, .int y)]) (st' := [.int (-1002)]) (S' := S) rfl trivial ?_
    exact fV.iret rfl dX7_move_12 (by unfold oMove; rw [if_neg (by grind [fB, hC]), if_neg (by grind [fB, hC])]; exact ⟨rfl, rfl, rfl, fun _ z => z⟩)
def iX7_rule_0_1 : List Instr := [.iload_n 1]
theorem oX7_rule_0_1 : fOkB cX7_rule 0 iX7_rule_0_1 = true := by decide +kernel
theorem bX7_rule_1 : fBk cX7_rule 1 (.ifCond .ne) 25 := ⟨24, by decide +kernel, by decide⟩
def iX7_rule_25_2 : List Instr := [.iload_n 1, .iconst 1]
theorem oX7_rule_25_2 : fOkB cX7_rule 25 iX7_rule_25_2 = true := by decide +kernel
theorem bX7_rule_27 : fBk cX7_rule 27 (.if_icmp .ne) 52 := ⟨25, by decide +kernel, by decide⟩
def iX7_rule_52_1 : List Instr := [.sipush (-1002)]
theorem oX7_rule_52_1 : fOkB cX7_rule 52 iX7_rule_52_1 = true := by decide +kernel
theorem dX7_rule_55 : decode cX7_rule 55 = .ok (.ireturn, 1) := by decide +kernel
def iX7_rule_30_3 : List Instr := [.iload_n 2, .iconst 1, .bipush 100]
theorem oX7_rule_30_3 : fOkB cX7_rule 30 iX7_rule_30_3 = true := by decide +kernel
theorem dX7_rule_34 : decode cX7_rule 34 = .ok (.invokestatic 74, 3) := by decide +kernel
theorem bX7_rule_37 : fBk cX7_rule 37 (.ifCond .eq) 52 := ⟨15, by decide +kernel, by decide⟩
def iX7_rule_40_7 : List Instr := [.aload_n 0, .getfield 71, .istore_n 3, .aload_n 0, .iload_n 2, .putfield 71, .iload_n 3]
theorem oX7_rule_40_7 : fOkB cX7_rule 40 iX7_rule_40_7 = true := by decide +kernel
theorem dX7_rule_51 : decode cX7_rule 51 = .ok (.ireturn, 1) := by decide +kernel
def iX7_rule_4_3 : List Instr := [.iload_n 2, .iconst 0, .iconst 3]
theorem oX7_rule_4_3 : fOkB cX7_rule 4 iX7_rule_4_3 = true := by decide +kernel
theorem dX7_rule_7 : decode cX7_rule 7 = .ok (.invokestatic 74, 3) := by decide +kernel
theorem bX7_rule_10 : fBk cX7_rule 10 (.ifCond .eq) 25 := ⟨15, by decide +kernel, by decide⟩
def iX7_rule_13_7 : List Instr := [.aload_n 0, .getfield 67, .istore_n 3, .aload_n 0, .iload_n 2, .putfield 67, .iload_n 3]
theorem oX7_rule_13_7 : fOkB cX7_rule 13 iX7_rule_13_7 = true := by decide +kernel
theorem dX7_rule_24 : decode cX7_rule 24 = .ok (.ireturn, 1) := by decide +kernel
set_option maxRecDepth 100000 in
theorem qX7_rule {G : fG} {d : Nat} {S : fS} (t v : Int32)  : fCtr G (d + 1) mX7_rule [.ref 0, .int t, .int v] S (qC S (oRule (hC S) t v)) := by
  refine fCtr.of bXX7_rule (Nat.le_of_ble_eq_true rfl) rfl ?_
  refine fV.run iX7_rule_0_1 oX7_rule_0_1 (pc' := 1) (L' := [(0, .ref 0), (1, .int t), (2, .int v)]) (st' := [.int t]) (S' := S) rfl trivial ?_
  refine fV.if_ne bX7_rule_1 (fun c1 => ?_) (fun c1 => ?_)
  · refine fV.run iX7_rule_25_2 oX7_rule_25_2 (pc' := 27) (L' := [(0, .ref 0), (1, .int t), (2, .int v)]) (st' := [.int 1, .int t]) (S' := S) rfl trivial ?_
    refine fV.icmp_ne bX7_rule_27 (fun c27 => ?_) (fun c27 => ?_)
    · refine fV.run iX7_rule_52_1 oX7_rule_52_1 (pc' := 55) (L' := [(0, .ref 0), (1, .int t), (2, .int v)]) (st' := [.int (-1002)]) (S' := S) rfl trivial ?_
      exact fV.iret rfl dX7_rule_55 (by first | exact (by unfold oRule; rw [if_pos (by grind [fB, hC]), if_neg (by grind [fB, hC])]; exact ⟨rfl, rfl, rfl, fun _ z => z⟩) | exact (by unfold oRule; rw [if_neg (by grind [fB, hC]), if_pos (by grind [fB, hC]), if_neg (by grind [fB, hC])]; exact ⟨rfl, rfl, rfl, fun _ z => z⟩) | exact (by unfold oRule; rw [if_neg (by grind [fB, hC]), if_neg (by grind [fB, hC])]; exact ⟨rfl, rfl, rfl, fun _ z => z⟩) | (exfalso; grind [fB]))
    · refine fV.run iX7_rule_30_3 oX7_rule_30_3 (pc' := 34) (L' := [(0, .ref 0), (1, .int t), (2, .int v)]) (st' := [.int 100, .int 1, .int v]) (S' := S) rfl trivial ?_
      refine fV.callS (M2 := mX7_isWithin) (d := d) (av := [.int v, .int 1, .int 100]) (rest := []) kX7_isWithin dX7_rule_34 lX7_74 rfl rfl (Nat.le_of_ble_eq_true rfl) (fRoom (by decide)) ⟨Nat.le_refl _, Nat.le_refl _⟩ (qX7_isWithin _ _ _) ?_
      rintro _ S9 ⟨rfl, h9⟩
      rw [h9]
      clear h9 S9
      refine fV.to (pc' := 37) (L' := [(0, .ref 0), (1, .int t), (2, .int v)]) (st' := [.int (fB (decide (1 ≤ v ∧ v ≤ 100)))]) (S' := S) rfl rfl rfl rfl ?_
      refine fV.if_eq bX7_rule_37 (fun c37 => ?_) (fun c37 => ?_)
      · refine fV.run iX7_rule_52_1 oX7_rule_52_1 (pc' := 55) (L' := [(0, .ref 0), (1, .int t), (2, .int v)]) (st' := [.int (-1002)]) (S' := S) rfl trivial ?_
        exact fV.iret rfl dX7_rule_55 (by first | exact (by unfold oRule; rw [if_pos (by grind [fB, hC]), if_neg (by grind [fB, hC])]; exact ⟨rfl, rfl, rfl, fun _ z => z⟩) | exact (by unfold oRule; rw [if_neg (by grind [fB, hC]), if_pos (by grind [fB, hC]), if_neg (by grind [fB, hC])]; exact ⟨rfl, rfl, rfl, fun _ z => z⟩) | exact (by unfold oRule; rw [if_neg (by grind [fB, hC]), if_neg (by grind [fB, hC])]; exact ⟨rfl, rfl, rfl, fun _ z => z⟩) | (exfalso; grind [fB]))
      · refine fV.run iX7_rule_40_7 oX7_rule_40_7 (pc' := 51) (L' := [(0, .ref 0), (1, .int t), (2, .int v), (3, .int (gI S 0 10))]) (st' := [.int (gI S 0 10)]) (S' := (wI S 0 10 v)) rfl trivial ?_
        exact fV.iret rfl dX7_rule_51 (by unfold oRule; rw [if_neg (by grind [fB, hC]), if_pos (by grind [fB, hC]), if_pos (by grind [fB, hC])]; exact ⟨rfl, rfl, rfl, fun _ z => z⟩)
  · refine fV.run iX7_rule_4_3 oX7_rule_4_3 (pc' := 7) (L' := [(0, .ref 0), (1, .int t), (2, .int v)]) (st' := [.int 3, .int 0, .int v]) (S' := S) rfl trivial ?_
    refine fV.callS (M2 := mX7_isWithin) (d := d) (av := [.int v, .int 0, .int 3]) (rest := []) kX7_isWithin dX7_rule_7 lX7_74 rfl rfl (Nat.le_of_ble_eq_true rfl) (fRoom (by decide)) ⟨Nat.le_refl _, Nat.le_refl _⟩ (qX7_isWithin _ _ _) ?_
    rintro _ S9 ⟨rfl, h9⟩
    rw [h9]
    clear h9 S9
    refine fV.to (pc' := 10) (L' := [(0, .ref 0), (1, .int t), (2, .int v)]) (st' := [.int (fB (decide (0 ≤ v ∧ v ≤ 3)))]) (S' := S) rfl rfl rfl rfl ?_
    refine fV.if_eq bX7_rule_10 (fun c10 => ?_) (fun c10 => ?_)
    · refine fV.run iX7_rule_25_2 oX7_rule_25_2 (pc' := 27) (L' := [(0, .ref 0), (1, .int t), (2, .int v)]) (st' := [.int 1, .int t]) (S' := S) rfl trivial ?_
      refine fV.icmp_ne bX7_rule_27 (fun c27 => ?_) (fun c27 => ?_)
      · refine fV.run iX7_rule_52_1 oX7_rule_52_1 (pc' := 55) (L' := [(0, .ref 0), (1, .int t), (2, .int v)]) (st' := [.int (-1002)]) (S' := S) rfl trivial ?_
        exact fV.iret rfl dX7_rule_55 (by first | exact (by unfold oRule; rw [if_pos (by grind [fB, hC]), if_neg (by grind [fB, hC])]; exact ⟨rfl, rfl, rfl, fun _ z => z⟩) | exact (by unfold oRule; rw [if_neg (by grind [fB, hC]), if_pos (by grind [fB, hC]), if_neg (by grind [fB, hC])]; exact ⟨rfl, rfl, rfl, fun _ z => z⟩) | exact (by unfold oRule; rw [if_neg (by grind [fB, hC]), if_neg (by grind [fB, hC])]; exact ⟨rfl, rfl, rfl, fun _ z => z⟩) | (exfalso; grind [fB]))
      · refine fV.run iX7_rule_30_3 oX7_rule_30_3 (pc' := 34) (L' := [(0, .ref 0), (1, .int t), (2, .int v)]) (st' := [.int 100, .int 1, .int v]) (S' := S) rfl trivial ?_
        refine fV.callS (M2 := mX7_isWithin) (d := d) (av := [.int v, .int 1, .int 100]) (rest := []) kX7_isWithin dX7_rule_34 lX7_74 rfl rfl (Nat.le_of_ble_eq_true rfl) (fRoom (by decide)) ⟨Nat.le_refl _, Nat.le_refl _⟩ (qX7_isWithin _ _ _) ?_
        rintro _ S9 ⟨rfl, h9⟩
        rw [h9]
        clear h9 S9
        refine fV.to (pc' := 37) (L' := [(0, .ref 0), (1, .int t), (2, .int v)]) (st' := [.int (fB (decide (1 ≤ v ∧ v ≤ 100)))]) (S' := S) rfl rfl rfl rfl ?_
        refine fV.if_eq bX7_rule_37 (fun c37 => ?_) (fun c37 => ?_)
        · refine fV.run iX7_rule_52_1 oX7_rule_52_1 (pc' := 55) (L' := [(0, .ref 0), (1, .int t), (2, .int v)]) (st' := [.int (-1002)]) (S' := S) rfl trivial ?_
          exact fV.iret rfl dX7_rule_55 (by first | exact (by unfold oRule; rw [if_pos (by grind [fB, hC]), if_neg (by grind [fB, hC])]; exact ⟨rfl, rfl, rfl, fun _ z => z⟩) | exact (by unfold oRule; rw [if_neg (by grind [fB, hC]), if_pos (by grind [fB, hC]), if_neg (by grind [fB, hC])]; exact ⟨rfl, rfl, rfl, fun _ z => z⟩) | exact (by unfold oRule; rw [if_neg (by grind [fB, hC]), if_neg (by grind [fB, hC])]; exact ⟨rfl, rfl, rfl, fun _ z => z⟩) | (exfalso; grind [fB]))
        · refine fV.run iX7_rule_40_7 oX7_rule_40_7 (pc' := 51) (L' := [(0, .ref 0), (1, .int t), (2, .int v), (3, .int (gI S 0 10))]) (st' := [.int (gI S 0 10)]) (S' := (wI S 0 10 v)) rfl trivial ?_
          exact fV.iret rfl dX7_rule_51 (by unfold oRule; rw [if_neg (by grind [fB, hC]), if_pos (by grind [fB, hC]), if_pos (by grind [fB, hC])]; exact ⟨rfl, rfl, rfl, fun _ z => z⟩)
    · refine fV.run iX7_rule_13_7 oX7_rule_13_7 (pc' := 24) (L' := [(0, .ref 0), (1, .int t), (2, .int v), (3, .int (gI S 0 9))]) (st' := [.int (gI S 0 9)]) (S' := (wI S 0 9 v)) rfl trivial ?_
      exact fV.iret rfl dX7_rule_24 (by unfold oRule; rw [if_pos (by grind [fB, hC]), if_pos (by grind [fB, hC])]; exact ⟨rfl, rfl, rfl, fun _ z => z⟩)
def iX6_lengthOf_0_9 : List Instr := [.aload_n 0, .getfield 27, .iload_n 1, .iaload, .aload_n 0, .getfield 24, .iload_n 1, .iaload, .isub]
theorem oX6_lengthOf_0_9 : fOkB cX6_lengthOf 0 iX6_lengthOf_0_9 = true := by decide +kernel
theorem dX6_lengthOf_13 : decode cX6_lengthOf 13 = .ok (.ireturn, 1) := by decide +kernel
set_option maxRecDepth 100000 in
theorem qX6_lengthOf {G : fG} {d : Nat} {S : fS} (w : Int32) (hw : vp_in w 16) : fCtr G (d) mX6_lengthOf [.ref 4, .int w] S (fun r S' => r = some (.int (gA S 10 w.toNatClampNeg - gA S 9 w.toNatClampNeg)) ∧ S' = S) := by
  refine fCtr.of bXX6_lengthOf (Nat.le_of_ble_eq_true rfl) rfl ?_
  refine fV.run iX6_lengthOf_0_9 oX6_lengthOf_0_9 (pc' := 13) (L' := [(0, .ref 4), (1, .int w)]) (st' := [.int ((gA S 10 w.toNatClampNeg) - (gA S 9 w.toNatClampNeg))]) (S' := S) (P := vp_in w 16 ∧ vp_in w 16 ∧ True) rfl ⟨hw, hw, trivial⟩ ?_
  exact fV.iret rfl dX6_lengthOf_13 ⟨rfl, rfl⟩
end
section
/-! the reference's calls that change the hall -/
theorem w_geM1 (x : Int32) : (-1 : Int64) ≤ x.toInt64 ↔ -1 ≤ x := by rw [show (-1 : Int64) = (-1 : Int32).toInt64 from by decide, w_le]
def hSz (v : Int32) : Int32 := if v < 0 then -v else v
def rLen (en : Nat → Int32) (w : Nat) : Int32 := hSz (en (4 * w) - en (4 * w + 2)) + hSz (en (4 * w + 1) - en (4 * w + 3))
def hLen (en : Nat → Int32) (w : Nat) : Int32 := hHigh en w - hLow en w
theorem len_eq {en : Nat → Int32} {w : Nat} (hb : ∀ j, j < 4 → 0 ≤ en (4 * w + j) ∧ en (4 * w + j) ≤ 1000) (hs : (en (4 * w) = en (4 * w + 2) ∧ ¬ en (4 * w + 1) = en (4 * w + 3)) ∨ (¬ en (4 * w) = en (4 * w + 2) ∧ en (4 * w + 1) = en (4 * w + 3))) : rLen en w = hLen en w := by
  have h0 := hb 0 (by omega)
  have h1 := hb 1 (by omega)
  have h2 := hb 2 (by omega)
  have h3 := hb 3 (by omega)
  simp only [Nat.add_zero] at h0
  unfold rLen hLen hHigh hLow hSz
  generalize en (4 * w) = a at *
  generalize en (4 * w + 1) = b at *
  generalize en (4 * w + 2) = c at *
  generalize en (4 * w + 3) = e at *
  clear hb en w
  rcases hs with ⟨q1, q2⟩ | ⟨q1, q2⟩
  · subst q1
    simp only [if_true]
    by_cases z : b < e
    · rw [if_neg (show ¬ a - a < 0 by grind), if_pos (show b - e < 0 by grind), if_pos z, if_neg (show ¬ e < b by grind)]; grind
    · rw [if_neg (show ¬ a - a < 0 by grind), if_neg (show ¬ b - e < 0 by grind), if_neg z, if_pos (show e < b by grind)]; grind
  · subst q2
    simp only [if_neg q1]
    by_cases z : a < c
    · rw [if_pos (show a - c < 0 by grind), if_neg (show ¬ b - b < 0 by grind), if_pos z, if_neg (show ¬ c < a by grind)]; grind
    · rw [if_neg (show ¬ a - c < 0 by grind), if_neg (show ¬ b - b < 0 by grind), if_neg z, if_pos (show c < a by grind)]; grind
theorem vin4 {w : Nat} (hw : w < 16) : vp_in (4 * nI w) 64 ∧ vp_in (4 * nI w + 1) 64 ∧ vp_in (4 * nI w + 2) 64 ∧ vp_in (4 * nI w + 3) 64 := by
  have e : ∀ j : Nat, j < 4 → vp_in (nI (4 * w + j)) 64 := fun j hj => vp_in_nI (by omega) (by decide)
  refine ⟨vinN (w := 4 * w) (by omega) (by decide) (by simp [nI, Int32.ofNat_mul]), vinN (w := 4 * w + 1) (by omega) (by decide) (by simp [nI, Int32.ofNat_add, Int32.ofNat_mul]), vinN (w := 4 * w + 2) (by omega) (by decide) (by simp [nI, Int32.ofNat_add, Int32.ofNat_mul]), vinN (w := 4 * w + 3) (by omega) (by decide) (by simp [nI, Int32.ofNat_add, Int32.ofNat_mul])⟩
set_option maxRecDepth 100000 in
theorem qX8_inP {G : fG} {d : Nat} {S : fS} (v a b : Int64) {P : Prop} [Decidable P] (hP : (a ≤ v ∧ v ≤ b) ↔ P)  : fCtr G (d) mX8_in [.long v, .long a, .long b] S (fun r S' => r = some (.int (fB (decide (P)))) ∧ S' = S) := by
  refine fCtr.of bXX8_in (Nat.le_of_ble_eq_true rfl) rfl ?_
  refine fV.run iX8_in_0_3 oX8_in_0_3 (pc' := 3) (L' := [(0, .long v), (2, .long a), (4, .long b)]) (st' := [.int (lg_cmp v a)]) (S' := S) rfl trivial ?_
  refine fV.lif_lt bX8_in_3 (fun c3 => ?_) (fun c3 => ?_)
  · refine fV.run iX8_in_17_1 oX8_in_17_1 (pc' := 18) (L' := [(0, .long v), (2, .long a), (4, .long b)]) (st' := [.int 0]) (S' := S) rfl trivial ?_
    exact fV.zret rfl dX8_in_18 (by decide) ⟨fBf (by grind [fB]), rfl⟩
  · refine fV.run iX8_in_6_3 oX8_in_6_3 (pc' := 10) (L' := [(0, .long v), (2, .long a), (4, .long b)]) (st' := [.int (lg_cmp v b)]) (S' := S) rfl trivial ?_
    refine fV.lif_gt bX8_in_10 (fun c10 => ?_) (fun c10 => ?_)
    · refine fV.run iX8_in_17_1 oX8_in_17_1 (pc' := 18) (L' := [(0, .long v), (2, .long a), (4, .long b)]) (st' := [.int 0]) (S' := S) rfl trivial ?_
      exact fV.zret rfl dX8_in_18 (by decide) ⟨fBf (by grind [fB]), rfl⟩
    · refine fV.run iX8_in_13_2 oX8_in_13_2 (pc' := 18) (L' := [(0, .long v), (2, .long a), (4, .long b)]) (st' := [.int 1]) (S' := S) rfl trivial ?_
      exact fV.zret rfl dX8_in_18 (by decide) ⟨fBt (by grind [fB]), rfl⟩
def iX8_isPoint_0_4 : List Instr := [.iload_n 0, .i2l, .lconst 0, .ldc2_w 81]
theorem oX8_isPoint_0_4 : fOkB cX8_isPoint 0 iX8_isPoint_0_4 = true := by decide +kernel
set_option maxRecDepth 100000 in
theorem lX8_83 : Cond.methodLink RX8 83 yX8_in ∈ fTB := fTB_at 712 rfl rfl
theorem dX8_isPoint_6 : decode cX8_isPoint 6 = .ok (.invokestatic 83, 3) := by decide +kernel
theorem bX8_isPoint_9 : fBk cX8_isPoint 9 (.ifCond .eq) 28 := ⟨19, by decide +kernel, by decide⟩
def iX8_isPoint_28_1 : List Instr := [.iconst 0]
theorem oX8_isPoint_28_1 : fOkB cX8_isPoint 28 iX8_isPoint_28_1 = true := by decide +kernel
theorem dX8_isPoint_29 : decode cX8_isPoint 29 = .ok (.ireturn, 1) := by decide +kernel
def iX8_isPoint_12_4 : List Instr := [.iload_n 1, .i2l, .lconst 0, .ldc2_w 81]
theorem oX8_isPoint_12_4 : fOkB cX8_isPoint 12 iX8_isPoint_12_4 = true := by decide +kernel
theorem dX8_isPoint_18 : decode cX8_isPoint 18 = .ok (.invokestatic 83, 3) := by decide +kernel
theorem bX8_isPoint_21 : fBk cX8_isPoint 21 (.ifCond .eq) 28 := ⟨7, by decide +kernel, by decide⟩
def iX8_isPoint_24_2 : List Instr := [.iconst 1, .goto 4]
theorem oX8_isPoint_24_2 : fOkB cX8_isPoint 24 iX8_isPoint_24_2 = true := by decide +kernel
set_option maxRecDepth 100000 in
theorem qX8_isPoint {G : fG} {d : Nat} {S : fS} (x y : Int32)  : fCtr G (d + 1) mX8_isPoint [.int x, .int y] S (fun r S' => r = some (.int (fB (decide ((0 ≤ x ∧ x ≤ 1000) ∧ (0 ≤ y ∧ y ≤ 1000))))) ∧ S' = S) := by
  refine fCtr.of bXX8_isPoint (Nat.le_of_ble_eq_true rfl) rfl ?_
  refine fV.run iX8_isPoint_0_4 oX8_isPoint_0_4 (pc' := 6) (L' := [(0, .int x), (1, .int y)]) (st' := [.long 1000, .long 0, .long (Int32.toInt64 x)]) (S' := S) rfl trivial ?_
  refine fV.callS (M2 := mX8_in) (d := d) (av := [.long (Int32.toInt64 x), .long 0, .long 1000]) (rest := []) kX8_in dX8_isPoint_6 lX8_83 rfl rfl (Nat.le_of_ble_eq_true rfl) (fRoom (by decide)) ⟨Nat.le_refl _, Nat.le_refl _⟩ (qX8_inP _ _ _ (P := 0 ≤ x ∧ x ≤ 1000) (and_congr (w_geN (by decide) _) (w_leN (by decide) _))) ?_
  rintro _ S9 ⟨rfl, h9⟩
  rw [h9]
  clear h9 S9
  refine fV.to (pc' := 9) (L' := [(0, .int x), (1, .int y)]) (st' := [.int (fB (decide (0 ≤ x ∧ x ≤ 1000)))]) (S' := S) rfl rfl rfl rfl ?_
  refine fV.if_eq bX8_isPoint_9 (fun c9 => ?_) (fun c9 => ?_)
  · refine fV.run iX8_isPoint_28_1 oX8_isPoint_28_1 (pc' := 29) (L' := [(0, .int x), (1, .int y)]) (st' := [.int 0]) (S' := S) rfl trivial ?_
    exact fV.zret rfl dX8_isPoint_29 (by decide) ⟨fBf (by grind [fB]), rfl⟩
  · refine fV.run iX8_isPoint_12_4 oX8_isPoint_12_4 (pc' := 18) (L' := [(0, .int x), (1, .int y)]) (st' := [.long 1000, .long 0, .long (Int32.toInt64 y)]) (S' := S) rfl trivial ?_
    refine fV.callS (M2 := mX8_in) (d := d) (av := [.long (Int32.toInt64 y), .long 0, .long 1000]) (rest := []) kX8_in dX8_isPoint_18 lX8_83 rfl rfl (Nat.le_of_ble_eq_true rfl) (fRoom (by decide)) ⟨Nat.le_refl _, Nat.le_refl _⟩ (qX8_inP _ _ _ (P := 0 ≤ y ∧ y ≤ 1000) (and_congr (w_geN (by decide) _) (w_leN (by decide) _))) ?_
    rintro _ S9 ⟨rfl, h9⟩
    rw [h9]
    clear h9 S9
    refine fV.to (pc' := 21) (L' := [(0, .int x), (1, .int y)]) (st' := [.int (fB (decide (0 ≤ y ∧ y ≤ 1000)))]) (S' := S) rfl rfl rfl rfl ?_
    refine fV.if_eq bX8_isPoint_21 (fun c21 => ?_) (fun c21 => ?_)
    · refine fV.run iX8_isPoint_28_1 oX8_isPoint_28_1 (pc' := 29) (L' := [(0, .int x), (1, .int y)]) (st' := [.int 0]) (S' := S) rfl trivial ?_
      exact fV.zret rfl dX8_isPoint_29 (by decide) ⟨fBf (by grind [fB]), rfl⟩
    · refine fV.run iX8_isPoint_24_2 oX8_isPoint_24_2 (pc' := 29) (L' := [(0, .int x), (1, .int y)]) (st' := [.int 1]) (S' := S) rfl trivial ?_
      exact fV.zret rfl dX8_isPoint_29 (by decide) ⟨fBt (by grind [fB]), rfl⟩
def iX8_isStuff_0_8 : List Instr := [.iload_n 1, .i2l, .lconst 0, .aload_n 0, .getfield 78, .iconst 1, .isub, .i2l]
theorem oX8_isStuff_0_8 : fOkB cX8_isStuff 0 iX8_isStuff_0_8 = true := by decide +kernel
theorem dX8_isStuff_10 : decode cX8_isStuff 10 = .ok (.invokestatic 83, 3) := by decide +kernel
theorem dX8_isStuff_13 : decode cX8_isStuff 13 = .ok (.ireturn, 1) := by decide +kernel
set_option maxRecDepth 100000 in
theorem qX8_isStuff {G : fG} {d : Nat} {S : fS} (x : Int32) (hs0 : 0 ≤ gI S 36 0) : fCtr G (d + 1) mX8_isStuff [.ref 36, .int x] S (fun r S' => r = some (.int (fB (decide (0 ≤ x ∧ x < gI S 36 0)))) ∧ S' = S) := by
  refine fCtr.of bXX8_isStuff (Nat.le_of_ble_eq_true rfl) rfl ?_
  refine fV.run iX8_isStuff_0_8 oX8_isStuff_0_8 (pc' := 10) (L' := [(0, .ref 36), (1, .int x)]) (st' := [.long (Int32.toInt64 ((gI S 36 0) - 1)), .long 0, .long (Int32.toInt64 x)]) (S' := S) rfl trivial ?_
  refine fV.callS (M2 := mX8_in) (d := d) (av := [.long (Int32.toInt64 x), .long 0, .long (Int32.toInt64 ((gI S 36 0) - 1))]) (rest := []) kX8_in dX8_isStuff_10 lX8_83 rfl rfl (Nat.le_of_ble_eq_true rfl) (fRoom (by decide)) ⟨Nat.le_refl _, Nat.le_refl _⟩ (qX8_inP _ _ _ (P := 0 ≤ x ∧ x ≤ ((gI S 36 0) - 1)) (and_congr (w_geN (by decide) _) (w_le _ _))) ?_
  rintro _ S9 ⟨rfl, h9⟩
  rw [h9]
  clear h9 S9
  refine fV.to (pc' := 13) (L' := [(0, .ref 36), (1, .int x)]) (st' := [.int (fB (decide (0 ≤ x ∧ x ≤ ((gI S 36 0) - 1))))]) (S' := S) rfl rfl rfl rfl ?_
  exact fV.zret rfl dX8_isStuff_13 (fB01 _) ⟨congrArg (fun b => some (Value.int (fB b))) (decide_eq_decide.mpr (by grind)), rfl⟩
def iX8_isWall_0_8 : List Instr := [.iload_n 1, .i2l, .lconst 0, .aload_n 0, .getfield 89, .iconst 1, .isub, .i2l]
theorem oX8_isWall_0_8 : fOkB cX8_isWall 0 iX8_isWall_0_8 = true := by decide +kernel
theorem dX8_isWall_10 : decode cX8_isWall 10 = .ok (.invokestatic 83, 3) := by decide +kernel
theorem dX8_isWall_13 : decode cX8_isWall 13 = .ok (.ireturn, 1) := by decide +kernel
set_option maxRecDepth 100000 in
theorem qX8_isWall {G : fG} {d : Nat} {S : fS} (x : Int32) (hw0 : 0 ≤ gI S 36 3) : fCtr G (d + 1) mX8_isWall [.ref 36, .int x] S (fun r S' => r = some (.int (fB (decide (0 ≤ x ∧ x < gI S 36 3)))) ∧ S' = S) := by
  refine fCtr.of bXX8_isWall (Nat.le_of_ble_eq_true rfl) rfl ?_
  refine fV.run iX8_isWall_0_8 oX8_isWall_0_8 (pc' := 10) (L' := [(0, .ref 36), (1, .int x)]) (st' := [.long (Int32.toInt64 ((gI S 36 3) - 1)), .long 0, .long (Int32.toInt64 x)]) (S' := S) rfl trivial ?_
  refine fV.callS (M2 := mX8_in) (d := d) (av := [.long (Int32.toInt64 x), .long 0, .long (Int32.toInt64 ((gI S 36 3) - 1))]) (rest := []) kX8_in dX8_isWall_10 lX8_83 rfl rfl (Nat.le_of_ble_eq_true rfl) (fRoom (by decide)) ⟨Nat.le_refl _, Nat.le_refl _⟩ (qX8_inP _ _ _ (P := 0 ≤ x ∧ x ≤ ((gI S 36 3) - 1)) (and_congr (w_geN (by decide) _) (w_le _ _))) ?_
  rintro _ S9 ⟨rfl, h9⟩
  rw [h9]
  clear h9 S9
  refine fV.to (pc' := 13) (L' := [(0, .ref 36), (1, .int x)]) (st' := [.int (fB (decide (0 ≤ x ∧ x ≤ ((gI S 36 3) - 1))))]) (S' := S) rfl rfl rfl rfl ?_
  exact fV.zret rfl dX8_isWall_13 (fB01 _) ⟨congrArg (fun b => some (Value.int (fB b))) (decide_eq_decide.mpr (by grind)), rfl⟩
def iX8_isSource_0_8 : List Instr := [.iload_n 1, .i2l, .lconst 0, .aload_n 0, .getfield 103, .iconst 1, .isub, .i2l]
theorem oX8_isSource_0_8 : fOkB cX8_isSource 0 iX8_isSource_0_8 = true := by decide +kernel
theorem dX8_isSource_10 : decode cX8_isSource 10 = .ok (.invokestatic 83, 3) := by decide +kernel
theorem dX8_isSource_13 : decode cX8_isSource 13 = .ok (.ireturn, 1) := by decide +kernel
set_option maxRecDepth 100000 in
theorem qX8_isSource {G : fG} {d : Nat} {S : fS} (x : Int32) (ho0 : 0 ≤ gI S 36 6) : fCtr G (d + 1) mX8_isSource [.ref 36, .int x] S (fun r S' => r = some (.int (fB (decide (0 ≤ x ∧ x < gI S 36 6)))) ∧ S' = S) := by
  refine fCtr.of bXX8_isSource (Nat.le_of_ble_eq_true rfl) rfl ?_
  refine fV.run iX8_isSource_0_8 oX8_isSource_0_8 (pc' := 10) (L' := [(0, .ref 36), (1, .int x)]) (st' := [.long (Int32.toInt64 ((gI S 36 6) - 1)), .long 0, .long (Int32.toInt64 x)]) (S' := S) rfl trivial ?_
  refine fV.callS (M2 := mX8_in) (d := d) (av := [.long (Int32.toInt64 x), .long 0, .long (Int32.toInt64 ((gI S 36 6) - 1))]) (rest := []) kX8_in dX8_isSource_10 lX8_83 rfl rfl (Nat.le_of_ble_eq_true rfl) (fRoom (by decide)) ⟨Nat.le_refl _, Nat.le_refl _⟩ (qX8_inP _ _ _ (P := 0 ≤ x ∧ x ≤ ((gI S 36 6) - 1)) (and_congr (w_geN (by decide) _) (w_le _ _))) ?_
  rintro _ S9 ⟨rfl, h9⟩
  rw [h9]
  clear h9 S9
  refine fV.to (pc' := 13) (L' := [(0, .ref 36), (1, .int x)]) (st' := [.int (fB (decide (0 ≤ x ∧ x ≤ ((gI S 36 6) - 1))))]) (S' := S) rfl rfl rfl rfl ?_
  exact fV.zret rfl dX8_isSource_13 (fB01 _) ⟨congrArg (fun b => some (Value.int (fB b))) (decide_eq_decide.mpr (by grind)), rfl⟩
def iX8_isSeat_0_8 : List Instr := [.iload_n 1, .i2l, .lconst 0, .aload_n 0, .getfield 106, .iconst 1, .isub, .i2l]
theorem oX8_isSeat_0_8 : fOkB cX8_isSeat 0 iX8_isSeat_0_8 = true := by decide +kernel
theorem dX8_isSeat_10 : decode cX8_isSeat 10 = .ok (.invokestatic 83, 3) := by decide +kernel
theorem dX8_isSeat_13 : decode cX8_isSeat 13 = .ok (.ireturn, 1) := by decide +kernel
set_option maxRecDepth 100000 in
theorem qX8_isSeat {G : fG} {d : Nat} {S : fS} (x : Int32) (he0 : 0 ≤ gI S 36 10) : fCtr G (d + 1) mX8_isSeat [.ref 36, .int x] S (fun r S' => r = some (.int (fB (decide (0 ≤ x ∧ x < gI S 36 10)))) ∧ S' = S) := by
  refine fCtr.of bXX8_isSeat (Nat.le_of_ble_eq_true rfl) rfl ?_
  refine fV.run iX8_isSeat_0_8 oX8_isSeat_0_8 (pc' := 10) (L' := [(0, .ref 36), (1, .int x)]) (st' := [.long (Int32.toInt64 ((gI S 36 10) - 1)), .long 0, .long (Int32.toInt64 x)]) (S' := S) rfl trivial ?_
  refine fV.callS (M2 := mX8_in) (d := d) (av := [.long (Int32.toInt64 x), .long 0, .long (Int32.toInt64 ((gI S 36 10) - 1))]) (rest := []) kX8_in dX8_isSeat_10 lX8_83 rfl rfl (Nat.le_of_ble_eq_true rfl) (fRoom (by decide)) ⟨Nat.le_refl _, Nat.le_refl _⟩ (qX8_inP _ _ _ (P := 0 ≤ x ∧ x ≤ ((gI S 36 10) - 1)) (and_congr (w_geN (by decide) _) (w_le _ _))) ?_
  rintro _ S9 ⟨rfl, h9⟩
  rw [h9]
  clear h9 S9
  refine fV.to (pc' := 13) (L' := [(0, .ref 36), (1, .int x)]) (st' := [.int (fB (decide (0 ≤ x ∧ x ≤ ((gI S 36 10) - 1))))]) (S' := S) rfl rfl rfl rfl ?_
  exact fV.zret rfl dX8_isSeat_13 (fB01 _) ⟨congrArg (fun b => some (Value.int (fB b))) (decide_eq_decide.mpr (by grind)), rfl⟩
def iX8_areThere_0_2 : List Instr := [.aload_n 0, .iload_n 1]
theorem oX8_areThere_0_2 : fOkB cX8_areThere 0 iX8_areThere_0_2 = true := by decide +kernel
set_option maxRecDepth 100000 in
theorem lX8_109 : Cond.methodLink RX8 109 yX8_isSource ∈ fTB := fTB_at 751 rfl rfl
theorem dX8_areThere_2 : decode cX8_areThere 2 = .ok (.invokevirtual 109, 3) := by decide +kernel
theorem bX8_areThere_5 : fBk cX8_areThere 5 (.ifCond .eq) 20 := ⟨15, by decide +kernel, by decide⟩
def iX8_areThere_20_1 : List Instr := [.iconst 0]
theorem oX8_areThere_20_1 : fOkB cX8_areThere 20 iX8_areThere_20_1 = true := by decide +kernel
theorem dX8_areThere_21 : decode cX8_areThere 21 = .ok (.ireturn, 1) := by decide +kernel
def iX8_areThere_8_2 : List Instr := [.aload_n 0, .iload_n 2]
theorem oX8_areThere_8_2 : fOkB cX8_areThere 8 iX8_areThere_8_2 = true := by decide +kernel
set_option maxRecDepth 100000 in
theorem lX8_112 : Cond.methodLink RX8 112 yX8_isSeat ∈ fTB := fTB_at 755 rfl rfl
theorem dX8_areThere_10 : decode cX8_areThere 10 = .ok (.invokevirtual 112, 3) := by decide +kernel
theorem bX8_areThere_13 : fBk cX8_areThere 13 (.ifCond .eq) 20 := ⟨7, by decide +kernel, by decide⟩
def iX8_areThere_16_2 : List Instr := [.iconst 1, .goto 4]
theorem oX8_areThere_16_2 : fOkB cX8_areThere 16 iX8_areThere_16_2 = true := by decide +kernel
set_option maxRecDepth 100000 in
theorem qX8_areThere {G : fG} {d : Nat} {S : fS} (x y : Int32) (ho0 : 0 ≤ gI S 36 6) (he0 : 0 ≤ gI S 36 10) : fCtr G (d + 2) mX8_areThere [.ref 36, .int x, .int y] S (fun r S' => r = some (.int (fB (decide ((0 ≤ x ∧ x < gI S 36 6) ∧ (0 ≤ y ∧ y < gI S 36 10))))) ∧ S' = S) := by
  refine fCtr.of bXX8_areThere (Nat.le_of_ble_eq_true rfl) rfl ?_
  refine fV.run iX8_areThere_0_2 oX8_areThere_0_2 (pc' := 2) (L' := [(0, .ref 36), (1, .int x), (2, .int y)]) (st' := [.int x, .ref 36]) (S' := S) rfl trivial ?_
  refine fV.callV (M2 := mX8_isSource) (d := d + 1) (o := 36) (av := [.int x]) (rest := []) kX8_isSource dX8_areThere_2 lX8_109 rfl rfl rfl (Nat.le_of_ble_eq_true rfl) (fRoom (by decide)) ⟨Nat.le_refl _, Nat.le_refl _⟩ (qX8_isSource _ ho0) ?_
  rintro _ S9 ⟨rfl, h9⟩
  rw [h9]
  clear h9 S9
  refine fV.to (pc' := 5) (L' := [(0, .ref 36), (1, .int x), (2, .int y)]) (st' := [.int (fB (decide (0 ≤ x ∧ x < (gI S 36 6))))]) (S' := S) rfl rfl rfl rfl ?_
  refine fV.if_eq bX8_areThere_5 (fun c5 => ?_) (fun c5 => ?_)
  · refine fV.run iX8_areThere_20_1 oX8_areThere_20_1 (pc' := 21) (L' := [(0, .ref 36), (1, .int x), (2, .int y)]) (st' := [.int 0]) (S' := S) rfl trivial ?_
    exact fV.zret rfl dX8_areThere_21 (by decide) ⟨fBf (by grind [fB]), rfl⟩
  · refine fV.run iX8_areThere_8_2 oX8_areThere_8_2 (pc' := 10) (L' := [(0, .ref 36), (1, .int x), (2, .int y)]) (st' := [.int y, .ref 36]) (S' := S) rfl trivial ?_
    refine fV.callV (M2 := mX8_isSeat) (d := d + 1) (o := 36) (av := [.int y]) (rest := []) kX8_isSeat dX8_areThere_10 lX8_112 rfl rfl rfl (Nat.le_of_ble_eq_true rfl) (fRoom (by decide)) ⟨Nat.le_refl _, Nat.le_refl _⟩ (qX8_isSeat _ he0) ?_
    rintro _ S9 ⟨rfl, h9⟩
    rw [h9]
    clear h9 S9
    refine fV.to (pc' := 13) (L' := [(0, .ref 36), (1, .int x), (2, .int y)]) (st' := [.int (fB (decide (0 ≤ y ∧ y < (gI S 36 10))))]) (S' := S) rfl rfl rfl rfl ?_
    refine fV.if_eq bX8_areThere_13 (fun c13 => ?_) (fun c13 => ?_)
    · refine fV.run iX8_areThere_20_1 oX8_areThere_20_1 (pc' := 21) (L' := [(0, .ref 36), (1, .int x), (2, .int y)]) (st' := [.int 0]) (S' := S) rfl trivial ?_
      exact fV.zret rfl dX8_areThere_21 (by decide) ⟨fBf (by grind [fB]), rfl⟩
    · refine fV.run iX8_areThere_16_2 oX8_areThere_16_2 (pc' := 21) (L' := [(0, .ref 36), (1, .int x), (2, .int y)]) (st' := [.int 1]) (S' := S) rfl trivial ?_
      exact fV.zret rfl dX8_areThere_21 (by decide) ⟨fBt (by grind [fB]), rfl⟩
def iX8_stuff_0_4 : List Instr := [.iload_n 1, .i2l, .lconst 0, .ldc2_w 87]
theorem oX8_stuff_0_4 : fOkB cX8_stuff 0 iX8_stuff_0_4 = true := by decide +kernel
theorem dX8_stuff_6 : decode cX8_stuff 6 = .ok (.invokestatic 83, 3) := by decide +kernel
theorem bX8_stuff_9 : fBk cX8_stuff 9 (.ifCond .eq) 24 := ⟨15, by decide +kernel, by decide⟩
def iX8_stuff_24_1 : List Instr := [.sipush (-1002)]
theorem oX8_stuff_24_1 : fOkB cX8_stuff 24 iX8_stuff_24_1 = true := by decide +kernel
theorem dX8_stuff_27 : decode cX8_stuff 27 = .ok (.ireturn, 1) := by decide +kernel
def iX8_stuff_12_4 : List Instr := [.iload_n 2, .i2l, .lconst 0, .ldc2_w 81]
theorem oX8_stuff_12_4 : fOkB cX8_stuff 12 iX8_stuff_12_4 = true := by decide +kernel
theorem dX8_stuff_18 : decode cX8_stuff 18 = .ok (.invokestatic 83, 3) := by decide +kernel
theorem bX8_stuff_21 : fBk cX8_stuff 21 (.ifCond .ne) 28 := ⟨7, by decide +kernel, by decide⟩
def iX8_stuff_28_3 : List Instr := [.aload_n 0, .getfield 78, .bipush 8]
theorem oX8_stuff_28_3 : fOkB cX8_stuff 28 iX8_stuff_28_3 = true := by decide +kernel
theorem bX8_stuff_34 : fBk cX8_stuff 34 (.if_icmp .ne) 41 := ⟨7, by decide +kernel, by decide⟩
def iX8_stuff_41_22 : List Instr := [.aload_n 0, .getfield 7, .aload_n 0, .getfield 78, .iload_n 1, .iastore, .aload_n 0, .getfield 13, .aload_n 0, .getfield 78, .iload_n 2, .iastore, .aload_n 0, .dup, .getfield 78, .iconst 1, .iadd, .putfield 78, .aload_n 0, .getfield 78, .iconst 1, .isub]
theorem oX8_stuff_41_22 : fOkB cX8_stuff 41 iX8_stuff_41_22 = true := by decide +kernel
theorem dX8_stuff_77 : decode cX8_stuff 77 = .ok (.ireturn, 1) := by decide +kernel
def iX8_stuff_37_1 : List Instr := [.sipush (-1004)]
theorem oX8_stuff_37_1 : fOkB cX8_stuff 37 iX8_stuff_37_1 = true := by decide +kernel
theorem dX8_stuff_40 : decode cX8_stuff 40 = .ok (.ireturn, 1) := by decide +kernel
set_option maxRecDepth 100000 in
theorem qX8_stuff {G : fG} {d : Nat} {S : fS} (s c : Int32) (hs0 : 0 ≤ gI S 36 0) (hs8 : gI S 36 0 ≤ 8) (hw0 : 0 ≤ gI S 36 3) (hw8 : gI S 36 3 ≤ 16) (ho0 : 0 ≤ gI S 36 6) (ho8 : gI S 36 6 ≤ 4) (he0 : 0 ≤ gI S 36 10) (he8 : gI S 36 10 ≤ 8) : fCtr G (d + 1) mX8_stuff [.ref 36, .int s, .int c] S (qD S (oStuff (hD S) s c)) := by
  refine fCtr.of bXX8_stuff (Nat.le_of_ble_eq_true rfl) rfl ?_
  refine fV.run iX8_stuff_0_4 oX8_stuff_0_4 (pc' := 6) (L' := [(0, .ref 36), (1, .int s), (2, .int c)]) (st' := [.long 100, .long 0, .long (Int32.toInt64 s)]) (S' := S) rfl trivial ?_
  refine fV.callS (M2 := mX8_in) (d := d) (av := [.long (Int32.toInt64 s), .long 0, .long 100]) (rest := []) kX8_in dX8_stuff_6 lX8_83 rfl rfl (Nat.le_of_ble_eq_true rfl) (fRoom (by decide)) ⟨Nat.le_refl _, Nat.le_refl _⟩ (qX8_inP _ _ _ (P := 0 ≤ s ∧ s ≤ 100) (and_congr (w_geN (by decide) _) (w_leN (by decide) _))) ?_
  rintro _ S9 ⟨rfl, h9⟩
  rw [h9]
  clear h9 S9
  refine fV.to (pc' := 9) (L' := [(0, .ref 36), (1, .int s), (2, .int c)]) (st' := [.int (fB (decide (0 ≤ s ∧ s ≤ 100)))]) (S' := S) rfl rfl rfl rfl ?_
  refine fV.if_eq bX8_stuff_9 (fun c9 => ?_) (fun c9 => ?_)
  · refine fV.run iX8_stuff_24_1 oX8_stuff_24_1 (pc' := 27) (L' := [(0, .ref 36), (1, .int s), (2, .int c)]) (st' := [.int (-1002)]) (S' := S) rfl trivial ?_
    exact fV.iret rfl dX8_stuff_27 (by unfold oStuff; rw [if_neg (by grind [fB, hD])]; exact ⟨rfl, rfl, rfl⟩)
  · refine fV.run iX8_stuff_12_4 oX8_stuff_12_4 (pc' := 18) (L' := [(0, .ref 36), (1, .int s), (2, .int c)]) (st' := [.long 1000, .long 0, .long (Int32.toInt64 c)]) (S' := S) rfl trivial ?_
    refine fV.callS (M2 := mX8_in) (d := d) (av := [.long (Int32.toInt64 c), .long 0, .long 1000]) (rest := []) kX8_in dX8_stuff_18 lX8_83 rfl rfl (Nat.le_of_ble_eq_true rfl) (fRoom (by decide)) ⟨Nat.le_refl _, Nat.le_refl _⟩ (qX8_inP _ _ _ (P := 0 ≤ c ∧ c ≤ 1000) (and_congr (w_geN (by decide) _) (w_leN (by decide) _))) ?_
    rintro _ S9 ⟨rfl, h9⟩
    rw [h9]
    clear h9 S9
    refine fV.to (pc' := 21) (L' := [(0, .ref 36), (1, .int s), (2, .int c)]) (st' := [.int (fB (decide (0 ≤ c ∧ c ≤ 1000)))]) (S' := S) rfl rfl rfl rfl ?_
    refine fV.if_ne bX8_stuff_21 (fun c21 => ?_) (fun c21 => ?_)
    · refine fV.run iX8_stuff_28_3 oX8_stuff_28_3 (pc' := 34) (L' := [(0, .ref 36), (1, .int s), (2, .int c)]) (st' := [.int 8, .int (gI S 36 0)]) (S' := S) rfl trivial ?_
      refine fV.icmp_ne bX8_stuff_34 (fun c34 => ?_) (fun c34 => ?_)
      · refine fV.run iX8_stuff_41_22 oX8_stuff_41_22 (pc' := 77) (L' := [(0, .ref 36), (1, .int s), (2, .int c)]) (st' := [.int (((gI S 36 0) + 1) - 1)]) (S' := (wI (wA (wA S 37 (upd (gA S 37) (gI S 36 0).toNatClampNeg s)) 38 (upd (gA S 38) (gI S 36 0).toNatClampNeg c)) 36 0 ((gI S 36 0) + 1))) (P := vp_in (gI S 36 0) 8 ∧ vp_in (gI S 36 0) 8 ∧ True) rfl ⟨(vin (by decide) (by grind [fB]) (by grind [fB])), (vin (by decide) (by grind [fB]) (by grind [fB])), trivial⟩ ?_
        exact fV.iret rfl dX8_stuff_77 (by unfold oStuff; rw [if_pos (by grind [fB, hD]), if_neg (by grind [fB, hD])]; exact ⟨by simp only [Int32.add_sub_cancel]; rfl, rfl, rfl⟩)
      · refine fV.run iX8_stuff_37_1 oX8_stuff_37_1 (pc' := 40) (L' := [(0, .ref 36), (1, .int s), (2, .int c)]) (st' := [.int (-1004)]) (S' := S) rfl trivial ?_
        exact fV.iret rfl dX8_stuff_40 (by unfold oStuff; rw [if_pos (by grind [fB, hD]), if_pos (by grind [fB, hD])]; exact ⟨rfl, rfl, rfl⟩)
    · refine fV.run iX8_stuff_24_1 oX8_stuff_24_1 (pc' := 27) (L' := [(0, .ref 36), (1, .int s), (2, .int c)]) (st' := [.int (-1002)]) (S' := S) rfl trivial ?_
      exact fV.iret rfl dX8_stuff_27 (by unfold oStuff; rw [if_neg (by grind [fB, hD])]; exact ⟨rfl, rfl, rfl⟩)
def iX8_source_0_2 : List Instr := [.iload_n 1, .iload_n 2]
theorem oX8_source_0_2 : fOkB cX8_source 0 iX8_source_0_2 = true := by decide +kernel
set_option maxRecDepth 100000 in
theorem lX8_96 : Cond.methodLink RX8 96 yX8_isPoint ∈ fTB := fTB_at 724 rfl rfl
theorem dX8_source_2 : decode cX8_source 2 = .ok (.invokestatic 96, 3) := by decide +kernel
theorem bX8_source_5 : fBk cX8_source 5 (.ifCond .eq) 20 := ⟨15, by decide +kernel, by decide⟩
def iX8_source_20_1 : List Instr := [.sipush (-1002)]
theorem oX8_source_20_1 : fOkB cX8_source 20 iX8_source_20_1 = true := by decide +kernel
theorem dX8_source_23 : decode cX8_source 23 = .ok (.ireturn, 1) := by decide +kernel
def iX8_source_8_4 : List Instr := [.iload_n 3, .i2l, .lconst 1, .ldc2_w 81]
theorem oX8_source_8_4 : fOkB cX8_source 8 iX8_source_8_4 = true := by decide +kernel
theorem dX8_source_14 : decode cX8_source 14 = .ok (.invokestatic 83, 3) := by decide +kernel
theorem bX8_source_17 : fBk cX8_source 17 (.ifCond .ne) 24 := ⟨7, by decide +kernel, by decide⟩
def iX8_source_24_3 : List Instr := [.aload_n 0, .getfield 103, .iconst 4]
theorem oX8_source_24_3 : fOkB cX8_source 24 iX8_source_24_3 = true := by decide +kernel
theorem bX8_source_29 : fBk cX8_source 29 (.if_icmp .ne) 36 := ⟨7, by decide +kernel, by decide⟩
def iX8_source_36_28 : List Instr := [.aload_n 0, .getfield 22, .aload_n 0, .getfield 103, .iload_n 1, .iastore, .aload_n 0, .getfield 25, .aload_n 0, .getfield 103, .iload_n 2, .iastore, .aload_n 0, .getfield 28, .aload_n 0, .getfield 103, .iload_n 3, .iastore, .aload_n 0, .dup, .getfield 103, .iconst 1, .iadd, .putfield 103, .aload_n 0, .getfield 103, .iconst 1, .isub]
theorem oX8_source_36_28 : fOkB cX8_source 36 iX8_source_36_28 = true := by decide +kernel
theorem dX8_source_82 : decode cX8_source 82 = .ok (.ireturn, 1) := by decide +kernel
def iX8_source_32_1 : List Instr := [.sipush (-1004)]
theorem oX8_source_32_1 : fOkB cX8_source 32 iX8_source_32_1 = true := by decide +kernel
theorem dX8_source_35 : decode cX8_source 35 = .ok (.ireturn, 1) := by decide +kernel
set_option maxRecDepth 100000 in
theorem qX8_source {G : fG} {d : Nat} {S : fS} (x y p : Int32) (hs0 : 0 ≤ gI S 36 0) (hs8 : gI S 36 0 ≤ 8) (hw0 : 0 ≤ gI S 36 3) (hw8 : gI S 36 3 ≤ 16) (ho0 : 0 ≤ gI S 36 6) (ho8 : gI S 36 6 ≤ 4) (he0 : 0 ≤ gI S 36 10) (he8 : gI S 36 10 ≤ 8) : fCtr G (d + 2) mX8_source [.ref 36, .int x, .int y, .int p] S (qD S (oSource (hD S) x y p)) := by
  refine fCtr.of bXX8_source (Nat.le_of_ble_eq_true rfl) rfl ?_
  refine fV.run iX8_source_0_2 oX8_source_0_2 (pc' := 2) (L' := [(0, .ref 36), (1, .int x), (2, .int y), (3, .int p)]) (st' := [.int y, .int x]) (S' := S) rfl trivial ?_
  refine fV.callS (M2 := mX8_isPoint) (d := d + 1) (av := [.int x, .int y]) (rest := []) kX8_isPoint dX8_source_2 lX8_96 rfl rfl (Nat.le_of_ble_eq_true rfl) (fRoom (by decide)) ⟨Nat.le_refl _, Nat.le_refl _⟩ (qX8_isPoint _ _) ?_
  rintro _ S9 ⟨rfl, h9⟩
  rw [h9]
  clear h9 S9
  refine fV.to (pc' := 5) (L' := [(0, .ref 36), (1, .int x), (2, .int y), (3, .int p)]) (st' := [.int (fB (decide ((0 ≤ x ∧ x ≤ 1000) ∧ (0 ≤ y ∧ y ≤ 1000))))]) (S' := S) rfl rfl rfl rfl ?_
  refine fV.if_eq bX8_source_5 (fun c5 => ?_) (fun c5 => ?_)
  · refine fV.run iX8_source_20_1 oX8_source_20_1 (pc' := 23) (L' := [(0, .ref 36), (1, .int x), (2, .int y), (3, .int p)]) (st' := [.int (-1002)]) (S' := S) rfl trivial ?_
    exact fV.iret rfl dX8_source_23 (by unfold oSource; rw [if_neg (by grind [fB, hD])]; exact ⟨rfl, rfl, rfl⟩)
  · refine fV.run iX8_source_8_4 oX8_source_8_4 (pc' := 14) (L' := [(0, .ref 36), (1, .int x), (2, .int y), (3, .int p)]) (st' := [.long 1000, .long 1, .long (Int32.toInt64 p)]) (S' := S) rfl trivial ?_
    refine fV.callS (M2 := mX8_in) (d := d + 1) (av := [.long (Int32.toInt64 p), .long 1, .long 1000]) (rest := []) kX8_in dX8_source_14 lX8_83 rfl rfl (Nat.le_of_ble_eq_true rfl) (fRoom (by decide)) ⟨Nat.le_refl _, Nat.le_refl _⟩ (qX8_inP _ _ _ (P := 1 ≤ p ∧ p ≤ 1000) (and_congr (w_geN (by decide) _) (w_leN (by decide) _))) ?_
    rintro _ S9 ⟨rfl, h9⟩
    rw [h9]
    clear h9 S9
    refine fV.to (pc' := 17) (L' := [(0, .ref 36), (1, .int x), (2, .int y), (3, .int p)]) (st' := [.int (fB (decide (1 ≤ p ∧ p ≤ 1000)))]) (S' := S) rfl rfl rfl rfl ?_
    refine fV.if_ne bX8_source_17 (fun c17 => ?_) (fun c17 => ?_)
    · refine fV.run iX8_source_24_3 oX8_source_24_3 (pc' := 29) (L' := [(0, .ref 36), (1, .int x), (2, .int y), (3, .int p)]) (st' := [.int 4, .int (gI S 36 6)]) (S' := S) rfl trivial ?_
      refine fV.icmp_ne bX8_source_29 (fun c29 => ?_) (fun c29 => ?_)
      · refine fV.run iX8_source_36_28 oX8_source_36_28 (pc' := 82) (L' := [(0, .ref 36), (1, .int x), (2, .int y), (3, .int p)]) (st' := [.int (((gI S 36 6) + 1) - 1)]) (S' := (wI (wA (wA (wA S 41 (upd (gA S 41) (gI S 36 6).toNatClampNeg x)) 42 (upd (gA S 42) (gI S 36 6).toNatClampNeg y)) 43 (upd (gA S 43) (gI S 36 6).toNatClampNeg p)) 36 6 ((gI S 36 6) + 1))) (P := vp_in (gI S 36 6) 4 ∧ vp_in (gI S 36 6) 4 ∧ vp_in (gI S 36 6) 4 ∧ True) rfl ⟨(vin (by decide) (by grind [fB]) (by grind [fB])), (vin (by decide) (by grind [fB]) (by grind [fB])), (vin (by decide) (by grind [fB]) (by grind [fB])), trivial⟩ ?_
        exact fV.iret rfl dX8_source_82 (by unfold oSource; rw [if_pos (by grind [fB, hD]), if_neg (by grind [fB, hD])]; exact ⟨by simp only [Int32.add_sub_cancel]; rfl, rfl, rfl⟩)
      · refine fV.run iX8_source_32_1 oX8_source_32_1 (pc' := 35) (L' := [(0, .ref 36), (1, .int x), (2, .int y), (3, .int p)]) (st' := [.int (-1004)]) (S' := S) rfl trivial ?_
        exact fV.iret rfl dX8_source_35 (by unfold oSource; rw [if_pos (by grind [fB, hD]), if_pos (by grind [fB, hD])]; exact ⟨rfl, rfl, rfl⟩)
    · refine fV.run iX8_source_20_1 oX8_source_20_1 (pc' := 23) (L' := [(0, .ref 36), (1, .int x), (2, .int y), (3, .int p)]) (st' := [.int (-1002)]) (S' := S) rfl trivial ?_
      exact fV.iret rfl dX8_source_23 (by unfold oSource; rw [if_neg (by grind [fB, hD])]; exact ⟨rfl, rfl, rfl⟩)
def iX8_seat_0_2 : List Instr := [.iload_n 1, .iload_n 2]
theorem oX8_seat_0_2 : fOkB cX8_seat 0 iX8_seat_0_2 = true := by decide +kernel
theorem dX8_seat_2 : decode cX8_seat 2 = .ok (.invokestatic 96, 3) := by decide +kernel
theorem bX8_seat_5 : fBk cX8_seat 5 (.ifCond .ne) 12 := ⟨7, by decide +kernel, by decide⟩
def iX8_seat_12_3 : List Instr := [.aload_n 0, .getfield 106, .bipush 8]
theorem oX8_seat_12_3 : fOkB cX8_seat 12 iX8_seat_12_3 = true := by decide +kernel
theorem bX8_seat_18 : fBk cX8_seat 18 (.if_icmp .ne) 25 := ⟨7, by decide +kernel, by decide⟩
def iX8_seat_25_22 : List Instr := [.aload_n 0, .getfield 31, .aload_n 0, .getfield 106, .iload_n 1, .iastore, .aload_n 0, .getfield 34, .aload_n 0, .getfield 106, .iload_n 2, .iastore, .aload_n 0, .dup, .getfield 106, .iconst 1, .iadd, .putfield 106, .aload_n 0, .getfield 106, .iconst 1, .isub]
theorem oX8_seat_25_22 : fOkB cX8_seat 25 iX8_seat_25_22 = true := by decide +kernel
theorem dX8_seat_61 : decode cX8_seat 61 = .ok (.ireturn, 1) := by decide +kernel
def iX8_seat_21_1 : List Instr := [.sipush (-1004)]
theorem oX8_seat_21_1 : fOkB cX8_seat 21 iX8_seat_21_1 = true := by decide +kernel
theorem dX8_seat_24 : decode cX8_seat 24 = .ok (.ireturn, 1) := by decide +kernel
def iX8_seat_8_1 : List Instr := [.sipush (-1002)]
theorem oX8_seat_8_1 : fOkB cX8_seat 8 iX8_seat_8_1 = true := by decide +kernel
theorem dX8_seat_11 : decode cX8_seat 11 = .ok (.ireturn, 1) := by decide +kernel
set_option maxRecDepth 100000 in
theorem qX8_seat {G : fG} {d : Nat} {S : fS} (x y : Int32) (hs0 : 0 ≤ gI S 36 0) (hs8 : gI S 36 0 ≤ 8) (hw0 : 0 ≤ gI S 36 3) (hw8 : gI S 36 3 ≤ 16) (ho0 : 0 ≤ gI S 36 6) (ho8 : gI S 36 6 ≤ 4) (he0 : 0 ≤ gI S 36 10) (he8 : gI S 36 10 ≤ 8) : fCtr G (d + 2) mX8_seat [.ref 36, .int x, .int y] S (qD S (oSeat (hD S) x y)) := by
  refine fCtr.of bXX8_seat (Nat.le_of_ble_eq_true rfl) rfl ?_
  refine fV.run iX8_seat_0_2 oX8_seat_0_2 (pc' := 2) (L' := [(0, .ref 36), (1, .int x), (2, .int y)]) (st' := [.int y, .int x]) (S' := S) rfl trivial ?_
  refine fV.callS (M2 := mX8_isPoint) (d := d + 1) (av := [.int x, .int y]) (rest := []) kX8_isPoint dX8_seat_2 lX8_96 rfl rfl (Nat.le_of_ble_eq_true rfl) (fRoom (by decide)) ⟨Nat.le_refl _, Nat.le_refl _⟩ (qX8_isPoint _ _) ?_
  rintro _ S9 ⟨rfl, h9⟩
  rw [h9]
  clear h9 S9
  refine fV.to (pc' := 5) (L' := [(0, .ref 36), (1, .int x), (2, .int y)]) (st' := [.int (fB (decide ((0 ≤ x ∧ x ≤ 1000) ∧ (0 ≤ y ∧ y ≤ 1000))))]) (S' := S) rfl rfl rfl rfl ?_
  refine fV.if_ne bX8_seat_5 (fun c5 => ?_) (fun c5 => ?_)
  · refine fV.run iX8_seat_12_3 oX8_seat_12_3 (pc' := 18) (L' := [(0, .ref 36), (1, .int x), (2, .int y)]) (st' := [.int 8, .int (gI S 36 10)]) (S' := S) rfl trivial ?_
    refine fV.icmp_ne bX8_seat_18 (fun c18 => ?_) (fun c18 => ?_)
    · refine fV.run iX8_seat_25_22 oX8_seat_25_22 (pc' := 61) (L' := [(0, .ref 36), (1, .int x), (2, .int y)]) (st' := [.int (((gI S 36 10) + 1) - 1)]) (S' := (wI (wA (wA S 44 (upd (gA S 44) (gI S 36 10).toNatClampNeg x)) 45 (upd (gA S 45) (gI S 36 10).toNatClampNeg y)) 36 10 ((gI S 36 10) + 1))) (P := vp_in (gI S 36 10) 8 ∧ vp_in (gI S 36 10) 8 ∧ True) rfl ⟨(vin (by decide) (by grind [fB]) (by grind [fB])), (vin (by decide) (by grind [fB]) (by grind [fB])), trivial⟩ ?_
      exact fV.iret rfl dX8_seat_61 (by unfold oSeat; rw [if_pos (by grind [fB, hD]), if_neg (by grind [fB, hD])]; exact ⟨by simp only [Int32.add_sub_cancel]; rfl, rfl, rfl⟩)
    · refine fV.run iX8_seat_21_1 oX8_seat_21_1 (pc' := 24) (L' := [(0, .ref 36), (1, .int x), (2, .int y)]) (st' := [.int (-1004)]) (S' := S) rfl trivial ?_
      exact fV.iret rfl dX8_seat_24 (by unfold oSeat; rw [if_pos (by grind [fB, hD]), if_pos (by grind [fB, hD])]; exact ⟨rfl, rfl, rfl⟩)
  · refine fV.run iX8_seat_8_1 oX8_seat_8_1 (pc' := 11) (L' := [(0, .ref 36), (1, .int x), (2, .int y)]) (st' := [.int (-1002)]) (S' := S) rfl trivial ?_
    exact fV.iret rfl dX8_seat_11 (by unfold oSeat; rw [if_neg (by grind [fB, hD])]; exact ⟨rfl, rfl, rfl⟩)
def iX8_cover_0_2 : List Instr := [.aload_n 0, .iload_n 1]
theorem oX8_cover_0_2 : fOkB cX8_cover 0 iX8_cover_0_2 = true := by decide +kernel
set_option maxRecDepth 100000 in
theorem lX8_100 : Cond.methodLink RX8 100 yX8_isWall ∈ fTB := fTB_at 731 rfl rfl
theorem dX8_cover_2 : decode cX8_cover 2 = .ok (.invokevirtual 100, 3) := by decide +kernel
theorem bX8_cover_5 : fBk cX8_cover 5 (.ifCond .eq) 16 := ⟨11, by decide +kernel, by decide⟩
def iX8_cover_16_1 : List Instr := [.sipush (-1001)]
theorem oX8_cover_16_1 : fOkB cX8_cover 16 iX8_cover_16_1 = true := by decide +kernel
theorem dX8_cover_19 : decode cX8_cover 19 = .ok (.ireturn, 1) := by decide +kernel
def iX8_cover_8_2 : List Instr := [.aload_n 0, .iload_n 2]
theorem oX8_cover_8_2 : fOkB cX8_cover 8 iX8_cover_8_2 = true := by decide +kernel
set_option maxRecDepth 100000 in
theorem lX8_92 : Cond.methodLink RX8 92 yX8_isStuff ∈ fTB := fTB_at 720 rfl rfl
theorem dX8_cover_10 : decode cX8_cover 10 = .ok (.invokevirtual 92, 3) := by decide +kernel
theorem bX8_cover_13 : fBk cX8_cover 13 (.ifCond .ne) 20 := ⟨7, by decide +kernel, by decide⟩
def iX8_cover_20_11 : List Instr := [.aload_n 0, .getfield 19, .iload_n 1, .iaload, .istore_n 3, .aload_n 0, .getfield 19, .iload_n 1, .iload_n 2, .iastore, .iload_n 3]
theorem oX8_cover_20_11 : fOkB cX8_cover 20 iX8_cover_20_11 = true := by decide +kernel
theorem dX8_cover_35 : decode cX8_cover 35 = .ok (.ireturn, 1) := by decide +kernel
set_option maxRecDepth 100000 in
theorem qX8_cover {G : fG} {d : Nat} {S : fS} (w m : Int32) (hs0 : 0 ≤ gI S 36 0) (hs8 : gI S 36 0 ≤ 8) (hw0 : 0 ≤ gI S 36 3) (hw8 : gI S 36 3 ≤ 16) (ho0 : 0 ≤ gI S 36 6) (ho8 : gI S 36 6 ≤ 4) (he0 : 0 ≤ gI S 36 10) (he8 : gI S 36 10 ≤ 8) : fCtr G (d + 2) mX8_cover [.ref 36, .int w, .int m] S (qD S (oCover (hD S) w m)) := by
  refine fCtr.of bXX8_cover (Nat.le_of_ble_eq_true rfl) rfl ?_
  refine fV.run iX8_cover_0_2 oX8_cover_0_2 (pc' := 2) (L' := [(0, .ref 36), (1, .int w), (2, .int m)]) (st' := [.int w, .ref 36]) (S' := S) rfl trivial ?_
  refine fV.callV (M2 := mX8_isWall) (d := d + 1) (o := 36) (av := [.int w]) (rest := []) kX8_isWall dX8_cover_2 lX8_100 rfl rfl rfl (Nat.le_of_ble_eq_true rfl) (fRoom (by decide)) ⟨Nat.le_refl _, Nat.le_refl _⟩ (qX8_isWall _ hw0) ?_
  rintro _ S9 ⟨rfl, h9⟩
  rw [h9]
  clear h9 S9
  refine fV.to (pc' := 5) (L' := [(0, .ref 36), (1, .int w), (2, .int m)]) (st' := [.int (fB (decide (0 ≤ w ∧ w < (gI S 36 3))))]) (S' := S) rfl rfl rfl rfl ?_
  refine fV.if_eq bX8_cover_5 (fun c5 => ?_) (fun c5 => ?_)
  · refine fV.run iX8_cover_16_1 oX8_cover_16_1 (pc' := 19) (L' := [(0, .ref 36), (1, .int w), (2, .int m)]) (st' := [.int (-1001)]) (S' := S) rfl trivial ?_
    exact fV.iret rfl dX8_cover_19 (by unfold oCover; rw [if_neg (by grind [fB, hD])]; exact ⟨rfl, rfl, rfl⟩)
  · refine fV.run iX8_cover_8_2 oX8_cover_8_2 (pc' := 10) (L' := [(0, .ref 36), (1, .int w), (2, .int m)]) (st' := [.int m, .ref 36]) (S' := S) rfl trivial ?_
    refine fV.callV (M2 := mX8_isStuff) (d := d + 1) (o := 36) (av := [.int m]) (rest := []) kX8_isStuff dX8_cover_10 lX8_92 rfl rfl rfl (Nat.le_of_ble_eq_true rfl) (fRoom (by decide)) ⟨Nat.le_refl _, Nat.le_refl _⟩ (qX8_isStuff _ hs0) ?_
    rintro _ S9 ⟨rfl, h9⟩
    rw [h9]
    clear h9 S9
    refine fV.to (pc' := 13) (L' := [(0, .ref 36), (1, .int w), (2, .int m)]) (st' := [.int (fB (decide (0 ≤ m ∧ m < (gI S 36 0))))]) (S' := S) rfl rfl rfl rfl ?_
    refine fV.if_ne bX8_cover_13 (fun c13 => ?_) (fun c13 => ?_)
    · refine fV.run iX8_cover_20_11 oX8_cover_20_11 (pc' := 35) (L' := [(0, .ref 36), (1, .int w), (2, .int m), (3, .int (gA S 40 w.toNatClampNeg))]) (st' := [.int (gA S 40 w.toNatClampNeg)]) (S' := (wA S 40 (upd (gA S 40) w.toNatClampNeg m))) (P := vp_in w 16 ∧ vp_in w 16 ∧ True) rfl ⟨(vin (by decide) (by grind [fB]) (by grind [fB])), (vin (by decide) (by grind [fB]) (by grind [fB])), trivial⟩ ?_
      exact fV.iret rfl dX8_cover_35 (by unfold oCover; rw [if_pos (by grind [fB, hD])]; exact ⟨rfl, rfl, rfl⟩)
    · refine fV.run iX8_cover_16_1 oX8_cover_16_1 (pc' := 19) (L' := [(0, .ref 36), (1, .int w), (2, .int m)]) (st' := [.int (-1001)]) (S' := S) rfl trivial ?_
      exact fV.iret rfl dX8_cover_19 (by unfold oCover; rw [if_neg (by grind [fB, hD])]; exact ⟨rfl, rfl, rfl⟩)
def iX8_back_0_2 : List Instr := [.aload_n 0, .getfield 89]
theorem oX8_back_0_2 : fOkB cX8_back 0 iX8_back_0_2 = true := by decide +kernel
theorem bX8_back_4 : fBk cX8_back 4 (.ifCond .ne) 11 := ⟨7, by decide +kernel, by decide⟩
def iX8_back_11_8 : List Instr := [.aload_n 0, .dup, .getfield 89, .iconst 1, .isub, .putfield 89, .aload_n 0, .getfield 89]
theorem oX8_back_11_8 : fOkB cX8_back 11 iX8_back_11_8 = true := by decide +kernel
theorem dX8_back_25 : decode cX8_back 25 = .ok (.ireturn, 1) := by decide +kernel
def iX8_back_7_1 : List Instr := [.sipush (-1003)]
theorem oX8_back_7_1 : fOkB cX8_back 7 iX8_back_7_1 = true := by decide +kernel
theorem dX8_back_10 : decode cX8_back 10 = .ok (.ireturn, 1) := by decide +kernel
set_option maxRecDepth 100000 in
theorem qX8_back {G : fG} {d : Nat} {S : fS}   : fCtr G (d) mX8_back [.ref 36] S (qD S (oBack (hD S) )) := by
  refine fCtr.of bXX8_back (Nat.le_of_ble_eq_true rfl) rfl ?_
  refine fV.run iX8_back_0_2 oX8_back_0_2 (pc' := 4) (L' := [(0, .ref 36)]) (st' := [.int (gI S 36 3)]) (S' := S) rfl trivial ?_
  refine fV.if_ne bX8_back_4 (fun c4 => ?_) (fun c4 => ?_)
  · refine fV.run iX8_back_11_8 oX8_back_11_8 (pc' := 25) (L' := [(0, .ref 36)]) (st' := [.int ((gI S 36 3) - 1)]) (S' := (wI S 36 3 ((gI S 36 3) - 1))) rfl trivial ?_
    exact fV.iret rfl dX8_back_25 (by unfold oBack; rw [if_neg (by grind [fB, hD])]; exact ⟨rfl, rfl, rfl⟩)
  · refine fV.run iX8_back_7_1 oX8_back_7_1 (pc' := 10) (L' := [(0, .ref 36)]) (st' := [.int (-1003)]) (S' := S) rfl trivial ?_
    exact fV.iret rfl dX8_back_10 (by unfold oBack; rw [if_pos (by grind [fB, hD])]; exact ⟨rfl, rfl, rfl⟩)
def iX8_wall_0_2 : List Instr := [.aload_n 0, .iload 5]
theorem oX8_wall_0_2 : fOkB cX8_wall 0 iX8_wall_0_2 = true := by decide +kernel
theorem dX8_wall_3 : decode cX8_wall 3 = .ok (.invokevirtual 92, 3) := by decide +kernel
theorem bX8_wall_6 : fBk cX8_wall 6 (.ifCond .ne) 13 := ⟨7, by decide +kernel, by decide⟩
def iX8_wall_13_2 : List Instr := [.iload_n 1, .iload_n 2]
theorem oX8_wall_13_2 : fOkB cX8_wall 13 iX8_wall_13_2 = true := by decide +kernel
theorem dX8_wall_15 : decode cX8_wall 15 = .ok (.invokestatic 96, 3) := by decide +kernel
theorem bX8_wall_18 : fBk cX8_wall 18 (.ifCond .eq) 54 := ⟨36, by decide +kernel, by decide⟩
def iX8_wall_54_1 : List Instr := [.sipush (-1002)]
theorem oX8_wall_54_1 : fOkB cX8_wall 54 iX8_wall_54_1 = true := by decide +kernel
theorem dX8_wall_57 : decode cX8_wall 57 = .ok (.ireturn, 1) := by decide +kernel
def iX8_wall_21_2 : List Instr := [.iload_n 3, .iload 4]
theorem oX8_wall_21_2 : fOkB cX8_wall 21 iX8_wall_21_2 = true := by decide +kernel
theorem dX8_wall_24 : decode cX8_wall 24 = .ok (.invokestatic 96, 3) := by decide +kernel
theorem bX8_wall_27 : fBk cX8_wall 27 (.ifCond .eq) 54 := ⟨27, by decide +kernel, by decide⟩
def iX8_wall_30_2 : List Instr := [.iload_n 1, .iload_n 3]
theorem oX8_wall_30_2 : fOkB cX8_wall 30 iX8_wall_30_2 = true := by decide +kernel
theorem bX8_wall_32 : fBk cX8_wall 32 (.if_icmp .ne) 39 := ⟨7, by decide +kernel, by decide⟩
def iX8_wall_39_3 : List Instr := [.iconst 0, .iload_n 2, .iload 4]
theorem oX8_wall_39_3 : fOkB cX8_wall 39 iX8_wall_39_3 = true := by decide +kernel
theorem bX8_wall_43 : fBk cX8_wall 43 (.if_icmp .ne) 50 := ⟨7, by decide +kernel, by decide⟩
def iX8_wall_50_1 : List Instr := [.iconst 0]
theorem oX8_wall_50_1 : fOkB cX8_wall 50 iX8_wall_50_1 = true := by decide +kernel
theorem bX8_wall_51 : fBk cX8_wall 51 (.if_icmp .ne) 58 := ⟨7, by decide +kernel, by decide⟩
def iX8_wall_46_2 : List Instr := [.iconst 1, .goto 4]
theorem oX8_wall_46_2 : fOkB cX8_wall 46 iX8_wall_46_2 = true := by decide +kernel
def iX8_wall_58_3 : List Instr := [.aload_n 0, .getfield 89, .bipush 16]
theorem oX8_wall_58_3 : fOkB cX8_wall 58 iX8_wall_58_3 = true := by decide +kernel
theorem bX8_wall_64 : fBk cX8_wall 64 (.if_icmp .ne) 71 := ⟨7, by decide +kernel, by decide⟩
def iX8_wall_71_54 : List Instr := [.aload_n 0, .getfield 16, .iconst 4, .aload_n 0, .getfield 89, .imul, .iload_n 1, .iastore, .aload_n 0, .getfield 16, .iconst 4, .aload_n 0, .getfield 89, .imul, .iconst 1, .iadd, .iload_n 2, .iastore, .aload_n 0, .getfield 16, .iconst 4, .aload_n 0, .getfield 89, .imul, .iconst 2, .iadd, .iload_n 3, .iastore, .aload_n 0, .getfield 16, .iconst 4, .aload_n 0, .getfield 89, .imul, .iconst 3, .iadd, .iload 4, .iastore, .aload_n 0, .getfield 19, .aload_n 0, .getfield 89, .iload 5, .iastore, .aload_n 0, .dup, .getfield 89, .iconst 1, .iadd, .putfield 89, .aload_n 0, .getfield 89, .iconst 1, .isub]
theorem oX8_wall_71_54 : fOkB cX8_wall 71 iX8_wall_71_54 = true := by decide +kernel
theorem dX8_wall_153 : decode cX8_wall 153 = .ok (.ireturn, 1) := by decide +kernel
def iX8_wall_67_1 : List Instr := [.sipush (-1004)]
theorem oX8_wall_67_1 : fOkB cX8_wall 67 iX8_wall_67_1 = true := by decide +kernel
theorem dX8_wall_70 : decode cX8_wall 70 = .ok (.ireturn, 1) := by decide +kernel
def iX8_wall_35_4 : List Instr := [.iconst 1, .goto 4, .iload_n 2, .iload 4]
theorem oX8_wall_35_4 : fOkB cX8_wall 35 iX8_wall_35_4 = true := by decide +kernel
def iX8_wall_9_1 : List Instr := [.sipush (-1001)]
theorem oX8_wall_9_1 : fOkB cX8_wall 9 iX8_wall_9_1 = true := by decide +kernel
theorem dX8_wall_12 : decode cX8_wall 12 = .ok (.ireturn, 1) := by decide +kernel
set_option maxRecDepth 100000 in
theorem qX8_wall {G : fG} {d : Nat} {S : fS} (x0 y0 x1 y1 m : Int32) (hs0 : 0 ≤ gI S 36 0) (hs8 : gI S 36 0 ≤ 8) (hw0 : 0 ≤ gI S 36 3) (hw8 : gI S 36 3 ≤ 16) (ho0 : 0 ≤ gI S 36 6) (ho8 : gI S 36 6 ≤ 4) (he0 : 0 ≤ gI S 36 10) (he8 : gI S 36 10 ≤ 8) : fCtr G (d + 2) mX8_wall [.ref 36, .int x0, .int y0, .int x1, .int y1, .int m] S (qD S (oWall (hD S) x0 y0 x1 y1 m)) := by
  refine fCtr.of bXX8_wall (Nat.le_of_ble_eq_true rfl) rfl ?_
  refine fV.run iX8_wall_0_2 oX8_wall_0_2 (pc' := 3) (L' := [(0, .ref 36), (1, .int x0), (2, .int y0), (3, .int x1), (4, .int y1), (5, .int m)]) (st' := [.int m, .ref 36]) (S' := S) rfl trivial ?_
  refine fV.callV (M2 := mX8_isStuff) (d := d + 1) (o := 36) (av := [.int m]) (rest := []) kX8_isStuff dX8_wall_3 lX8_92 rfl rfl rfl (Nat.le_of_ble_eq_true rfl) (fRoom (by decide)) ⟨Nat.le_refl _, Nat.le_refl _⟩ (qX8_isStuff _ hs0) ?_
  rintro _ S9 ⟨rfl, h9⟩
  rw [h9]
  clear h9 S9
  refine fV.to (pc' := 6) (L' := [(0, .ref 36), (1, .int x0), (2, .int y0), (3, .int x1), (4, .int y1), (5, .int m)]) (st' := [.int (fB (decide (0 ≤ m ∧ m < (gI S 36 0))))]) (S' := S) rfl rfl rfl rfl ?_
  refine fV.if_ne bX8_wall_6 (fun c6 => ?_) (fun c6 => ?_)
  · refine fV.run iX8_wall_13_2 oX8_wall_13_2 (pc' := 15) (L' := [(0, .ref 36), (1, .int x0), (2, .int y0), (3, .int x1), (4, .int y1), (5, .int m)]) (st' := [.int y0, .int x0]) (S' := S) rfl trivial ?_
    refine fV.callS (M2 := mX8_isPoint) (d := d + 1) (av := [.int x0, .int y0]) (rest := []) kX8_isPoint dX8_wall_15 lX8_96 rfl rfl (Nat.le_of_ble_eq_true rfl) (fRoom (by decide)) ⟨Nat.le_refl _, Nat.le_refl _⟩ (qX8_isPoint _ _) ?_
    rintro _ S9 ⟨rfl, h9⟩
    rw [h9]
    clear h9 S9
    refine fV.to (pc' := 18) (L' := [(0, .ref 36), (1, .int x0), (2, .int y0), (3, .int x1), (4, .int y1), (5, .int m)]) (st' := [.int (fB (decide ((0 ≤ x0 ∧ x0 ≤ 1000) ∧ (0 ≤ y0 ∧ y0 ≤ 1000))))]) (S' := S) rfl rfl rfl rfl ?_
    refine fV.if_eq bX8_wall_18 (fun c18 => ?_) (fun c18 => ?_)
    · refine fV.run iX8_wall_54_1 oX8_wall_54_1 (pc' := 57) (L' := [(0, .ref 36), (1, .int x0), (2, .int y0), (3, .int x1), (4, .int y1), (5, .int m)]) (st' := [.int (-1002)]) (S' := S) rfl trivial ?_
      exact fV.iret rfl dX8_wall_57 (by first | exact (by unfold oWall; rw [if_pos (by grind [fB, hD]), if_neg (by grind [fB, hD])]; exact ⟨rfl, rfl, rfl⟩) | exact (by unfold oWall; rw [if_pos (by grind [fB, hD]), if_pos (by grind [fB, hD]), if_neg (by grind [fB, hD])]; exact ⟨rfl, rfl, rfl⟩) | (exfalso; grind [fB]))
    · refine fV.run iX8_wall_21_2 oX8_wall_21_2 (pc' := 24) (L' := [(0, .ref 36), (1, .int x0), (2, .int y0), (3, .int x1), (4, .int y1), (5, .int m)]) (st' := [.int y1, .int x1]) (S' := S) rfl trivial ?_
      refine fV.callS (M2 := mX8_isPoint) (d := d + 1) (av := [.int x1, .int y1]) (rest := []) kX8_isPoint dX8_wall_24 lX8_96 rfl rfl (Nat.le_of_ble_eq_true rfl) (fRoom (by decide)) ⟨Nat.le_refl _, Nat.le_refl _⟩ (qX8_isPoint _ _) ?_
      rintro _ S9 ⟨rfl, h9⟩
      rw [h9]
      clear h9 S9
      refine fV.to (pc' := 27) (L' := [(0, .ref 36), (1, .int x0), (2, .int y0), (3, .int x1), (4, .int y1), (5, .int m)]) (st' := [.int (fB (decide ((0 ≤ x1 ∧ x1 ≤ 1000) ∧ (0 ≤ y1 ∧ y1 ≤ 1000))))]) (S' := S) rfl rfl rfl rfl ?_
      refine fV.if_eq bX8_wall_27 (fun c27 => ?_) (fun c27 => ?_)
      · refine fV.run iX8_wall_54_1 oX8_wall_54_1 (pc' := 57) (L' := [(0, .ref 36), (1, .int x0), (2, .int y0), (3, .int x1), (4, .int y1), (5, .int m)]) (st' := [.int (-1002)]) (S' := S) rfl trivial ?_
        exact fV.iret rfl dX8_wall_57 (by first | exact (by unfold oWall; rw [if_pos (by grind [fB, hD]), if_neg (by grind [fB, hD])]; exact ⟨rfl, rfl, rfl⟩) | exact (by unfold oWall; rw [if_pos (by grind [fB, hD]), if_pos (by grind [fB, hD]), if_neg (by grind [fB, hD])]; exact ⟨rfl, rfl, rfl⟩) | (exfalso; grind [fB]))
      · refine fV.run iX8_wall_30_2 oX8_wall_30_2 (pc' := 32) (L' := [(0, .ref 36), (1, .int x0), (2, .int y0), (3, .int x1), (4, .int y1), (5, .int m)]) (st' := [.int x1, .int x0]) (S' := S) rfl trivial ?_
        refine fV.icmp_ne bX8_wall_32 (fun c32 => ?_) (fun c32 => ?_)
        · refine fV.run iX8_wall_39_3 oX8_wall_39_3 (pc' := 43) (L' := [(0, .ref 36), (1, .int x0), (2, .int y0), (3, .int x1), (4, .int y1), (5, .int m)]) (st' := [.int y1, .int y0, .int 0]) (S' := S) rfl trivial ?_
          refine fV.icmp_ne bX8_wall_43 (fun c43 => ?_) (fun c43 => ?_)
          · refine fV.run iX8_wall_50_1 oX8_wall_50_1 (pc' := 51) (L' := [(0, .ref 36), (1, .int x0), (2, .int y0), (3, .int x1), (4, .int y1), (5, .int m)]) (st' := [.int 0, .int 0]) (S' := S) rfl trivial ?_
            refine fV.icmp_ne bX8_wall_51 (fun c51 => ?_) (fun c51 => ?_)
            · exact absurd c51 (by decide)
            · refine fV.run iX8_wall_54_1 oX8_wall_54_1 (pc' := 57) (L' := [(0, .ref 36), (1, .int x0), (2, .int y0), (3, .int x1), (4, .int y1), (5, .int m)]) (st' := [.int (-1002)]) (S' := S) rfl trivial ?_
              exact fV.iret rfl dX8_wall_57 (by first | exact (by unfold oWall; rw [if_pos (by grind [fB, hD]), if_neg (by grind [fB, hD])]; exact ⟨rfl, rfl, rfl⟩) | exact (by unfold oWall; rw [if_pos (by grind [fB, hD]), if_pos (by grind [fB, hD]), if_neg (by grind [fB, hD])]; exact ⟨rfl, rfl, rfl⟩) | (exfalso; grind [fB]))
          · refine fV.run iX8_wall_46_2 oX8_wall_46_2 (pc' := 51) (L' := [(0, .ref 36), (1, .int x0), (2, .int y0), (3, .int x1), (4, .int y1), (5, .int m)]) (st' := [.int 1, .int 0]) (S' := S) rfl trivial ?_
            refine fV.icmp_ne bX8_wall_51 (fun c51 => ?_) (fun c51 => ?_)
            · refine fV.run iX8_wall_58_3 oX8_wall_58_3 (pc' := 64) (L' := [(0, .ref 36), (1, .int x0), (2, .int y0), (3, .int x1), (4, .int y1), (5, .int m)]) (st' := [.int 16, .int (gI S 36 3)]) (S' := S) rfl trivial ?_
              refine fV.icmp_ne bX8_wall_64 (fun c64 => ?_) (fun c64 => ?_)
              · refine fV.run iX8_wall_71_54 oX8_wall_71_54 (pc' := 153) (L' := [(0, .ref 36), (1, .int x0), (2, .int y0), (3, .int x1), (4, .int y1), (5, .int m)]) (st' := [.int (((gI S 36 3) + 1) - 1)]) (S' := (wI (wA (wA (wA (wA (wA S 39 (upd (gA S 39) (4 * (gI S 36 3)).toNatClampNeg x0)) 39 (upd (upd (gA S 39) (4 * (gI S 36 3)).toNatClampNeg x0) ((4 * (gI S 36 3)) + 1).toNatClampNeg y0)) 39 (upd (upd (upd (gA S 39) (4 * (gI S 36 3)).toNatClampNeg x0) ((4 * (gI S 36 3)) + 1).toNatClampNeg y0) ((4 * (gI S 36 3)) + 2).toNatClampNeg x1)) 39 (upd (upd (upd (upd (gA S 39) (4 * (gI S 36 3)).toNatClampNeg x0) ((4 * (gI S 36 3)) + 1).toNatClampNeg y0) ((4 * (gI S 36 3)) + 2).toNatClampNeg x1) ((4 * (gI S 36 3)) + 3).toNatClampNeg y1)) 40 (upd (gA S 40) (gI S 36 3).toNatClampNeg m)) 36 3 ((gI S 36 3) + 1))) (P := vp_in (4 * (gI S 36 3)) 64 ∧ vp_in ((4 * (gI S 36 3)) + 1) 64 ∧ vp_in ((4 * (gI S 36 3)) + 2) 64 ∧ vp_in ((4 * (gI S 36 3)) + 3) 64 ∧ vp_in (gI S 36 3) 16 ∧ True) rfl ⟨(vin (by decide) (by grind [fB]) (by grind [fB])), (vin (by decide) (by grind [fB]) (by grind [fB])), (vin (by decide) (by grind [fB]) (by grind [fB])), (vin (by decide) (by grind [fB]) (by grind [fB])), (vin (by decide) (by grind [fB]) (by grind [fB])), trivial⟩ ?_
                exact fV.iret rfl dX8_wall_153 (by first | exact (by unfold oWall; rw [if_pos (by grind [fB, hD]), if_pos (by grind [fB, hD]), if_pos (by grind [fB, hD]), if_neg (by grind [fB, hD])]; exact ⟨by simp only [Int32.add_sub_cancel]; rfl, rfl, rfl⟩) | (exfalso; grind [fB]))
              · refine fV.run iX8_wall_67_1 oX8_wall_67_1 (pc' := 70) (L' := [(0, .ref 36), (1, .int x0), (2, .int y0), (3, .int x1), (4, .int y1), (5, .int m)]) (st' := [.int (-1004)]) (S' := S) rfl trivial ?_
                exact fV.iret rfl dX8_wall_70 (by first | exact (by unfold oWall; rw [if_pos (by grind [fB, hD]), if_pos (by grind [fB, hD]), if_pos (by grind [fB, hD]), if_pos (by grind [fB, hD])]; exact ⟨rfl, rfl, rfl⟩) | (exfalso; grind [fB]))
            · exact absurd c51 (by decide)
        · refine fV.run iX8_wall_35_4 oX8_wall_35_4 (pc' := 43) (L' := [(0, .ref 36), (1, .int x0), (2, .int y0), (3, .int x1), (4, .int y1), (5, .int m)]) (st' := [.int y1, .int y0, .int 1]) (S' := S) rfl trivial ?_
          refine fV.icmp_ne bX8_wall_43 (fun c43 => ?_) (fun c43 => ?_)
          · refine fV.run iX8_wall_50_1 oX8_wall_50_1 (pc' := 51) (L' := [(0, .ref 36), (1, .int x0), (2, .int y0), (3, .int x1), (4, .int y1), (5, .int m)]) (st' := [.int 0, .int 1]) (S' := S) rfl trivial ?_
            refine fV.icmp_ne bX8_wall_51 (fun c51 => ?_) (fun c51 => ?_)
            · refine fV.run iX8_wall_58_3 oX8_wall_58_3 (pc' := 64) (L' := [(0, .ref 36), (1, .int x0), (2, .int y0), (3, .int x1), (4, .int y1), (5, .int m)]) (st' := [.int 16, .int (gI S 36 3)]) (S' := S) rfl trivial ?_
              refine fV.icmp_ne bX8_wall_64 (fun c64 => ?_) (fun c64 => ?_)
              · refine fV.run iX8_wall_71_54 oX8_wall_71_54 (pc' := 153) (L' := [(0, .ref 36), (1, .int x0), (2, .int y0), (3, .int x1), (4, .int y1), (5, .int m)]) (st' := [.int (((gI S 36 3) + 1) - 1)]) (S' := (wI (wA (wA (wA (wA (wA S 39 (upd (gA S 39) (4 * (gI S 36 3)).toNatClampNeg x0)) 39 (upd (upd (gA S 39) (4 * (gI S 36 3)).toNatClampNeg x0) ((4 * (gI S 36 3)) + 1).toNatClampNeg y0)) 39 (upd (upd (upd (gA S 39) (4 * (gI S 36 3)).toNatClampNeg x0) ((4 * (gI S 36 3)) + 1).toNatClampNeg y0) ((4 * (gI S 36 3)) + 2).toNatClampNeg x1)) 39 (upd (upd (upd (upd (gA S 39) (4 * (gI S 36 3)).toNatClampNeg x0) ((4 * (gI S 36 3)) + 1).toNatClampNeg y0) ((4 * (gI S 36 3)) + 2).toNatClampNeg x1) ((4 * (gI S 36 3)) + 3).toNatClampNeg y1)) 40 (upd (gA S 40) (gI S 36 3).toNatClampNeg m)) 36 3 ((gI S 36 3) + 1))) (P := vp_in (4 * (gI S 36 3)) 64 ∧ vp_in ((4 * (gI S 36 3)) + 1) 64 ∧ vp_in ((4 * (gI S 36 3)) + 2) 64 ∧ vp_in ((4 * (gI S 36 3)) + 3) 64 ∧ vp_in (gI S 36 3) 16 ∧ True) rfl ⟨(vin (by decide) (by grind [fB]) (by grind [fB])), (vin (by decide) (by grind [fB]) (by grind [fB])), (vin (by decide) (by grind [fB]) (by grind [fB])), (vin (by decide) (by grind [fB]) (by grind [fB])), (vin (by decide) (by grind [fB]) (by grind [fB])), trivial⟩ ?_
                exact fV.iret rfl dX8_wall_153 (by first | exact (by unfold oWall; rw [if_pos (by grind [fB, hD]), if_pos (by grind [fB, hD]), if_pos (by grind [fB, hD]), if_neg (by grind [fB, hD])]; exact ⟨by simp only [Int32.add_sub_cancel]; rfl, rfl, rfl⟩) | (exfalso; grind [fB]))
              · refine fV.run iX8_wall_67_1 oX8_wall_67_1 (pc' := 70) (L' := [(0, .ref 36), (1, .int x0), (2, .int y0), (3, .int x1), (4, .int y1), (5, .int m)]) (st' := [.int (-1004)]) (S' := S) rfl trivial ?_
                exact fV.iret rfl dX8_wall_70 (by first | exact (by unfold oWall; rw [if_pos (by grind [fB, hD]), if_pos (by grind [fB, hD]), if_pos (by grind [fB, hD]), if_pos (by grind [fB, hD])]; exact ⟨rfl, rfl, rfl⟩) | (exfalso; grind [fB]))
            · exact absurd c51 (by decide)
          · refine fV.run iX8_wall_46_2 oX8_wall_46_2 (pc' := 51) (L' := [(0, .ref 36), (1, .int x0), (2, .int y0), (3, .int x1), (4, .int y1), (5, .int m)]) (st' := [.int 1, .int 1]) (S' := S) rfl trivial ?_
            refine fV.icmp_ne bX8_wall_51 (fun c51 => ?_) (fun c51 => ?_)
            · exact absurd c51 (by decide)
            · refine fV.run iX8_wall_54_1 oX8_wall_54_1 (pc' := 57) (L' := [(0, .ref 36), (1, .int x0), (2, .int y0), (3, .int x1), (4, .int y1), (5, .int m)]) (st' := [.int (-1002)]) (S' := S) rfl trivial ?_
              exact fV.iret rfl dX8_wall_57 (by first | exact (by unfold oWall; rw [if_pos (by grind [fB, hD]), if_neg (by grind [fB, hD])]; exact ⟨rfl, rfl, rfl⟩) | exact (by unfold oWall; rw [if_pos (by grind [fB, hD]), if_pos (by grind [fB, hD]), if_neg (by grind [fB, hD])]; exact ⟨rfl, rfl, rfl⟩) | (exfalso; grind [fB]))
  · refine fV.run iX8_wall_9_1 oX8_wall_9_1 (pc' := 12) (L' := [(0, .ref 36), (1, .int x0), (2, .int y0), (3, .int x1), (4, .int y1), (5, .int m)]) (st' := [.int (-1001)]) (S' := S) rfl trivial ?_
    exact fV.iret rfl dX8_wall_12 (by unfold oWall; rw [if_neg (by grind [fB, hD])]; exact ⟨rfl, rfl, rfl⟩)
def iX8_move_0_4 : List Instr := [.iload_n 2, .i2l, .lconst 0, .lconst 1]
theorem oX8_move_0_4 : fOkB cX8_move 0 iX8_move_0_4 = true := by decide +kernel
theorem dX8_move_4 : decode cX8_move 4 = .ok (.invokestatic 83, 3) := by decide +kernel
theorem bX8_move_7 : fBk cX8_move 7 (.ifCond .ne) 14 := ⟨7, by decide +kernel, by decide⟩
def iX8_move_14_1 : List Instr := [.iload_n 2]
theorem oX8_move_14_1 : fOkB cX8_move 14 iX8_move_14_1 = true := by decide +kernel
theorem bX8_move_15 : fBk cX8_move 15 (.ifCond .ne) 29 := ⟨14, by decide +kernel, by decide⟩
def iX8_move_29_2 : List Instr := [.aload_n 0, .iload_n 1]
theorem oX8_move_29_2 : fOkB cX8_move 29 iX8_move_29_2 = true := by decide +kernel
theorem dX8_move_31 : decode cX8_move 31 = .ok (.invokevirtual 112, 3) := by decide +kernel
theorem bX8_move_34 : fBk cX8_move 34 (.ifCond .ne) 41 := ⟨7, by decide +kernel, by decide⟩
def iX8_move_41_2 : List Instr := [.iload_n 3, .iload 4]
theorem oX8_move_41_2 : fOkB cX8_move 41 iX8_move_41_2 = true := by decide +kernel
theorem dX8_move_44 : decode cX8_move 44 = .ok (.invokestatic 96, 3) := by decide +kernel
theorem bX8_move_47 : fBk cX8_move 47 (.ifCond .ne) 54 := ⟨7, by decide +kernel, by decide⟩
def iX8_move_54_1 : List Instr := [.iload_n 2]
theorem oX8_move_54_1 : fOkB cX8_move 54 iX8_move_54_1 = true := by decide +kernel
theorem bX8_move_55 : fBk cX8_move 55 (.ifCond .ne) 76 := ⟨21, by decide +kernel, by decide⟩
def iX8_move_76_11 : List Instr := [.aload_n 0, .getfield 31, .iload_n 1, .iload_n 3, .iastore, .aload_n 0, .getfield 34, .iload_n 1, .iload 4, .iastore, .iconst 1]
theorem oX8_move_76_11 : fOkB cX8_move 76 iX8_move_76_11 = true := by decide +kernel
theorem dX8_move_92 : decode cX8_move 92 = .ok (.ireturn, 1) := by decide +kernel
def iX8_move_58_12 : List Instr := [.aload_n 0, .getfield 22, .iload_n 1, .iload_n 3, .iastore, .aload_n 0, .getfield 25, .iload_n 1, .iload 4, .iastore, .goto 18, .iconst 1]
theorem oX8_move_58_12 : fOkB cX8_move 58 iX8_move_58_12 = true := by decide +kernel
def iX8_move_50_1 : List Instr := [.sipush (-1002)]
theorem oX8_move_50_1 : fOkB cX8_move 50 iX8_move_50_1 = true := by decide +kernel
theorem dX8_move_53 : decode cX8_move 53 = .ok (.ireturn, 1) := by decide +kernel
def iX8_move_37_1 : List Instr := [.sipush (-1001)]
theorem oX8_move_37_1 : fOkB cX8_move 37 iX8_move_37_1 = true := by decide +kernel
theorem dX8_move_40 : decode cX8_move 40 = .ok (.ireturn, 1) := by decide +kernel
def iX8_move_18_2 : List Instr := [.aload_n 0, .iload_n 1]
theorem oX8_move_18_2 : fOkB cX8_move 18 iX8_move_18_2 = true := by decide +kernel
theorem dX8_move_20 : decode cX8_move 20 = .ok (.invokevirtual 109, 3) := by decide +kernel
theorem bX8_move_23 : fBk cX8_move 23 (.ifCond .ne) 41 := ⟨18, by decide +kernel, by decide⟩
def iX8_move_26_2 : List Instr := [.goto 11, .sipush (-1001)]
theorem oX8_move_26_2 : fOkB cX8_move 26 iX8_move_26_2 = true := by decide +kernel
def iX8_move_10_1 : List Instr := [.sipush (-1002)]
theorem oX8_move_10_1 : fOkB cX8_move 10 iX8_move_10_1 = true := by decide +kernel
theorem dX8_move_13 : decode cX8_move 13 = .ok (.ireturn, 1) := by decide +kernel
set_option maxRecDepth 100000 in
theorem qX8_move {G : fG} {d : Nat} {S : fS} (k t x y : Int32) (hs0 : 0 ≤ gI S 36 0) (hs8 : gI S 36 0 ≤ 8) (hw0 : 0 ≤ gI S 36 3) (hw8 : gI S 36 3 ≤ 16) (ho0 : 0 ≤ gI S 36 6) (ho8 : gI S 36 6 ≤ 4) (he0 : 0 ≤ gI S 36 10) (he8 : gI S 36 10 ≤ 8) : fCtr G (d + 2) mX8_move [.ref 36, .int k, .int t, .int x, .int y] S (qD S (oMove (hD S) k t x y)) := by
  refine fCtr.of bXX8_move (Nat.le_of_ble_eq_true rfl) rfl ?_
  refine fV.run iX8_move_0_4 oX8_move_0_4 (pc' := 4) (L' := [(0, .ref 36), (1, .int k), (2, .int t), (3, .int x), (4, .int y)]) (st' := [.long 1, .long 0, .long (Int32.toInt64 t)]) (S' := S) rfl trivial ?_
  refine fV.callS (M2 := mX8_in) (d := d + 1) (av := [.long (Int32.toInt64 t), .long 0, .long 1]) (rest := []) kX8_in dX8_move_4 lX8_83 rfl rfl (Nat.le_of_ble_eq_true rfl) (fRoom (by decide)) ⟨Nat.le_refl _, Nat.le_refl _⟩ (qX8_inP _ _ _ (P := 0 ≤ t ∧ t ≤ 1) (and_congr (w_geN (by decide) _) (w_leN (by decide) _))) ?_
  rintro _ S9 ⟨rfl, h9⟩
  rw [h9]
  clear h9 S9
  refine fV.to (pc' := 7) (L' := [(0, .ref 36), (1, .int k), (2, .int t), (3, .int x), (4, .int y)]) (st' := [.int (fB (decide (0 ≤ t ∧ t ≤ 1)))]) (S' := S) rfl rfl rfl rfl ?_
  refine fV.if_ne bX8_move_7 (fun c7 => ?_) (fun c7 => ?_)
  · refine fV.run iX8_move_14_1 oX8_move_14_1 (pc' := 15) (L' := [(0, .ref 36), (1, .int k), (2, .int t), (3, .int x), (4, .int y)]) (st' := [.int t]) (S' := S) rfl trivial ?_
    refine fV.if_ne bX8_move_15 (fun c15 => ?_) (fun c15 => ?_)
    · refine fV.run iX8_move_29_2 oX8_move_29_2 (pc' := 31) (L' := [(0, .ref 36), (1, .int k), (2, .int t), (3, .int x), (4, .int y)]) (st' := [.int k, .ref 36]) (S' := S) rfl trivial ?_
      refine fV.callV (M2 := mX8_isSeat) (d := d + 1) (o := 36) (av := [.int k]) (rest := []) kX8_isSeat dX8_move_31 lX8_112 rfl rfl rfl (Nat.le_of_ble_eq_true rfl) (fRoom (by decide)) ⟨Nat.le_refl _, Nat.le_refl _⟩ (qX8_isSeat _ he0) ?_
      rintro _ S9 ⟨rfl, h9⟩
      rw [h9]
      clear h9 S9
      refine fV.to (pc' := 34) (L' := [(0, .ref 36), (1, .int k), (2, .int t), (3, .int x), (4, .int y)]) (st' := [.int (fB (decide (0 ≤ k ∧ k < (gI S 36 10))))]) (S' := S) rfl rfl rfl rfl ?_
      refine fV.if_ne bX8_move_34 (fun c34 => ?_) (fun c34 => ?_)
      · refine fV.run iX8_move_41_2 oX8_move_41_2 (pc' := 44) (L' := [(0, .ref 36), (1, .int k), (2, .int t), (3, .int x), (4, .int y)]) (st' := [.int y, .int x]) (S' := S) rfl trivial ?_
        refine fV.callS (M2 := mX8_isPoint) (d := d + 1) (av := [.int x, .int y]) (rest := []) kX8_isPoint dX8_move_44 lX8_96 rfl rfl (Nat.le_of_ble_eq_true rfl) (fRoom (by decide)) ⟨Nat.le_refl _, Nat.le_refl _⟩ (qX8_isPoint _ _) ?_
        rintro _ S9 ⟨rfl, h9⟩
        rw [h9]
        clear h9 S9
        refine fV.to (pc' := 47) (L' := [(0, .ref 36), (1, .int k), (2, .int t), (3, .int x), (4, .int y)]) (st' := [.int (fB (decide ((0 ≤ x ∧ x ≤ 1000) ∧ (0 ≤ y ∧ y ≤ 1000))))]) (S' := S) rfl rfl rfl rfl ?_
        refine fV.if_ne bX8_move_47 (fun c47 => ?_) (fun c47 => ?_)
        · refine fV.run iX8_move_54_1 oX8_move_54_1 (pc' := 55) (L' := [(0, .ref 36), (1, .int k), (2, .int t), (3, .int x), (4, .int y)]) (st' := [.int t]) (S' := S) rfl trivial ?_
          refine fV.if_ne bX8_move_55 (fun c55 => ?_) (fun c55 => ?_)
          · refine fV.run iX8_move_76_11 oX8_move_76_11 (pc' := 92) (L' := [(0, .ref 36), (1, .int k), (2, .int t), (3, .int x), (4, .int y)]) (st' := [.int 1]) (S' := (wA (wA S 44 (upd (gA S 44) k.toNatClampNeg x)) 45 (upd (gA S 45) k.toNatClampNeg y))) (P := vp_in k 8 ∧ vp_in k 8 ∧ True) rfl ⟨(by first | exact vin (by decide) (by grind [fB]) (by grind [fB]) | (exfalso; grind [fB])), (by first | exact vin (by decide) (by grind [fB]) (by grind [fB]) | (exfalso; grind [fB])), trivial⟩ ?_
            exact fV.iret rfl dX8_move_92 (by first | exact (by unfold oMove; rw [if_pos (by grind [fB, hD]), if_pos (by grind [fB, hD]), if_pos (by grind [fB, hD])]; exact ⟨rfl, rfl, rfl⟩) | exact (by unfold oMove; rw [if_neg (by grind [fB, hD]), if_pos (by grind [fB, hD]), if_pos (by grind [fB, hD]), if_pos (by grind [fB, hD])]; exact ⟨rfl, rfl, rfl⟩) | (exfalso; grind [fB]))
          · refine fV.run iX8_move_58_12 oX8_move_58_12 (pc' := 92) (L' := [(0, .ref 36), (1, .int k), (2, .int t), (3, .int x), (4, .int y)]) (st' := [.int 1]) (S' := (wA (wA S 41 (upd (gA S 41) k.toNatClampNeg x)) 42 (upd (gA S 42) k.toNatClampNeg y))) (P := vp_in k 4 ∧ vp_in k 4 ∧ True) rfl ⟨(by first | exact vin (by decide) (by grind [fB]) (by grind [fB]) | (exfalso; grind [fB])), (by first | exact vin (by decide) (by grind [fB]) (by grind [fB]) | (exfalso; grind [fB])), trivial⟩ ?_
            exact fV.iret rfl dX8_move_92 (by first | exact (by unfold oMove; rw [if_pos (by grind [fB, hD]), if_pos (by grind [fB, hD]), if_pos (by grind [fB, hD])]; exact ⟨rfl, rfl, rfl⟩) | exact (by unfold oMove; rw [if_neg (by grind [fB, hD]), if_pos (by grind [fB, hD]), if_pos (by grind [fB, hD]), if_pos (by grind [fB, hD])]; exact ⟨rfl, rfl, rfl⟩) | (exfalso; grind [fB]))
        · refine fV.run iX8_move_50_1 oX8_move_50_1 (pc' := 53) (L' := [(0, .ref 36), (1, .int k), (2, .int t), (3, .int x), (4, .int y)]) (st' := [.int (-1002)]) (S' := S) rfl trivial ?_
          exact fV.iret rfl dX8_move_53 (by first | exact (by unfold oMove; rw [if_neg (by grind [fB, hD]), if_neg (by grind [fB, hD])]; exact ⟨rfl, rfl, rfl⟩) | exact (by unfold oMove; rw [if_pos (by grind [fB, hD]), if_pos (by grind [fB, hD]), if_neg (by grind [fB, hD])]; exact ⟨rfl, rfl, rfl⟩) | exact (by unfold oMove; rw [if_neg (by grind [fB, hD]), if_pos (by grind [fB, hD]), if_pos (by grind [fB, hD]), if_neg (by grind [fB, hD])]; exact ⟨rfl, rfl, rfl⟩) | (exfalso; grind [fB]))
      · refine fV.run iX8_move_37_1 oX8_move_37_1 (pc' := 40) (L' := [(0, .ref 36), (1, .int k), (2, .int t), (3, .int x), (4, .int y)]) (st' := [.int (-1001)]) (S' := S) rfl trivial ?_
        exact fV.iret rfl dX8_move_40 (by first | exact (by unfold oMove; rw [if_pos (by grind [fB, hD]), if_neg (by grind [fB, hD])]; exact ⟨rfl, rfl, rfl⟩) | exact (by unfold oMove; rw [if_neg (by grind [fB, hD]), if_pos (by grind [fB, hD]), if_neg (by grind [fB, hD])]; exact ⟨rfl, rfl, rfl⟩) | (exfalso; grind [fB]))
    · refine fV.run iX8_move_18_2 oX8_move_18_2 (pc' := 20) (L' := [(0, .ref 36), (1, .int k), (2, .int t), (3, .int x), (4, .int y)]) (st' := [.int k, .ref 36]) (S' := S) rfl trivial ?_
      refine fV.callV (M2 := mX8_isSource) (d := d + 1) (o := 36) (av := [.int k]) (rest := []) kX8_isSource dX8_move_20 lX8_109 rfl rfl rfl (Nat.le_of_ble_eq_true rfl) (fRoom (by decide)) ⟨Nat.le_refl _, Nat.le_refl _⟩ (qX8_isSource _ ho0) ?_
      rintro _ S9 ⟨rfl, h9⟩
      rw [h9]
      clear h9 S9
      refine fV.to (pc' := 23) (L' := [(0, .ref 36), (1, .int k), (2, .int t), (3, .int x), (4, .int y)]) (st' := [.int (fB (decide (0 ≤ k ∧ k < (gI S 36 6))))]) (S' := S) rfl rfl rfl rfl ?_
      refine fV.if_ne bX8_move_23 (fun c23 => ?_) (fun c23 => ?_)
      · refine fV.run iX8_move_41_2 oX8_move_41_2 (pc' := 44) (L' := [(0, .ref 36), (1, .int k), (2, .int t), (3, .int x), (4, .int y)]) (st' := [.int y, .int x]) (S' := S) rfl trivial ?_
        refine fV.callS (M2 := mX8_isPoint) (d := d + 1) (av := [.int x, .int y]) (rest := []) kX8_isPoint dX8_move_44 lX8_96 rfl rfl (Nat.le_of_ble_eq_true rfl) (fRoom (by decide)) ⟨Nat.le_refl _, Nat.le_refl _⟩ (qX8_isPoint _ _) ?_
        rintro _ S9 ⟨rfl, h9⟩
        rw [h9]
        clear h9 S9
        refine fV.to (pc' := 47) (L' := [(0, .ref 36), (1, .int k), (2, .int t), (3, .int x), (4, .int y)]) (st' := [.int (fB (decide ((0 ≤ x ∧ x ≤ 1000) ∧ (0 ≤ y ∧ y ≤ 1000))))]) (S' := S) rfl rfl rfl rfl ?_
        refine fV.if_ne bX8_move_47 (fun c47 => ?_) (fun c47 => ?_)
        · refine fV.run iX8_move_54_1 oX8_move_54_1 (pc' := 55) (L' := [(0, .ref 36), (1, .int k), (2, .int t), (3, .int x), (4, .int y)]) (st' := [.int t]) (S' := S) rfl trivial ?_
          refine fV.if_ne bX8_move_55 (fun c55 => ?_) (fun c55 => ?_)
          · refine fV.run iX8_move_76_11 oX8_move_76_11 (pc' := 92) (L' := [(0, .ref 36), (1, .int k), (2, .int t), (3, .int x), (4, .int y)]) (st' := [.int 1]) (S' := (wA (wA S 44 (upd (gA S 44) k.toNatClampNeg x)) 45 (upd (gA S 45) k.toNatClampNeg y))) (P := vp_in k 8 ∧ vp_in k 8 ∧ True) rfl ⟨(by first | exact vin (by decide) (by grind [fB]) (by grind [fB]) | (exfalso; grind [fB])), (by first | exact vin (by decide) (by grind [fB]) (by grind [fB]) | (exfalso; grind [fB])), trivial⟩ ?_
            exact fV.iret rfl dX8_move_92 (by first | exact (by unfold oMove; rw [if_pos (by grind [fB, hD]), if_pos (by grind [fB, hD]), if_pos (by grind [fB, hD])]; exact ⟨rfl, rfl, rfl⟩) | exact (by unfold oMove; rw [if_neg (by grind [fB, hD]), if_pos (by grind [fB, hD]), if_pos (by grind [fB, hD]), if_pos (by grind [fB, hD])]; exact ⟨rfl, rfl, rfl⟩) | (exfalso; grind [fB]))
          · refine fV.run iX8_move_58_12 oX8_move_58_12 (pc' := 92) (L' := [(0, .ref 36), (1, .int k), (2, .int t), (3, .int x), (4, .int y)]) (st' := [.int 1]) (S' := (wA (wA S 41 (upd (gA S 41) k.toNatClampNeg x)) 42 (upd (gA S 42) k.toNatClampNeg y))) (P := vp_in k 4 ∧ vp_in k 4 ∧ True) rfl ⟨(by first | exact vin (by decide) (by grind [fB]) (by grind [fB]) | (exfalso; grind [fB])), (by first | exact vin (by decide) (by grind [fB]) (by grind [fB]) | (exfalso; grind [fB])), trivial⟩ ?_
            exact fV.iret rfl dX8_move_92 (by first | exact (by unfold oMove; rw [if_pos (by grind [fB, hD]), if_pos (by grind [fB, hD]), if_pos (by grind [fB, hD])]; exact ⟨rfl, rfl, rfl⟩) | exact (by unfold oMove; rw [if_neg (by grind [fB, hD]), if_pos (by grind [fB, hD]), if_pos (by grind [fB, hD]), if_pos (by grind [fB, hD])]; exact ⟨rfl, rfl, rfl⟩) | (exfalso; grind [fB]))
        · refine fV.run iX8_move_50_1 oX8_move_50_1 (pc' := 53) (L' := [(0, .ref 36), (1, .int k), (2, .int t), (3, .int x), (4, .int y)]) (st' := [.int (-1002)]) (S' := S) rfl trivial ?_
          exact fV.iret rfl dX8_move_53 (by first | exact (by unfold oMove; rw [if_neg (by grind [fB, hD]), if_neg (by grind [fB, hD])]; exact ⟨rfl, rfl, rfl⟩) | exact (by unfold oMove; rw [if_pos (by grind [fB, hD]), if_pos (by grind [fB, hD]), if_neg (by grind [fB, hD])]; exact ⟨rfl, rfl, rfl⟩) | exact (by unfold oMove; rw [if_neg (by grind [fB, hD]), if_pos (by grind [fB, hD]), if_pos (by grind [fB, hD]), if_neg (by grind [fB, hD])]; exact ⟨rfl, rfl, rfl⟩) | (exfalso; grind [fB]))
      · refine fV.run iX8_move_26_2 oX8_move_26_2 (pc' := 40) (L' := [(0, .ref 36), (1, .int k), (2, .int t), (3, .int x), (4, .int y)]) (st' := [.int (-1001)]) (S' := S) rfl trivial ?_
        exact fV.iret rfl dX8_move_40 (by first | exact (by unfold oMove; rw [if_pos (by grind [fB, hD]), if_neg (by grind [fB, hD])]; exact ⟨rfl, rfl, rfl⟩) | exact (by unfold oMove; rw [if_neg (by grind [fB, hD]), if_pos (by grind [fB, hD]), if_neg (by grind [fB, hD])]; exact ⟨rfl, rfl, rfl⟩) | (exfalso; grind [fB]))
  · refine fV.run iX8_move_10_1 oX8_move_10_1 (pc' := 13) (L' := [(0, .ref 36), (1, .int k), (2, .int t), (3, .int x), (4, .int y)]) (st' := [.int (-1002)]) (S' := S) rfl trivial ?_
    exact fV.iret rfl dX8_move_13 (by first | exact (by unfold oMove; rw [if_neg (by grind [fB, hD]), if_neg (by grind [fB, hD])]; exact ⟨rfl, rfl, rfl⟩) | exact (by unfold oMove; rw [if_pos (by grind [fB, hD]), if_pos (by grind [fB, hD]), if_neg (by grind [fB, hD])]; exact ⟨rfl, rfl, rfl⟩) | exact (by unfold oMove; rw [if_neg (by grind [fB, hD]), if_pos (by grind [fB, hD]), if_pos (by grind [fB, hD]), if_neg (by grind [fB, hD])]; exact ⟨rfl, rfl, rfl⟩) | (exfalso; grind [fB]))
theorem rwI_self (S : fS) (o k : Nat) : wI S o k (gI S o k) = S := by
  unfold wI gI
  cases Nat.blt o 36
  · have : fup S.2.1 o (fup (S.2.1 o) k (S.2.1 o k)) = S.2.1 := by
      funext a b
      unfold fup
      by_cases h : a = o
      · subst h; by_cases h2 : b = k
        · subst h2; simp
        · simp [h2]
      · simp [h]
    simp only [cond_false, this]
  · have : fup S.1.1 o (fup (S.1.1 o) k (S.1.1 o k)) = S.1.1 := by
      funext a b
      unfold fup
      by_cases h : a = o
      · subst h; by_cases h2 : b = k
        · subst h2; simp
        · simp [h2]
      · simp [h]
    simp only [cond_true, this]
def iX8_rule_0_4 : List Instr := [.iload_n 1, .i2l, .lconst 0, .lconst 1]
theorem oX8_rule_0_4 : fOkB cX8_rule 0 iX8_rule_0_4 = true := by decide +kernel
theorem dX8_rule_4 : decode cX8_rule 4 = .ok (.invokestatic 83, 3) := by decide +kernel
theorem bX8_rule_7 : fBk cX8_rule 7 (.ifCond .eq) 33 := ⟨26, by decide +kernel, by decide⟩
def iX8_rule_33_1 : List Instr := [.sipush (-1002)]
theorem oX8_rule_33_1 : fOkB cX8_rule 33 iX8_rule_33_1 = true := by decide +kernel
theorem dX8_rule_36 : decode cX8_rule 36 = .ok (.ireturn, 1) := by decide +kernel
def iX8_rule_10_5 : List Instr := [.iload_n 2, .i2l, .iload_n 1, .i2l, .iload_n 1]
theorem oX8_rule_10_5 : fOkB cX8_rule 10 iX8_rule_10_5 = true := by decide +kernel
theorem bX8_rule_15 : fBk cX8_rule 15 (.ifCond .ne) 24 := ⟨9, by decide +kernel, by decide⟩
def iX8_rule_24_1 : List Instr := [.ldc2_w 87]
theorem oX8_rule_24_1 : fOkB cX8_rule 24 iX8_rule_24_1 = true := by decide +kernel
theorem dX8_rule_27 : decode cX8_rule 27 = .ok (.invokestatic 83, 3) := by decide +kernel
theorem bX8_rule_30 : fBk cX8_rule 30 (.ifCond .ne) 37 := ⟨7, by decide +kernel, by decide⟩
def iX8_rule_37_1 : List Instr := [.iload_n 1]
theorem oX8_rule_37_1 : fOkB cX8_rule 37 iX8_rule_37_1 = true := by decide +kernel
theorem bX8_rule_38 : fBk cX8_rule 38 (.ifCond .ne) 48 := ⟨10, by decide +kernel, by decide⟩
def iX8_rule_48_5 : List Instr := [.aload_n 0, .getfield 41, .istore_n 3, .aload_n 0, .iload_n 1]
theorem oX8_rule_48_5 : fOkB cX8_rule 48 iX8_rule_48_5 = true := by decide +kernel
theorem bX8_rule_55 : fBk cX8_rule 55 (.ifCond .ne) 62 := ⟨7, by decide +kernel, by decide⟩
def iX8_rule_62_6 : List Instr := [.aload_n 0, .getfield 37, .putfield 37, .aload_n 0, .iload_n 1, .iconst 1]
theorem oX8_rule_62_6 : fOkB cX8_rule 62 iX8_rule_62_6 = true := by decide +kernel
theorem bX8_rule_72 : fBk cX8_rule 72 (.if_icmp .ne) 79 := ⟨7, by decide +kernel, by decide⟩
def iX8_rule_79_4 : List Instr := [.aload_n 0, .getfield 41, .putfield 41, .iload_n 3]
theorem oX8_rule_79_4 : fOkB cX8_rule 79 iX8_rule_79_4 = true := by decide +kernel
theorem dX8_rule_87 : decode cX8_rule 87 = .ok (.ireturn, 1) := by decide +kernel
def iX8_rule_75_4 : List Instr := [.iload_n 2, .goto 7, .putfield 41, .iload_n 3]
theorem oX8_rule_75_4 : fOkB cX8_rule 75 iX8_rule_75_4 = true := by decide +kernel
def iX8_rule_58_6 : List Instr := [.iload_n 2, .goto 7, .putfield 37, .aload_n 0, .iload_n 1, .iconst 1]
theorem oX8_rule_58_6 : fOkB cX8_rule 58 iX8_rule_58_6 = true := by decide +kernel
def iX8_rule_41_6 : List Instr := [.aload_n 0, .getfield 37, .goto 7, .istore_n 3, .aload_n 0, .iload_n 1]
theorem oX8_rule_41_6 : fOkB cX8_rule 41 iX8_rule_41_6 = true := by decide +kernel
def iX8_rule_18_2 : List Instr := [.ldc2_w 115, .goto 6]
theorem oX8_rule_18_2 : fOkB cX8_rule 18 iX8_rule_18_2 = true := by decide +kernel
set_option maxRecDepth 100000 in
theorem qX8_rule {G : fG} {d : Nat} {S : fS} (t v : Int32) (hs0 : 0 ≤ gI S 36 0) (hs8 : gI S 36 0 ≤ 8) (hw0 : 0 ≤ gI S 36 3) (hw8 : gI S 36 3 ≤ 16) (ho0 : 0 ≤ gI S 36 6) (ho8 : gI S 36 6 ≤ 4) (he0 : 0 ≤ gI S 36 10) (he8 : gI S 36 10 ≤ 8) : fCtr G (d + 1) mX8_rule [.ref 36, .int t, .int v] S (qD S (oRule (hD S) t v)) := by
  refine fCtr.of bXX8_rule (Nat.le_of_ble_eq_true rfl) rfl ?_
  refine fV.run iX8_rule_0_4 oX8_rule_0_4 (pc' := 4) (L' := [(0, .ref 36), (1, .int t), (2, .int v)]) (st' := [.long 1, .long 0, .long (Int32.toInt64 t)]) (S' := S) rfl trivial ?_
  refine fV.callS (M2 := mX8_in) (d := d) (av := [.long (Int32.toInt64 t), .long 0, .long 1]) (rest := []) kX8_in dX8_rule_4 lX8_83 rfl rfl (Nat.le_of_ble_eq_true rfl) (fRoom (by decide)) ⟨Nat.le_refl _, Nat.le_refl _⟩ (qX8_inP _ _ _ (P := 0 ≤ t ∧ t ≤ 1) (and_congr (w_geN (by decide) _) (w_leN (by decide) _))) ?_
  rintro _ S9 ⟨rfl, h9⟩
  rw [h9]
  clear h9 S9
  refine fV.to (pc' := 7) (L' := [(0, .ref 36), (1, .int t), (2, .int v)]) (st' := [.int (fB (decide (0 ≤ t ∧ t ≤ 1)))]) (S' := S) rfl rfl rfl rfl ?_
  refine fV.if_eq bX8_rule_7 (fun c7 => ?_) (fun c7 => ?_)
  · refine fV.run iX8_rule_33_1 oX8_rule_33_1 (pc' := 36) (L' := [(0, .ref 36), (1, .int t), (2, .int v)]) (st' := [.int (-1002)]) (S' := S) rfl trivial ?_
    exact fV.iret rfl dX8_rule_36 (by first | exact (by unfold oRule; rw [if_pos (by grind [fB, hD]), if_neg (by grind [fB, hD])]; exact ⟨rfl, rfl, rfl⟩) | exact (by unfold oRule; rw [if_neg (by grind [fB, hD]), if_pos (by grind [fB, hD]), if_neg (by grind [fB, hD])]; exact ⟨rfl, rfl, rfl⟩) | exact (by unfold oRule; rw [if_neg (by grind [fB, hD]), if_neg (by grind [fB, hD])]; exact ⟨rfl, rfl, rfl⟩) | (exfalso; grind [fB]))
  · refine fV.run iX8_rule_10_5 oX8_rule_10_5 (pc' := 15) (L' := [(0, .ref 36), (1, .int t), (2, .int v)]) (st' := [.int t, .long (Int32.toInt64 t), .long (Int32.toInt64 v)]) (S' := S) rfl trivial ?_
    refine fV.if_ne bX8_rule_15 (fun c15 => ?_) (fun c15 => ?_)
    · refine fV.run iX8_rule_24_1 oX8_rule_24_1 (pc' := 27) (L' := [(0, .ref 36), (1, .int t), (2, .int v)]) (st' := [.long 100, .long (Int32.toInt64 t), .long (Int32.toInt64 v)]) (S' := S) rfl trivial ?_
      refine fV.callS (M2 := mX8_in) (d := d) (av := [.long (Int32.toInt64 v), .long (Int32.toInt64 t), .long 100]) (rest := []) kX8_in dX8_rule_27 lX8_83 rfl rfl (Nat.le_of_ble_eq_true rfl) (fRoom (by decide)) ⟨Nat.le_refl _, Nat.le_refl _⟩ (qX8_inP _ _ _ (P := t ≤ v ∧ v ≤ 100) (and_congr (w_le _ _) (w_leN (by decide) _))) ?_
      rintro _ S9 ⟨rfl, h9⟩
      rw [h9]
      clear h9 S9
      refine fV.to (pc' := 30) (L' := [(0, .ref 36), (1, .int t), (2, .int v)]) (st' := [.int (fB (decide (t ≤ v ∧ v ≤ 100)))]) (S' := S) rfl rfl rfl rfl ?_
      refine fV.if_ne bX8_rule_30 (fun c30 => ?_) (fun c30 => ?_)
      · refine fV.run iX8_rule_37_1 oX8_rule_37_1 (pc' := 38) (L' := [(0, .ref 36), (1, .int t), (2, .int v)]) (st' := [.int t]) (S' := S) rfl trivial ?_
        refine fV.if_ne bX8_rule_38 (fun c38 => ?_) (fun c38 => ?_)
        · refine fV.run iX8_rule_48_5 oX8_rule_48_5 (pc' := 55) (L' := [(0, .ref 36), (1, .int t), (2, .int v), (3, .int (gI S 36 14))]) (st' := [.int t, .ref 36]) (S' := S) rfl trivial ?_
          refine fV.if_ne bX8_rule_55 (fun c55 => ?_) (fun c55 => ?_)
          · refine fV.run iX8_rule_62_6 oX8_rule_62_6 (pc' := 72) (L' := [(0, .ref 36), (1, .int t), (2, .int v), (3, .int (gI S 36 14))]) (st' := [.int 1, .int t, .ref 36]) (S' := (wI S 36 13 (gI S 36 13))) rfl trivial ?_
            refine fV.icmp_ne bX8_rule_72 (fun c72 => ?_) (fun c72 => ?_)
            · refine fV.run iX8_rule_79_4 oX8_rule_79_4 (pc' := 87) (L' := [(0, .ref 36), (1, .int t), (2, .int v), (3, .int (gI S 36 14))]) (st' := [.int (gI S 36 14)]) (S' := (wI (wI S 36 13 (gI S 36 13)) 36 14 (gI S 36 14))) rfl trivial ?_
              exact fV.iret rfl dX8_rule_87 (by first | exact (by unfold oRule; rw [if_pos (by grind [fB, hD]), if_pos (by grind [fB, hD])]; exact ⟨rfl, rfl, rfl⟩) | exact (by unfold oRule; rw [if_neg (by grind [fB, hD]), if_pos (by grind [fB, hD]), if_pos (by grind [fB, hD])]; exact ⟨rfl, rfl, rfl⟩) | (exfalso; grind [fB]))
            · refine fV.run iX8_rule_75_4 oX8_rule_75_4 (pc' := 87) (L' := [(0, .ref 36), (1, .int t), (2, .int v), (3, .int (gI S 36 14))]) (st' := [.int (gI S 36 14)]) (S' := (wI (wI S 36 13 (gI S 36 13)) 36 14 v)) rfl trivial ?_
              exact fV.iret rfl dX8_rule_87 (by first | exact (by unfold oRule; rw [if_pos (by grind [fB, hD]), if_pos (by grind [fB, hD])]; exact ⟨rfl, rfl, rfl⟩) | exact (by unfold oRule; rw [if_neg (by grind [fB, hD]), if_pos (by grind [fB, hD]), if_pos (by grind [fB, hD])]; exact ⟨rfl, rfl, rfl⟩) | (exfalso; grind [fB]))
          · refine fV.run iX8_rule_58_6 oX8_rule_58_6 (pc' := 72) (L' := [(0, .ref 36), (1, .int t), (2, .int v), (3, .int (gI S 36 14))]) (st' := [.int 1, .int t, .ref 36]) (S' := (wI S 36 13 v)) rfl trivial ?_
            refine fV.icmp_ne bX8_rule_72 (fun c72 => ?_) (fun c72 => ?_)
            · refine fV.run iX8_rule_79_4 oX8_rule_79_4 (pc' := 87) (L' := [(0, .ref 36), (1, .int t), (2, .int v), (3, .int (gI S 36 14))]) (st' := [.int (gI S 36 14)]) (S' := (wI (wI S 36 13 v) 36 14 (gI S 36 14))) rfl trivial ?_
              exact fV.iret rfl dX8_rule_87 (by first | exact (by unfold oRule; rw [if_pos (by grind [fB, hD]), if_pos (by grind [fB, hD])]; exact ⟨rfl, rfl, rfl⟩) | exact (by unfold oRule; rw [if_neg (by grind [fB, hD]), if_pos (by grind [fB, hD]), if_pos (by grind [fB, hD])]; exact ⟨rfl, rfl, rfl⟩) | (exfalso; grind [fB]))
            · refine fV.run iX8_rule_75_4 oX8_rule_75_4 (pc' := 87) (L' := [(0, .ref 36), (1, .int t), (2, .int v), (3, .int (gI S 36 14))]) (st' := [.int (gI S 36 14)]) (S' := (wI (wI S 36 13 v) 36 14 v)) rfl trivial ?_
              exact fV.iret rfl dX8_rule_87 (by first | exact (by unfold oRule; rw [if_pos (by grind [fB, hD]), if_pos (by grind [fB, hD])]; exact ⟨rfl, rfl, rfl⟩) | exact (by unfold oRule; rw [if_neg (by grind [fB, hD]), if_pos (by grind [fB, hD]), if_pos (by grind [fB, hD])]; exact ⟨rfl, rfl, rfl⟩) | (exfalso; grind [fB]))
        · refine fV.run iX8_rule_41_6 oX8_rule_41_6 (pc' := 55) (L' := [(0, .ref 36), (1, .int t), (2, .int v), (3, .int (gI S 36 13))]) (st' := [.int t, .ref 36]) (S' := S) rfl trivial ?_
          refine fV.if_ne bX8_rule_55 (fun c55 => ?_) (fun c55 => ?_)
          · refine fV.run iX8_rule_62_6 oX8_rule_62_6 (pc' := 72) (L' := [(0, .ref 36), (1, .int t), (2, .int v), (3, .int (gI S 36 13))]) (st' := [.int 1, .int t, .ref 36]) (S' := (wI S 36 13 (gI S 36 13))) rfl trivial ?_
            refine fV.icmp_ne bX8_rule_72 (fun c72 => ?_) (fun c72 => ?_)
            · refine fV.run iX8_rule_79_4 oX8_rule_79_4 (pc' := 87) (L' := [(0, .ref 36), (1, .int t), (2, .int v), (3, .int (gI S 36 13))]) (st' := [.int (gI S 36 13)]) (S' := (wI (wI S 36 13 (gI S 36 13)) 36 14 (gI S 36 14))) rfl trivial ?_
              exact fV.iret rfl dX8_rule_87 (by first | exact (by unfold oRule; rw [if_pos (by grind [fB, hD]), if_pos (by grind [fB, hD])]; exact ⟨rfl, rfl, rfl⟩) | exact (by unfold oRule; rw [if_neg (by grind [fB, hD]), if_pos (by grind [fB, hD]), if_pos (by grind [fB, hD])]; exact ⟨rfl, rfl, rfl⟩) | (exfalso; grind [fB]))
            · refine fV.run iX8_rule_75_4 oX8_rule_75_4 (pc' := 87) (L' := [(0, .ref 36), (1, .int t), (2, .int v), (3, .int (gI S 36 13))]) (st' := [.int (gI S 36 13)]) (S' := (wI (wI S 36 13 (gI S 36 13)) 36 14 v)) rfl trivial ?_
              exact fV.iret rfl dX8_rule_87 (by first | exact (by unfold oRule; rw [if_pos (by grind [fB, hD]), if_pos (by grind [fB, hD])]; exact ⟨rfl, rfl, rfl⟩) | exact (by unfold oRule; rw [if_neg (by grind [fB, hD]), if_pos (by grind [fB, hD]), if_pos (by grind [fB, hD])]; exact ⟨rfl, rfl, rfl⟩) | (exfalso; grind [fB]))
          · refine fV.run iX8_rule_58_6 oX8_rule_58_6 (pc' := 72) (L' := [(0, .ref 36), (1, .int t), (2, .int v), (3, .int (gI S 36 13))]) (st' := [.int 1, .int t, .ref 36]) (S' := (wI S 36 13 v)) rfl trivial ?_
            refine fV.icmp_ne bX8_rule_72 (fun c72 => ?_) (fun c72 => ?_)
            · refine fV.run iX8_rule_79_4 oX8_rule_79_4 (pc' := 87) (L' := [(0, .ref 36), (1, .int t), (2, .int v), (3, .int (gI S 36 13))]) (st' := [.int (gI S 36 13)]) (S' := (wI (wI S 36 13 v) 36 14 (gI S 36 14))) rfl trivial ?_
              exact fV.iret rfl dX8_rule_87 (by first | exact (by unfold oRule; rw [if_pos (by grind [fB, hD]), if_pos (by grind [fB, hD])]; exact ⟨rfl, rfl, rfl⟩) | exact (by unfold oRule; rw [if_neg (by grind [fB, hD]), if_pos (by grind [fB, hD]), if_pos (by grind [fB, hD])]; exact ⟨rfl, rfl, rfl⟩) | (exfalso; grind [fB]))
            · refine fV.run iX8_rule_75_4 oX8_rule_75_4 (pc' := 87) (L' := [(0, .ref 36), (1, .int t), (2, .int v), (3, .int (gI S 36 13))]) (st' := [.int (gI S 36 13)]) (S' := (wI (wI S 36 13 v) 36 14 v)) rfl trivial ?_
              exact fV.iret rfl dX8_rule_87 (by first | exact (by unfold oRule; rw [if_pos (by grind [fB, hD]), if_pos (by grind [fB, hD])]; exact ⟨rfl, rfl, rfl⟩) | exact (by unfold oRule; rw [if_neg (by grind [fB, hD]), if_pos (by grind [fB, hD]), if_pos (by grind [fB, hD])]; exact ⟨rfl, rfl, rfl⟩) | (exfalso; grind [fB]))
      · refine fV.run iX8_rule_33_1 oX8_rule_33_1 (pc' := 36) (L' := [(0, .ref 36), (1, .int t), (2, .int v)]) (st' := [.int (-1002)]) (S' := S) rfl trivial ?_
        exact fV.iret rfl dX8_rule_36 (by first | exact (by unfold oRule; rw [if_pos (by grind [fB, hD]), if_neg (by grind [fB, hD])]; exact ⟨rfl, rfl, rfl⟩) | exact (by unfold oRule; rw [if_neg (by grind [fB, hD]), if_pos (by grind [fB, hD]), if_neg (by grind [fB, hD])]; exact ⟨rfl, rfl, rfl⟩) | exact (by unfold oRule; rw [if_neg (by grind [fB, hD]), if_neg (by grind [fB, hD])]; exact ⟨rfl, rfl, rfl⟩) | (exfalso; grind [fB]))
    · refine fV.run iX8_rule_18_2 oX8_rule_18_2 (pc' := 27) (L' := [(0, .ref 36), (1, .int t), (2, .int v)]) (st' := [.long 3, .long (Int32.toInt64 t), .long (Int32.toInt64 v)]) (S' := S) rfl trivial ?_
      refine fV.callS (M2 := mX8_in) (d := d) (av := [.long (Int32.toInt64 v), .long (Int32.toInt64 t), .long 3]) (rest := []) kX8_in dX8_rule_27 lX8_83 rfl rfl (Nat.le_of_ble_eq_true rfl) (fRoom (by decide)) ⟨Nat.le_refl _, Nat.le_refl _⟩ (qX8_inP _ _ _ (P := t ≤ v ∧ v ≤ 3) (and_congr (w_le _ _) (w_leN (by decide) _))) ?_
      rintro _ S9 ⟨rfl, h9⟩
      rw [h9]
      clear h9 S9
      refine fV.to (pc' := 30) (L' := [(0, .ref 36), (1, .int t), (2, .int v)]) (st' := [.int (fB (decide (t ≤ v ∧ v ≤ 3)))]) (S' := S) rfl rfl rfl rfl ?_
      refine fV.if_ne bX8_rule_30 (fun c30 => ?_) (fun c30 => ?_)
      · refine fV.run iX8_rule_37_1 oX8_rule_37_1 (pc' := 38) (L' := [(0, .ref 36), (1, .int t), (2, .int v)]) (st' := [.int t]) (S' := S) rfl trivial ?_
        refine fV.if_ne bX8_rule_38 (fun c38 => ?_) (fun c38 => ?_)
        · refine fV.run iX8_rule_48_5 oX8_rule_48_5 (pc' := 55) (L' := [(0, .ref 36), (1, .int t), (2, .int v), (3, .int (gI S 36 14))]) (st' := [.int t, .ref 36]) (S' := S) rfl trivial ?_
          refine fV.if_ne bX8_rule_55 (fun c55 => ?_) (fun c55 => ?_)
          · refine fV.run iX8_rule_62_6 oX8_rule_62_6 (pc' := 72) (L' := [(0, .ref 36), (1, .int t), (2, .int v), (3, .int (gI S 36 14))]) (st' := [.int 1, .int t, .ref 36]) (S' := (wI S 36 13 (gI S 36 13))) rfl trivial ?_
            refine fV.icmp_ne bX8_rule_72 (fun c72 => ?_) (fun c72 => ?_)
            · refine fV.run iX8_rule_79_4 oX8_rule_79_4 (pc' := 87) (L' := [(0, .ref 36), (1, .int t), (2, .int v), (3, .int (gI S 36 14))]) (st' := [.int (gI S 36 14)]) (S' := (wI (wI S 36 13 (gI S 36 13)) 36 14 (gI S 36 14))) rfl trivial ?_
              exact fV.iret rfl dX8_rule_87 (by first | exact (by unfold oRule; rw [if_pos (by grind [fB, hD]), if_pos (by grind [fB, hD])]; exact ⟨rfl, rfl, rfl⟩) | exact (by unfold oRule; rw [if_neg (by grind [fB, hD]), if_pos (by grind [fB, hD]), if_pos (by grind [fB, hD])]; exact ⟨rfl, rfl, rfl⟩) | (exfalso; grind [fB]))
            · refine fV.run iX8_rule_75_4 oX8_rule_75_4 (pc' := 87) (L' := [(0, .ref 36), (1, .int t), (2, .int v), (3, .int (gI S 36 14))]) (st' := [.int (gI S 36 14)]) (S' := (wI (wI S 36 13 (gI S 36 13)) 36 14 v)) rfl trivial ?_
              exact fV.iret rfl dX8_rule_87 (by first | exact (by unfold oRule; rw [if_pos (by grind [fB, hD]), if_pos (by grind [fB, hD])]; exact ⟨rfl, rfl, rfl⟩) | exact (by unfold oRule; rw [if_neg (by grind [fB, hD]), if_pos (by grind [fB, hD]), if_pos (by grind [fB, hD])]; exact ⟨rfl, rfl, rfl⟩) | (exfalso; grind [fB]))
          · refine fV.run iX8_rule_58_6 oX8_rule_58_6 (pc' := 72) (L' := [(0, .ref 36), (1, .int t), (2, .int v), (3, .int (gI S 36 14))]) (st' := [.int 1, .int t, .ref 36]) (S' := (wI S 36 13 v)) rfl trivial ?_
            refine fV.icmp_ne bX8_rule_72 (fun c72 => ?_) (fun c72 => ?_)
            · refine fV.run iX8_rule_79_4 oX8_rule_79_4 (pc' := 87) (L' := [(0, .ref 36), (1, .int t), (2, .int v), (3, .int (gI S 36 14))]) (st' := [.int (gI S 36 14)]) (S' := (wI (wI S 36 13 v) 36 14 (gI S 36 14))) rfl trivial ?_
              exact fV.iret rfl dX8_rule_87 (by first | exact (by unfold oRule; rw [if_pos (by grind [fB, hD]), if_pos (by grind [fB, hD])]; exact ⟨rfl, rfl, rfl⟩) | exact (by unfold oRule; rw [if_neg (by grind [fB, hD]), if_pos (by grind [fB, hD]), if_pos (by grind [fB, hD])]; exact ⟨rfl, rfl, rfl⟩) | (exfalso; grind [fB]))
            · refine fV.run iX8_rule_75_4 oX8_rule_75_4 (pc' := 87) (L' := [(0, .ref 36), (1, .int t), (2, .int v), (3, .int (gI S 36 14))]) (st' := [.int (gI S 36 14)]) (S' := (wI (wI S 36 13 v) 36 14 v)) rfl trivial ?_
              exact fV.iret rfl dX8_rule_87 (by first | exact (by unfold oRule; rw [if_pos (by grind [fB, hD]), if_pos (by grind [fB, hD])]; exact ⟨rfl, rfl, rfl⟩) | exact (by unfold oRule; rw [if_neg (by grind [fB, hD]), if_pos (by grind [fB, hD]), if_pos (by grind [fB, hD])]; exact ⟨rfl, rfl, rfl⟩) | (exfalso; grind [fB]))
        · refine fV.run iX8_rule_41_6 oX8_rule_41_6 (pc' := 55) (L' := [(0, .ref 36), (1, .int t), (2, .int v), (3, .int (gI S 36 13))]) (st' := [.int t, .ref 36]) (S' := S) rfl trivial ?_
          refine fV.if_ne bX8_rule_55 (fun c55 => ?_) (fun c55 => ?_)
          · refine fV.run iX8_rule_62_6 oX8_rule_62_6 (pc' := 72) (L' := [(0, .ref 36), (1, .int t), (2, .int v), (3, .int (gI S 36 13))]) (st' := [.int 1, .int t, .ref 36]) (S' := (wI S 36 13 (gI S 36 13))) rfl trivial ?_
            refine fV.icmp_ne bX8_rule_72 (fun c72 => ?_) (fun c72 => ?_)
            · refine fV.run iX8_rule_79_4 oX8_rule_79_4 (pc' := 87) (L' := [(0, .ref 36), (1, .int t), (2, .int v), (3, .int (gI S 36 13))]) (st' := [.int (gI S 36 13)]) (S' := (wI (wI S 36 13 (gI S 36 13)) 36 14 (gI S 36 14))) rfl trivial ?_
              exact fV.iret rfl dX8_rule_87 (by first | exact (by unfold oRule; rw [if_pos (by grind [fB, hD]), if_pos (by grind [fB, hD])]; exact ⟨rfl, rfl, rfl⟩) | exact (by unfold oRule; rw [if_neg (by grind [fB, hD]), if_pos (by grind [fB, hD]), if_pos (by grind [fB, hD])]; exact ⟨rfl, rfl, rfl⟩) | (exfalso; grind [fB]))
            · refine fV.run iX8_rule_75_4 oX8_rule_75_4 (pc' := 87) (L' := [(0, .ref 36), (1, .int t), (2, .int v), (3, .int (gI S 36 13))]) (st' := [.int (gI S 36 13)]) (S' := (wI (wI S 36 13 (gI S 36 13)) 36 14 v)) rfl trivial ?_
              exact fV.iret rfl dX8_rule_87 (by first | exact (by unfold oRule; rw [if_pos (by grind [fB, hD]), if_pos (by grind [fB, hD])]; exact ⟨rfl, rfl, rfl⟩) | exact (by unfold oRule; rw [if_neg (by grind [fB, hD]), if_pos (by grind [fB, hD]), if_pos (by grind [fB, hD])]; exact ⟨rfl, rfl, rfl⟩) | (exfalso; grind [fB]))
          · refine fV.run iX8_rule_58_6 oX8_rule_58_6 (pc' := 72) (L' := [(0, .ref 36), (1, .int t), (2, .int v), (3, .int (gI S 36 13))]) (st' := [.int 1, .int t, .ref 36]) (S' := (wI S 36 13 v)) rfl trivial ?_
            refine fV.icmp_ne bX8_rule_72 (fun c72 => ?_) (fun c72 => ?_)
            · refine fV.run iX8_rule_79_4 oX8_rule_79_4 (pc' := 87) (L' := [(0, .ref 36), (1, .int t), (2, .int v), (3, .int (gI S 36 13))]) (st' := [.int (gI S 36 13)]) (S' := (wI (wI S 36 13 v) 36 14 (gI S 36 14))) rfl trivial ?_
              exact fV.iret rfl dX8_rule_87 (by first | exact (by unfold oRule; rw [if_pos (by grind [fB, hD]), if_pos (by grind [fB, hD])]; exact ⟨rfl, rfl, rfl⟩) | exact (by unfold oRule; rw [if_neg (by grind [fB, hD]), if_pos (by grind [fB, hD]), if_pos (by grind [fB, hD])]; exact ⟨rfl, rfl, rfl⟩) | (exfalso; grind [fB]))
            · refine fV.run iX8_rule_75_4 oX8_rule_75_4 (pc' := 87) (L' := [(0, .ref 36), (1, .int t), (2, .int v), (3, .int (gI S 36 13))]) (st' := [.int (gI S 36 13)]) (S' := (wI (wI S 36 13 v) 36 14 v)) rfl trivial ?_
              exact fV.iret rfl dX8_rule_87 (by first | exact (by unfold oRule; rw [if_pos (by grind [fB, hD]), if_pos (by grind [fB, hD])]; exact ⟨rfl, rfl, rfl⟩) | exact (by unfold oRule; rw [if_neg (by grind [fB, hD]), if_pos (by grind [fB, hD]), if_pos (by grind [fB, hD])]; exact ⟨rfl, rfl, rfl⟩) | (exfalso; grind [fB]))
      · refine fV.run iX8_rule_33_1 oX8_rule_33_1 (pc' := 36) (L' := [(0, .ref 36), (1, .int t), (2, .int v)]) (st' := [.int (-1002)]) (S' := S) rfl trivial ?_
        exact fV.iret rfl dX8_rule_36 (by first | exact (by unfold oRule; rw [if_pos (by grind [fB, hD]), if_neg (by grind [fB, hD])]; exact ⟨rfl, rfl, rfl⟩) | exact (by unfold oRule; rw [if_neg (by grind [fB, hD]), if_pos (by grind [fB, hD]), if_neg (by grind [fB, hD])]; exact ⟨rfl, rfl, rfl⟩) | exact (by unfold oRule; rw [if_neg (by grind [fB, hD]), if_neg (by grind [fB, hD])]; exact ⟨rfl, rfl, rfl⟩) | (exfalso; grind [fB]))
def iX8_size_0_1 : List Instr := [.iload_n 0]
theorem oX8_size_0_1 : fOkB cX8_size 0 iX8_size_0_1 = true := by decide +kernel
theorem bX8_size_1 : fBk cX8_size 1 (.ifCond .ge) 9 := ⟨8, by decide +kernel, by decide⟩
def iX8_size_9_1 : List Instr := [.iload_n 0]
theorem oX8_size_9_1 : fOkB cX8_size 9 iX8_size_9_1 = true := by decide +kernel
theorem dX8_size_10 : decode cX8_size 10 = .ok (.ireturn, 1) := by decide +kernel
def iX8_size_4_3 : List Instr := [.iload_n 0, .ineg, .goto 4]
theorem oX8_size_4_3 : fOkB cX8_size 4 iX8_size_4_3 = true := by decide +kernel
set_option maxRecDepth 100000 in
theorem qX8_size {G : fG} {d : Nat} {S : fS} (v : Int32)  : fCtr G (d) mX8_size [.int v] S (fun r S' => r = some (.int (hSz v)) ∧ S' = S) := by
  refine fCtr.of bXX8_size (Nat.le_of_ble_eq_true rfl) rfl ?_
  refine fV.run iX8_size_0_1 oX8_size_0_1 (pc' := 1) (L' := [(0, .int v)]) (st' := [.int v]) (S' := S) rfl trivial ?_
  refine fV.if_ge bX8_size_1 (fun c1 => ?_) (fun c1 => ?_)
  · refine fV.run iX8_size_9_1 oX8_size_9_1 (pc' := 10) (L' := [(0, .int v)]) (st' := [.int v]) (S' := S) rfl trivial ?_
    exact fV.iret rfl dX8_size_10 ⟨by rw [hSz, if_neg (by grind)], rfl⟩
  · refine fV.run iX8_size_4_3 oX8_size_4_3 (pc' := 10) (L' := [(0, .int v)]) (st' := [.int (-v)]) (S' := S) rfl trivial ?_
    exact fV.iret rfl dX8_size_10 ⟨by rw [hSz, if_pos (by grind)], rfl⟩
def iX8_lengthOf_0_15 : List Instr := [.aload_n 0, .getfield 16, .iconst 4, .iload_n 1, .imul, .iaload, .aload_n 0, .getfield 16, .iconst 4, .iload_n 1, .imul, .iconst 2, .iadd, .iaload, .isub]
theorem oX8_lengthOf_0_15 : fOkB cX8_lengthOf 0 iX8_lengthOf_0_15 = true := by decide +kernel
set_option maxRecDepth 100000 in
theorem lX8_117 : Cond.methodLink RX8 117 yX8_size ∈ fTB := fTB_at 773 rfl rfl
theorem dX8_lengthOf_19 : decode cX8_lengthOf 19 = .ok (.invokestatic 117, 3) := by decide +kernel
def iX8_lengthOf_22_17 : List Instr := [.aload_n 0, .getfield 16, .iconst 4, .iload_n 1, .imul, .iconst 1, .iadd, .iaload, .aload_n 0, .getfield 16, .iconst 4, .iload_n 1, .imul, .iconst 3, .iadd, .iaload, .isub]
theorem oX8_lengthOf_22_17 : fOkB cX8_lengthOf 22 iX8_lengthOf_22_17 = true := by decide +kernel
theorem dX8_lengthOf_43 : decode cX8_lengthOf 43 = .ok (.invokestatic 117, 3) := by decide +kernel
def iX8_lengthOf_46_1 : List Instr := [.iadd]
theorem oX8_lengthOf_46_1 : fOkB cX8_lengthOf 46 iX8_lengthOf_46_1 = true := by decide +kernel
theorem dX8_lengthOf_47 : decode cX8_lengthOf 47 = .ok (.ireturn, 1) := by decide +kernel
set_option maxRecDepth 100000 in
theorem qX8_lengthOf {G : fG} {d : Nat} {S : fS} {w : Nat} (hw : w < 16) : fCtr G (d + 1) mX8_lengthOf [.ref 36, .int (nI w)] S (fun r S' => r = some (.int (rLen (gA S 39) w)) ∧ S' = S) := by
  refine fCtr.of bXX8_lengthOf (Nat.le_of_ble_eq_true rfl) rfl ?_
  refine fV.run iX8_lengthOf_0_15 oX8_lengthOf_0_15 (pc' := 19) (L' := [(0, .ref 36), (1, .int (nI w))]) (st' := [.int ((gA S 39 (4 * (nI w)).toNatClampNeg) - (gA S 39 ((4 * (nI w)) + 2).toNatClampNeg))]) (S' := S) (P := vp_in (4 * (nI w)) 64 ∧ vp_in ((4 * (nI w)) + 2) 64 ∧ True) rfl ⟨(by first | exact (vin4 hw).1 | exact (vin4 hw).2.1 | exact (vin4 hw).2.2.1 | exact (vin4 hw).2.2.2), (by first | exact (vin4 hw).1 | exact (vin4 hw).2.1 | exact (vin4 hw).2.2.1 | exact (vin4 hw).2.2.2), trivial⟩ ?_
  refine fV.callS (M2 := mX8_size) (d := d) (av := [.int ((gA S 39 (4 * (nI w)).toNatClampNeg) - (gA S 39 ((4 * (nI w)) + 2).toNatClampNeg))]) (rest := []) kX8_size dX8_lengthOf_19 lX8_117 rfl rfl (Nat.le_of_ble_eq_true rfl) (fRoom (by decide)) ⟨Nat.le_refl _, Nat.le_refl _⟩ (qX8_size _) ?_
  rintro _ S9 ⟨rfl, h9⟩
  rw [h9]
  clear h9 S9
  refine fV.to (pc' := 22) (L' := [(0, .ref 36), (1, .int (nI w))]) (st' := [.int (hSz ((gA S 39 (4 * (nI w)).toNatClampNeg) - (gA S 39 ((4 * (nI w)) + 2).toNatClampNeg)))]) (S' := S) rfl rfl rfl rfl ?_
  refine fV.run iX8_lengthOf_22_17 oX8_lengthOf_22_17 (pc' := 43) (L' := [(0, .ref 36), (1, .int (nI w))]) (st' := [.int ((gA S 39 ((4 * (nI w)) + 1).toNatClampNeg) - (gA S 39 ((4 * (nI w)) + 3).toNatClampNeg)), .int (hSz ((gA S 39 (4 * (nI w)).toNatClampNeg) - (gA S 39 ((4 * (nI w)) + 2).toNatClampNeg)))]) (S' := S) (P := vp_in ((4 * (nI w)) + 1) 64 ∧ vp_in ((4 * (nI w)) + 3) 64 ∧ True) rfl ⟨(by first | exact (vin4 hw).1 | exact (vin4 hw).2.1 | exact (vin4 hw).2.2.1 | exact (vin4 hw).2.2.2), (by first | exact (vin4 hw).1 | exact (vin4 hw).2.1 | exact (vin4 hw).2.2.1 | exact (vin4 hw).2.2.2), trivial⟩ ?_
  refine fV.callS (M2 := mX8_size) (d := d) (av := [.int ((gA S 39 ((4 * (nI w)) + 1).toNatClampNeg) - (gA S 39 ((4 * (nI w)) + 3).toNatClampNeg))]) (rest := [.int (hSz ((gA S 39 (4 * (nI w)).toNatClampNeg) - (gA S 39 ((4 * (nI w)) + 2).toNatClampNeg)))]) kX8_size dX8_lengthOf_43 lX8_117 rfl rfl (Nat.le_of_ble_eq_true rfl) (fRoom (by decide)) ⟨Nat.le_refl _, Nat.le_refl _⟩ (qX8_size _) ?_
  rintro _ S9 ⟨rfl, h9⟩
  rw [h9]
  clear h9 S9
  refine fV.to (pc' := 46) (L' := [(0, .ref 36), (1, .int (nI w))]) (st' := [.int (hSz ((gA S 39 ((4 * (nI w)) + 1).toNatClampNeg) - (gA S 39 ((4 * (nI w)) + 3).toNatClampNeg))), .int (hSz ((gA S 39 (4 * (nI w)).toNatClampNeg) - (gA S 39 ((4 * (nI w)) + 2).toNatClampNeg)))]) (S' := S) rfl rfl rfl rfl ?_
  refine fV.run iX8_lengthOf_46_1 oX8_lengthOf_46_1 (pc' := 47) (L' := [(0, .ref 36), (1, .int (nI w))]) (st' := [.int ((hSz ((gA S 39 (4 * (nI w)).toNatClampNeg) - (gA S 39 ((4 * (nI w)) + 2).toNatClampNeg))) + (hSz ((gA S 39 ((4 * (nI w)) + 1).toNatClampNeg) - (gA S 39 ((4 * (nI w)) + 3).toNatClampNeg))))]) (S' := S) rfl trivial ?_
  exact fV.iret rfl dX8_lengthOf_47 ⟨by obtain ⟨e0, e1, e2, e3⟩ := cl4 (b := w) (by omega); rw [e0, e1, e2, e3]; rfl, rfl⟩
end
section
/-! the balance of the hall -/
theorem i_add {x y : Int32} (h1 : -2147483648 ≤ x.toInt + y.toInt) (h2 : x.toInt + y.toInt < 2147483648) : (x + y).toInt = x.toInt + y.toInt := by
  rw [Int32.toInt_add, Int.bmod_def]; omega
theorem i_sub {x y : Int32} (h1 : -2147483648 ≤ x.toInt - y.toInt) (h2 : x.toInt - y.toInt < 2147483648) : (x - y).toInt = x.toInt - y.toInt := by
  rw [Int32.toInt_sub, Int.bmod_def]; omega
theorem i_mul {x y : Int32} (h1 : -2147483648 ≤ x.toInt * y.toInt) (h2 : x.toInt * y.toInt < 2147483648) : (x * y).toInt = x.toInt * y.toInt := by
  rw [Int32.toInt_mul, Int.bmod_def]; omega
theorem j_add {x y : Int64} (h1 : -9223372036854775808 ≤ x.toInt + y.toInt) (h2 : x.toInt + y.toInt < 9223372036854775808) : (x + y).toInt = x.toInt + y.toInt := by
  rw [Int64.toInt_add, Int.bmod_def]; omega
theorem j_sub {x y : Int64} (h1 : -9223372036854775808 ≤ x.toInt - y.toInt) (h2 : x.toInt - y.toInt < 9223372036854775808) : (x - y).toInt = x.toInt - y.toInt := by
  rw [Int64.toInt_sub, Int.bmod_def]; omega
theorem j_mul {x y : Int64} (h1 : -9223372036854775808 ≤ x.toInt * y.toInt) (h2 : x.toInt * y.toInt < 9223372036854775808) : (x * y).toInt = x.toInt * y.toInt := by
  rw [Int64.toInt_mul, Int.bmod_def]; omega
theorem t_le {x y : Int32} : x ≤ y ↔ x.toInt ≤ y.toInt := Int32.le_iff_toInt_le
theorem t_lt {x y : Int32} : x < y ↔ x.toInt < y.toInt := Int32.lt_iff_toInt_lt
theorem t_n {n : Nat} (h : n < 2 ^ 31) : (OfNat.ofNat n : Int32).toInt = (n : Int) := nI_toInt h
def lineF (en : Nat → Int32) (b : Nat) : Int32 := l_sum (fun w => hLen en w) b
def lostT (h : hH) (w : Nat) : Int32 := hLen h.2.1.2.1 w * (100 - h.1.2.1 (h.2.1.2.2 w).toNatClampNeg) / 100
def lostF (h : hH) (b : Nat) : Int32 := l_sum (lostT h) b
def decF (h : hH) (b : Nat) : Int32 := if lineF h.2.1.2.1 b = 0 then 0 else 1000 * lostF h b / lineF h.2.1.2.1 b
theorem hOk.wall {h : hH} {a b c e : Nat} (H : hOk h a b c e) {w : Nat} (hw : w < b) : (∀ j, j < 4 → 0 ≤ h.2.1.2.1 (4 * w + j) ∧ h.2.1.2.1 (4 * w + j) ≤ 1000) ∧ ((h.2.1.2.1 (4 * w) = h.2.1.2.1 (4 * w + 2) ∧ ¬ h.2.1.2.1 (4 * w + 1) = h.2.1.2.1 (4 * w + 3)) ∨ (¬ h.2.1.2.1 (4 * w) = h.2.1.2.1 (4 * w + 2) ∧ h.2.1.2.1 (4 * w + 1) = h.2.1.2.1 (4 * w + 3))) := (H.2.1.2.2 w hw).1
theorem hOk.len {h : hH} {a b c e : Nat} (H : hOk h a b c e) {w : Nat} (hw : w < b) : rLen h.2.1.2.1 w = hLen h.2.1.2.1 w := len_eq (H.wall hw).1 (H.wall hw).2
theorem hOk.stf {h : hH} {a b c e : Nat} (H : hOk h a b c e) {w : Nat} (hw : w < b) : ∃ i, i < a ∧ h.2.1.2.2 w = nI i := (H.2.1.2.2 w hw).2
theorem hOk.len1 {h : hH} {a b c e : Nat} (H : hOk h a b c e) {w : Nat} (hw : w < b) : 1 ≤ (hLen h.2.1.2.1 w).toInt ∧ (hLen h.2.1.2.1 w).toInt ≤ 1000 := by
  obtain ⟨hb, hs⟩ := H.wall hw
  have h0 := hb 0 (by omega)
  have h1 := hb 1 (by omega)
  have h2 := hb 2 (by omega)
  have h3 := hb 3 (by omega)
  simp only [Nat.add_zero] at h0
  unfold hLen hHigh hLow
  generalize h.2.1.2.1 (4 * w) = p at *
  generalize h.2.1.2.1 (4 * w + 1) = q at *
  generalize h.2.1.2.1 (4 * w + 2) = r at *
  generalize h.2.1.2.1 (4 * w + 3) = s at *
  have t1 : (1000 : Int32).toInt = 1000 := by decide
  have t0 : (0 : Int32).toInt = 0 := by decide
  simp only [t_le, t1, t0] at h0 h1 h2 h3
  simp only [← Int32.toInt_inj] at hs
  rcases hs with ⟨q1, q2⟩ | ⟨q1, q2⟩
  · rw [if_pos (Int32.toInt_inj.mp q1), if_pos (Int32.toInt_inj.mp q1)]
    by_cases z : q < s
    · rw [if_pos z, if_neg (by grind), i_sub (by omega) (by omega)]; rw [t_lt] at z; omega
    · rw [if_neg z, if_pos (by rw [t_lt] at z ⊢; omega), i_sub (by omega) (by omega)]; rw [t_lt] at z; omega
  · rw [if_neg (fun z => q1 (Int32.toInt_inj.mpr z)), if_neg (fun z => q1 (Int32.toInt_inj.mpr z))]
    by_cases z : p < r
    · rw [if_pos z, if_neg (by grind), i_sub (by omega) (by omega)]; rw [t_lt] at z; omega
    · rw [if_neg z, if_pos (by rw [t_lt] at z ⊢; omega), i_sub (by omega) (by omega)]; rw [t_lt] at z; omega
theorem sum_bd {f : Nat → Int32} {lo hi : Int} {b : Nat} (hb : b ≤ 16) (hlo : 0 ≤ lo) (hhi : hi ≤ 100000) (h : ∀ w, w < b → lo ≤ (f w).toInt ∧ (f w).toInt ≤ hi) : ∀ n, n ≤ b → n * lo ≤ (l_sum f n).toInt ∧ (l_sum f n).toInt ≤ n * hi
  | 0, _ => by simp [l_sum]
  | n + 1, hn => by
    obtain ⟨i1, i2⟩ := sum_bd hb hlo hhi h n (by omega)
    obtain ⟨h1, h2⟩ := h n (by omega)
    have e1 : ((n + 1 : Nat) : Int) * lo = n * lo + lo := by rw [Int.natCast_add, Int.add_mul]; omega
    have e2 : ((n + 1 : Nat) : Int) * hi = n * hi + hi := by rw [Int.natCast_add, Int.add_mul]; omega
    have b1 : (0 : Int) ≤ n * lo := Int.mul_nonneg (by omega) hlo
    have b2 : (n : Int) * hi ≤ 16 * 100000 := Int.le_trans (Int.mul_le_mul_of_nonneg_left hhi (by omega)) (Int.mul_le_mul_of_nonneg_right (by omega) (by omega))
    show _ ≤ (l_sum f n + f n).toInt ∧ (l_sum f n + f n).toInt ≤ _
    rw [i_add (by omega) (by omega)]
    omega
theorem hOk.line {h : hH} {a b c e : Nat} (H : hOk h a b c e) : (b : Int) ≤ (lineF h.2.1.2.1 b).toInt ∧ (lineF h.2.1.2.1 b).toInt ≤ b * 1000 := by
  have := sum_bd (f := fun w => hLen h.2.1.2.1 w) (lo := 1) (hi := 1000) H.2.1.2.1 (by omega) (by omega) (fun w hw => H.len1 hw) b (Nat.le_refl _)
  rw [Int.mul_one] at this
  exact this
theorem hOk.lostT {h : hH} {a b c e : Nat} (H : hOk h a b c e) {w : Nat} (hw : w < b) : 0 ≤ (lostT h w).toInt ∧ (lostT h w).toInt ≤ 1000 := by
  obtain ⟨l1, l2⟩ := H.len1 hw
  obtain ⟨i, hi, e1⟩ := H.stf hw
  unfold Jvm.Pilot.@@N@@.lostT
  rw [e1, nI_clamp (by have := H.1.2.2.1; omega)]
  obtain ⟨⟨s1, s2⟩, -⟩ := H.1.2.2.2 i hi
  generalize h.1.2.1 i = s at *
  generalize hLen h.2.1.2.1 w = l at *
  have t1 : (100 : Int32).toInt = 100 := by decide
  have t0 : (0 : Int32).toInt = 0 := by decide
  simp only [t_le, t1, t0] at s1 s2
  have es : (100 - s).toInt = 100 - s.toInt := by rw [i_sub (by omega) (by omega), t1]
  have m1 : 0 ≤ l.toInt * (100 - s.toInt) := Int.mul_nonneg (by omega) (by omega)
  have m2 : l.toInt * (100 - s.toInt) ≤ 1000 * 100 := Int.mul_le_mul l2 (by omega) (by omega) (by omega)
  have em : (l * (100 - s)).toInt = l.toInt * (100 - s.toInt) := by rw [i_mul (by rw [es]; omega) (by rw [es]; omega), es]
  rw [lg_idiv_nonneg (by omega) (by decide), em, t1]
  omega
theorem hOk.lost {h : hH} {a b c e : Nat} (H : hOk h a b c e) : 0 ≤ (lostF h b).toInt ∧ (lostF h b).toInt ≤ 16000 := by
  have := sum_bd (f := Jvm.Pilot.@@N@@.lostT h) (lo := 0) (hi := 1000) H.2.1.2.1 (by omega) (by omega) (fun w hw => H.lostT hw) b (Nat.le_refl _)
  have hb := H.2.1.2.1
  unfold lostF
  omega
theorem hOk.dec {h : hH} {a b c e : Nat} (H : hOk h a b c e) : 0 ≤ (decF h b).toInt ∧ (decF h b).toInt ≤ 16000000 := by
  unfold decF
  split
  · decide
  · rename_i hn
    obtain ⟨l1, l2⟩ := H.line
    obtain ⟨q1, q2⟩ := H.lost
    have hne : (lineF h.2.1.2.1 b).toInt ≠ 0 := fun z => hn (Int32.toInt_inj.mp (by rw [z]; decide))
    have t1 : (1000 : Int32).toInt = 1000 := by decide
    have em : (1000 * lostF h b).toInt = 1000 * (lostF h b).toInt := by rw [i_mul (by rw [t1]; omega) (by rw [t1]; omega), t1]
    rw [lg_idiv_nonneg (by omega) (by omega), em]
    constructor
    · exact Int.ediv_nonneg (by omega) (by omega)
    · exact Int.le_trans (Int.ediv_le_self _ (by omega)) (by omega)
theorem hOk.line0 {h : hH} {a b c e : Nat} (H : hOk h a b c e) : lineF h.2.1.2.1 b = 0 ↔ b = 0 := by
  constructor
  · intro z
    have := H.line.1
    rw [z] at this
    have t0 : (0 : Int32).toInt = 0 := by decide
    omega
  · intro z; subst z; rfl
theorem geo_len {S : fS} {b i : Nat} (HG : hGeo S b) (hi : i < b) (hb : b ≤ 16) : gA S 10 (nI i).toNatClampNeg - gA S 9 (nI i).toNatClampNeg = hLen (gA S 5) i := by
  rw [nI_clamp (by omega), (HG i hi).2.2.1, (HG i hi).2.2.2]; rfl
set_option maxRecDepth 100000 in
theorem qX6_len {G : fG} {d : Nat} {S : fS} {b i : Nat} (HG : hGeo S b) (hi : i < b) (hb : b ≤ 16) : fCtr G (d) mX6_lengthOf [.ref 4, .int (nI i)] S (fun r S' => r = some (.int (hLen (gA S 5) i)) ∧ S' = S) := by
  refine fCtr.of bXX6_lengthOf (Nat.le_of_ble_eq_true rfl) rfl ?_
  refine fV.run iX6_lengthOf_0_9 oX6_lengthOf_0_9 (pc' := 13) (L' := [(0, .ref 4), (1, .int (nI i))]) (st' := [.int ((gA S 10 (nI i).toNatClampNeg) - (gA S 9 (nI i).toNatClampNeg))]) (S' := S) (P := vp_in (nI i) 16 ∧ vp_in (nI i) 16 ∧ True) rfl ⟨(vp_in_nI (by omega) (by decide)), (vp_in_nI (by omega) (by decide)), trivial⟩ ?_
  exact fV.iret rfl dX6_lengthOf_13 ⟨by rw [geo_len HG hi hb], rfl⟩
set_option maxRecDepth 100000 in
theorem qX8_len {G : fG} {d : Nat} {S : fS} {i : Nat} {a b c e : Nat} (H : hOk (hD S) a b c e) (hi : i < b) : fCtr G (d + 1) mX8_lengthOf [.ref 36, .int (nI i)] S (fun r S' => r = some (.int (hLen (gA S 39) i)) ∧ S' = S) := by
  refine fCtr.of bXX8_lengthOf (Nat.le_of_ble_eq_true rfl) rfl ?_
  have hb : gI S 36 3 = nI b := H.2.1.1
  have hb16 : b ≤ 16 := H.2.1.2.1
  have ha8 : a ≤ 8 := H.1.2.2.1
  refine fV.run iX8_lengthOf_0_15 oX8_lengthOf_0_15 (pc' := 19) (L' := [(0, .ref 36), (1, .int (nI i))]) (st' := [.int ((gA S 39 (4 * (nI i)).toNatClampNeg) - (gA S 39 ((4 * (nI i)) + 2).toNatClampNeg))]) (S' := S) (P := vp_in (4 * (nI i)) 64 ∧ vp_in ((4 * (nI i)) + 2) 64 ∧ True) rfl ⟨(vin4 (w := i) (by omega)).1, (vin4 (w := i) (by omega)).2.2.1, trivial⟩ ?_
  refine fV.callS (M2 := mX8_size) (d := d) (av := [.int ((gA S 39 (4 * (nI i)).toNatClampNeg) - (gA S 39 ((4 * (nI i)) + 2).toNatClampNeg))]) (rest := []) kX8_size dX8_lengthOf_19 lX8_117 rfl rfl (Nat.le_of_ble_eq_true rfl) (fRoom (by decide)) ⟨Nat.le_refl _, Nat.le_refl _⟩ (qX8_size _) ?_
  rintro _ S9 ⟨rfl, h9⟩
  rw [h9]
  clear h9 S9
  refine fV.to (pc' := 22) (L' := [(0, .ref 36), (1, .int (nI i))]) (st' := [.int (hSz ((gA S 39 (4 * (nI i)).toNatClampNeg) - (gA S 39 ((4 * (nI i)) + 2).toNatClampNeg)))]) (S' := S) rfl rfl rfl rfl ?_
  refine fV.run iX8_lengthOf_22_17 oX8_lengthOf_22_17 (pc' := 43) (L' := [(0, .ref 36), (1, .int (nI i))]) (st' := [.int ((gA S 39 ((4 * (nI i)) + 1).toNatClampNeg) - (gA S 39 ((4 * (nI i)) + 3).toNatClampNeg)), .int (hSz ((gA S 39 (4 * (nI i)).toNatClampNeg) - (gA S 39 ((4 * (nI i)) + 2).toNatClampNeg)))]) (S' := S) (P := vp_in ((4 * (nI i)) + 1) 64 ∧ vp_in ((4 * (nI i)) + 3) 64 ∧ True) rfl ⟨(vin4 (w := i) (by omega)).2.1, (vin4 (w := i) (by omega)).2.2.2, trivial⟩ ?_
  refine fV.callS (M2 := mX8_size) (d := d) (av := [.int ((gA S 39 ((4 * (nI i)) + 1).toNatClampNeg) - (gA S 39 ((4 * (nI i)) + 3).toNatClampNeg))]) (rest := [.int (hSz ((gA S 39 (4 * (nI i)).toNatClampNeg) - (gA S 39 ((4 * (nI i)) + 2).toNatClampNeg)))]) kX8_size dX8_lengthOf_43 lX8_117 rfl rfl (Nat.le_of_ble_eq_true rfl) (fRoom (by decide)) ⟨Nat.le_refl _, Nat.le_refl _⟩ (qX8_size _) ?_
  rintro _ S9 ⟨rfl, h9⟩
  rw [h9]
  clear h9 S9
  refine fV.to (pc' := 46) (L' := [(0, .ref 36), (1, .int (nI i))]) (st' := [.int (hSz ((gA S 39 ((4 * (nI i)) + 1).toNatClampNeg) - (gA S 39 ((4 * (nI i)) + 3).toNatClampNeg))), .int (hSz ((gA S 39 (4 * (nI i)).toNatClampNeg) - (gA S 39 ((4 * (nI i)) + 2).toNatClampNeg)))]) (S' := S) rfl rfl rfl rfl ?_
  refine fV.run iX8_lengthOf_46_1 oX8_lengthOf_46_1 (pc' := 47) (L' := [(0, .ref 36), (1, .int (nI i))]) (st' := [.int ((hSz ((gA S 39 (4 * (nI i)).toNatClampNeg) - (gA S 39 ((4 * (nI i)) + 2).toNatClampNeg))) + (hSz ((gA S 39 ((4 * (nI i)) + 1).toNatClampNeg) - (gA S 39 ((4 * (nI i)) + 3).toNatClampNeg))))]) (S' := S) rfl trivial ?_
  exact fV.iret rfl dX8_lengthOf_47 ⟨by obtain ⟨e0, e1, e2, e3⟩ := cl4 (b := i) (by omega); rw [e0, e1, e2, e3]; exact congrArg (fun z => some (Value.int z)) (H.len hi), rfl⟩
def iX7_lineOfHall_4_4 : List Instr := [.iload_n 2, .aload_n 0, .getfield 19, .getfield 97]
theorem oX7_lineOfHall_4_4 : fOkB cX7_lineOfHall 4 iX7_lineOfHall_4_4 = true := by decide +kernel
theorem bX7_lineOfHall_12 : fBk cX7_lineOfHall 12 (.if_icmp .ge) 32 := ⟨20, by decide +kernel, by decide⟩
def iX7_lineOfHall_32_1 : List Instr := [.iload_n 1]
theorem oX7_lineOfHall_32_1 : fOkB cX7_lineOfHall 32 iX7_lineOfHall_32_1 = true := by decide +kernel
theorem dX7_lineOfHall_33 : decode cX7_lineOfHall 33 = .ok (.ireturn, 1) := by decide +kernel
def iX7_lineOfHall_15_4 : List Instr := [.iload_n 1, .aload_n 0, .getfield 19, .iload_n 2]
theorem oX7_lineOfHall_15_4 : fOkB cX7_lineOfHall 15 iX7_lineOfHall_15_4 = true := by decide +kernel
set_option maxRecDepth 100000 in
theorem lX7_106 : Cond.methodLink RX7 106 yX6_lengthOf ∈ fTB := fTB_at 398 rfl rfl
theorem dX7_lineOfHall_21 : decode cX7_lineOfHall 21 = .ok (.invokevirtual 106, 3) := by decide +kernel
def iX7_lineOfHall_24_4 : List Instr := [.iadd, .istore_n 1, .iinc 2 1, .goto (-25)]
theorem oX7_lineOfHall_24_4 : fOkB cX7_lineOfHall 24 iX7_lineOfHall_24_4 = true := by decide +kernel
set_option maxRecDepth 100000 in
theorem lpX7_line {G : fG} {d : Nat} {S : fS}  {a b c e : Nat} (H : hOk (hC S) a b c e) (HG : hGeo S b) : ∀ (u9 i : Nat), i + u9 = b → fV G mX7_lineOfHall (fZm G (d + 1) (fun r S' => r = some (.int (lineF (gA S 5) b)) ∧ S' = S)) 4 [(0, .ref 0), (1, .int (lineF (gA S 5) i)), (2, .int (nI i))] [] S := by
  have hb : gI S 4 6 = nI b := H.2.1.1
  have hb16 : b ≤ 16 := H.2.1.2.1
  have ha8 : a ≤ 8 := H.1.2.2.1
  intro u9
  induction u9 with
  | zero =>
    intro i  hik
    refine fV.run iX7_lineOfHall_4_4 oX7_lineOfHall_4_4 (pc' := 12) (L' := [(0, .ref 0), (1, .int (lineF (gA S 5) i)), (2, .int (nI i))]) (st' := [.int (gI S 4 6), .int (nI i)]) (S' := S) rfl trivial ?_
    refine fV.icmp_ge bX7_lineOfHall_12 (fun c12 => ?_) (fun c12 => ?_)
    · refine fV.run iX7_lineOfHall_32_1 oX7_lineOfHall_32_1 (pc' := 33) (L' := [(0, .ref 0), (1, .int (lineF (gA S 5) i)), (2, .int (nI i))]) (st' := [.int (lineF (gA S 5) i)]) (S' := S) rfl trivial ?_
      exact fV.iret rfl dX7_lineOfHall_33 ⟨by rw [show i = b by omega], rfl⟩
    · exact absurd c12 (by rw [hb, nI_leI (by omega) (by omega)]; omega)
  | succ u9 ih =>
    intro i  hik
    refine fV.run iX7_lineOfHall_4_4 oX7_lineOfHall_4_4 (pc' := 12) (L' := [(0, .ref 0), (1, .int (lineF (gA S 5) i)), (2, .int (nI i))]) (st' := [.int (gI S 4 6), .int (nI i)]) (S' := S) rfl trivial ?_
    refine fV.icmp_ge bX7_lineOfHall_12 (fun c12 => ?_) (fun c12 => ?_)
    · exact absurd c12 (by rw [hb, nI_leI (by omega) (by omega)]; omega)
    · refine fV.run iX7_lineOfHall_15_4 oX7_lineOfHall_15_4 (pc' := 21) (L' := [(0, .ref 0), (1, .int (lineF (gA S 5) i)), (2, .int (nI i))]) (st' := [.int (nI i), .ref 4, .int (lineF (gA S 5) i)]) (S' := S) rfl trivial ?_
      refine fV.callV (M2 := mX6_lengthOf) (d := d) (o := 4) (av := [.int (nI i)]) (rest := [.int (lineF (gA S 5) i)]) kX6_lengthOf dX7_lineOfHall_21 lX7_106 rfl rfl rfl (Nat.le_of_ble_eq_true rfl) (fRoom (by decide)) ⟨Nat.le_refl _, Nat.le_refl _⟩ (qX6_len HG (i := i) (by omega) hb16) ?_
      rintro _ S9 ⟨rfl, h9⟩
      rw [h9]
      clear h9 S9
      refine fV.to (pc' := 24) (L' := [(0, .ref 0), (1, .int (lineF (gA S 5) i)), (2, .int (nI i))]) (st' := [.int (hLen (gA S 5) i), .int (lineF (gA S 5) i)]) (S' := S) rfl rfl rfl rfl ?_
      refine fV.run iX7_lineOfHall_24_4 oX7_lineOfHall_24_4 (pc' := 4) (L' := [(0, .ref 0), (1, .int ((lineF (gA S 5) i) + (hLen (gA S 5) i))), (2, .int ((nI i) + 1))]) (st' := []) (S' := S) rfl trivial ?_
      refine fV.to (L' := [(0, .ref 0), (1, .int (lineF (gA S 5) (i + 1))), (2, .int (nI (i + 1)))]) rfl (by rw [← nI_1]; rfl) rfl rfl (ih (i + 1) (by omega))
def iX7_lineOfHall_0_4 : List Instr := [.iconst 0, .istore_n 1, .iconst 0, .istore_n 2]
theorem oX7_lineOfHall_0_4 : fOkB cX7_lineOfHall 0 iX7_lineOfHall_0_4 = true := by decide +kernel
set_option maxRecDepth 100000 in
theorem qX7_line {G : fG} {d : Nat} {S : fS}  {a b c e : Nat} (H : hOk (hC S) a b c e) (HG : hGeo S b) : fCtr G (d + 1) mX7_lineOfHall [.ref 0] S (fun r S' => r = some (.int (lineF (gA S 5) b)) ∧ S' = S) := by
  refine fCtr.of bXX7_lineOfHall (Nat.le_of_ble_eq_true rfl) rfl ?_
  refine fV.run iX7_lineOfHall_0_4 oX7_lineOfHall_0_4 (pc' := 4) (L' := [(0, .ref 0), (1, .int 0), (2, .int 0)]) (st' := []) (S' := S) rfl trivial ?_
  exact lpX7_line H HG b 0 (by omega)
def iX7_lostInHall_4_4 : List Instr := [.iload_n 2, .aload_n 0, .getfield 19, .getfield 97]
theorem oX7_lostInHall_4_4 : fOkB cX7_lostInHall 4 iX7_lostInHall_4_4 = true := by decide +kernel
theorem bX7_lostInHall_12 : fBk cX7_lostInHall 12 (.if_icmp .ge) 56 := ⟨44, by decide +kernel, by decide⟩
def iX7_lostInHall_56_1 : List Instr := [.iload_n 1]
theorem oX7_lostInHall_56_1 : fOkB cX7_lostInHall 56 iX7_lostInHall_56_1 = true := by decide +kernel
theorem dX7_lostInHall_57 : decode cX7_lostInHall 57 = .ok (.ireturn, 1) := by decide +kernel
def iX7_lostInHall_15_4 : List Instr := [.iload_n 1, .aload_n 0, .getfield 19, .iload_n 2]
theorem oX7_lostInHall_15_4 : fOkB cX7_lostInHall 15 iX7_lostInHall_15_4 = true := by decide +kernel
theorem dX7_lostInHall_21 : decode cX7_lostInHall 21 = .ok (.invokevirtual 106, 3) := by decide +kernel
def iX7_lostInHall_24_18 : List Instr := [.bipush 100, .aload_n 0, .getfield 10, .getfield 237, .aload_n 0, .getfield 19, .getfield 94, .iload_n 2, .iaload, .iaload, .isub, .imul, .bipush 100, .idiv, .iadd, .istore_n 1, .iinc 2 1, .goto (-49)]
theorem oX7_lostInHall_24_18 : fOkB cX7_lostInHall 24 iX7_lostInHall_24_18 = true := by decide +kernel
set_option maxRecDepth 100000 in
theorem lpX7_lost {G : fG} {d : Nat} {S : fS}  {a b c e : Nat} (H : hOk (hC S) a b c e) (HG : hGeo S b) : ∀ (u9 i : Nat), i + u9 = b → fV G mX7_lostInHall (fZm G (d + 1) (fun r S' => r = some (.int (lostF (hC S) b)) ∧ S' = S)) 4 [(0, .ref 0), (1, .int (lostF (hC S) i)), (2, .int (nI i))] [] S := by
  have hb : gI S 4 6 = nI b := H.2.1.1
  have hb16 : b ≤ 16 := H.2.1.2.1
  have ha8 : a ≤ 8 := H.1.2.2.1
  intro u9
  induction u9 with
  | zero =>
    intro i  hik
    refine fV.run iX7_lostInHall_4_4 oX7_lostInHall_4_4 (pc' := 12) (L' := [(0, .ref 0), (1, .int (lostF (hC S) i)), (2, .int (nI i))]) (st' := [.int (gI S 4 6), .int (nI i)]) (S' := S) rfl trivial ?_
    refine fV.icmp_ge bX7_lostInHall_12 (fun c12 => ?_) (fun c12 => ?_)
    · refine fV.run iX7_lostInHall_56_1 oX7_lostInHall_56_1 (pc' := 57) (L' := [(0, .ref 0), (1, .int (lostF (hC S) i)), (2, .int (nI i))]) (st' := [.int (lostF (hC S) i)]) (S' := S) rfl trivial ?_
      exact fV.iret rfl dX7_lostInHall_57 ⟨by rw [show i = b by omega], rfl⟩
    · exact absurd c12 (by rw [hb, nI_leI (by omega) (by omega)]; omega)
  | succ u9 ih =>
    intro i  hik
    refine fV.run iX7_lostInHall_4_4 oX7_lostInHall_4_4 (pc' := 12) (L' := [(0, .ref 0), (1, .int (lostF (hC S) i)), (2, .int (nI i))]) (st' := [.int (gI S 4 6), .int (nI i)]) (S' := S) rfl trivial ?_
    refine fV.icmp_ge bX7_lostInHall_12 (fun c12 => ?_) (fun c12 => ?_)
    · exact absurd c12 (by rw [hb, nI_leI (by omega) (by omega)]; omega)
    · refine fV.run iX7_lostInHall_15_4 oX7_lostInHall_15_4 (pc' := 21) (L' := [(0, .ref 0), (1, .int (lostF (hC S) i)), (2, .int (nI i))]) (st' := [.int (nI i), .ref 4, .int (lostF (hC S) i)]) (S' := S) rfl trivial ?_
      refine fV.callV (M2 := mX6_lengthOf) (d := d) (o := 4) (av := [.int (nI i)]) (rest := [.int (lostF (hC S) i)]) kX6_lengthOf dX7_lostInHall_21 lX7_106 rfl rfl rfl (Nat.le_of_ble_eq_true rfl) (fRoom (by decide)) ⟨Nat.le_refl _, Nat.le_refl _⟩ (qX6_len HG (i := i) (by omega) hb16) ?_
      rintro _ S9 ⟨rfl, h9⟩
      rw [h9]
      clear h9 S9
      refine fV.to (pc' := 24) (L' := [(0, .ref 0), (1, .int (lostF (hC S) i)), (2, .int (nI i))]) (st' := [.int (hLen (gA S 5) i), .int (lostF (hC S) i)]) (S' := S) rfl rfl rfl rfl ?_
      refine fV.run iX7_lostInHall_24_18 oX7_lostInHall_24_18 (pc' := 4) (L' := [(0, .ref 0), (1, .int ((lostF (hC S) i) + (((hLen (gA S 5) i) * (100 - (gA S 2 (gA S 6 (nI i).toNatClampNeg).toNatClampNeg))) / 100))), (2, .int ((nI i) + 1))]) (st' := []) (S' := S) (P := vp_in (nI i) 16 ∧ vp_in (gA S 6 (nI i).toNatClampNeg) 8 ∧ ¬ 100 = 0 ∧ True) rfl ⟨(vp_in_nI (by omega) (by decide)), (by rw [nI_clamp (by omega)]; obtain ⟨j, hj, ej⟩ := H.stf (w := i) (by omega); exact vinN (w := j) (by omega) (by decide) ej), (by decide), trivial⟩ ?_
      refine fV.to (L' := [(0, .ref 0), (1, .int (lostF (hC S) (i + 1))), (2, .int (nI (i + 1)))]) rfl (by rw [← nI_1, nI_clamp (by omega)]; rfl) rfl rfl (ih (i + 1) (by omega))
def iX7_lostInHall_0_4 : List Instr := [.iconst 0, .istore_n 1, .iconst 0, .istore_n 2]
theorem oX7_lostInHall_0_4 : fOkB cX7_lostInHall 0 iX7_lostInHall_0_4 = true := by decide +kernel
set_option maxRecDepth 100000 in
theorem qX7_lost {G : fG} {d : Nat} {S : fS}  {a b c e : Nat} (H : hOk (hC S) a b c e) (HG : hGeo S b) : fCtr G (d + 1) mX7_lostInHall [.ref 0] S (fun r S' => r = some (.int (lostF (hC S) b)) ∧ S' = S) := by
  refine fCtr.of bXX7_lostInHall (Nat.le_of_ble_eq_true rfl) rfl ?_
  refine fV.run iX7_lostInHall_0_4 oX7_lostInHall_0_4 (pc' := 4) (L' := [(0, .ref 0), (1, .int 0), (2, .int 0)]) (st' := []) (S' := S) rfl trivial ?_
  exact lpX7_lost H HG b 0 (by omega)
def iX7_decayOfHall_0_1 : List Instr := [.aload_n 0]
theorem oX7_decayOfHall_0_1 : fOkB cX7_decayOfHall 0 iX7_decayOfHall_0_1 = true := by decide +kernel
set_option maxRecDepth 100000 in
theorem lX7_115 : Cond.methodLink RX7 115 yX7_lineOfHall ∈ fTB := fTB_at 406 rfl rfl
theorem dX7_decayOfHall_1 : decode cX7_decayOfHall 1 = .ok (.invokevirtual 115, 3) := by decide +kernel
def iX7_decayOfHall_4_2 : List Instr := [.istore_n 1, .iload_n 1]
theorem oX7_decayOfHall_4_2 : fOkB cX7_decayOfHall 4 iX7_decayOfHall_4_2 = true := by decide +kernel
theorem bX7_decayOfHall_6 : fBk cX7_decayOfHall 6 (.ifCond .ne) 13 := ⟨7, by decide +kernel, by decide⟩
def iX7_decayOfHall_13_2 : List Instr := [.sipush 1000, .aload_n 0]
theorem oX7_decayOfHall_13_2 : fOkB cX7_decayOfHall 13 iX7_decayOfHall_13_2 = true := by decide +kernel
set_option maxRecDepth 100000 in
theorem lX7_119 : Cond.methodLink RX7 119 yX7_lostInHall ∈ fTB := fTB_at 410 rfl rfl
theorem dX7_decayOfHall_17 : decode cX7_decayOfHall 17 = .ok (.invokevirtual 119, 3) := by decide +kernel
def iX7_decayOfHall_20_3 : List Instr := [.imul, .iload_n 1, .idiv]
theorem oX7_decayOfHall_20_3 : fOkB cX7_decayOfHall 20 iX7_decayOfHall_20_3 = true := by decide +kernel
theorem dX7_decayOfHall_23 : decode cX7_decayOfHall 23 = .ok (.ireturn, 1) := by decide +kernel
def iX7_decayOfHall_9_2 : List Instr := [.iconst 0, .goto 13]
theorem oX7_decayOfHall_9_2 : fOkB cX7_decayOfHall 9 iX7_decayOfHall_9_2 = true := by decide +kernel
set_option maxRecDepth 100000 in
theorem qX7_dec {G : fG} {d : Nat} {S : fS}  {a b c e : Nat} (H : hOk (hC S) a b c e) (HG : hGeo S b) : fCtr G (d + 2) mX7_decayOfHall [.ref 0] S (fun r S' => r = some (.int (decF (hC S) b)) ∧ S' = S) := by
  refine fCtr.of bXX7_decayOfHall (Nat.le_of_ble_eq_true rfl) rfl ?_
  refine fV.run iX7_decayOfHall_0_1 oX7_decayOfHall_0_1 (pc' := 1) (L' := [(0, .ref 0)]) (st' := [.ref 0]) (S' := S) rfl trivial ?_
  refine fV.callV (M2 := mX7_lineOfHall) (d := d + 1) (o := 0) (av := []) (rest := []) kX7_lineOfHall dX7_decayOfHall_1 lX7_115 rfl rfl rfl (Nat.le_of_ble_eq_true rfl) (fRoom (by decide)) ⟨Nat.le_refl _, Nat.le_refl _⟩ (qX7_line H HG) ?_
  rintro _ S9 ⟨rfl, h9⟩
  rw [h9]
  clear h9 S9
  refine fV.to (pc' := 4) (L' := [(0, .ref 0)]) (st' := [.int (lineF (gA S 5) b)]) (S' := S) rfl rfl rfl rfl ?_
  refine fV.run iX7_decayOfHall_4_2 oX7_decayOfHall_4_2 (pc' := 6) (L' := [(0, .ref 0), (1, .int (lineF (gA S 5) b))]) (st' := [.int (lineF (gA S 5) b)]) (S' := S) rfl trivial ?_
  refine fV.if_ne bX7_decayOfHall_6 (fun c6 => ?_) (fun c6 => ?_)
  · refine fV.run iX7_decayOfHall_13_2 oX7_decayOfHall_13_2 (pc' := 17) (L' := [(0, .ref 0), (1, .int (lineF (gA S 5) b))]) (st' := [.ref 0, .int 1000]) (S' := S) rfl trivial ?_
    refine fV.callV (M2 := mX7_lostInHall) (d := d + 1) (o := 0) (av := []) (rest := [.int 1000]) kX7_lostInHall dX7_decayOfHall_17 lX7_119 rfl rfl rfl (Nat.le_of_ble_eq_true rfl) (fRoom (by decide)) ⟨Nat.le_refl _, Nat.le_refl _⟩ (qX7_lost H HG) ?_
    rintro _ S9 ⟨rfl, h9⟩
    rw [h9]
    clear h9 S9
    refine fV.to (pc' := 20) (L' := [(0, .ref 0), (1, .int (lineF (gA S 5) b))]) (st' := [.int (lostF (hC S) b), .int 1000]) (S' := S) rfl rfl rfl rfl ?_
    refine fV.run iX7_decayOfHall_20_3 oX7_decayOfHall_20_3 (pc' := 23) (L' := [(0, .ref 0), (1, .int (lineF (gA S 5) b))]) (st' := [.int ((1000 * (lostF (hC S) b)) / (lineF (gA S 5) b))]) (S' := S) (P := ¬ (lineF (gA S 5) b) = 0 ∧ True) rfl ⟨c6, trivial⟩ ?_
    exact fV.iret rfl dX7_decayOfHall_23 ⟨by unfold decF; rw [if_neg (show ¬ lineF (hC S).2.1.2.1 b = 0 from c6)]; rfl, rfl⟩
  · refine fV.run iX7_decayOfHall_9_2 oX7_decayOfHall_9_2 (pc' := 23) (L' := [(0, .ref 0), (1, .int (lineF (gA S 5) b))]) (st' := [.int 0]) (S' := S) rfl trivial ?_
    exact fV.iret rfl dX7_decayOfHall_23 ⟨by unfold decF; rw [if_pos (show lineF (hC S).2.1.2.1 b = 0 from c6)], rfl⟩
end
section
/-! the plain questions: told, count, left -/
def oTold (h : hH) (w t : Int32) : Int32 := if 0 ≤ w ∧ w < h.2.1.1 then (if 0 ≤ t ∧ t ≤ 5 then (if t = 4 then h.2.1.2.2 w.toNatClampNeg else if t = 5 then hLen h.2.1.2.1 w.toNatClampNeg else h.2.1.2.1 (4 * w + t).toNatClampNeg) else -1002) else -1001
def oCount (h : hH) (b : Nat) (t : Int32) : Int32 := if t = 0 then h.2.1.1 else if t = 1 then h.1.1 else if t = 2 then h.2.2.1.1 else if t = 3 then h.2.2.2.1.1 else if t = 4 then lineF h.2.1.2.1 b else if t = 5 then lostF h b else if t = 6 then decF h b else -1002
def itL (k e : Int64) : Nat → Int64
  | 0 => e
  | n + 1 => itL k e n * k / 1000
def oLeft (h : hH) (b : Nat) (e : Int64) (n : Int32) : Int64 := if (0 ≤ e ∧ e ≤ 1000000000000) ∧ (0 ≤ n ∧ n ≤ 100) then itL (1000 - (decF h b).toInt64) e n.toNatClampNeg else -1002
theorem kept_eq {h : hH} {a b c e : Nat} (H : hOk h a b c e) : (1000 - decF h b).toInt64 = 1000 - (decF h b).toInt64 := by
  obtain ⟨h1, h2⟩ := H.dec
  apply Int64.toInt_inj.mp
  have t1 : (1000 : Int32).toInt = 1000 := by decide
  have t2 : (1000 : Int64).toInt = 1000 := by decide
  rw [Int32.toInt_toInt64, i_sub (by omega) (by omega), j_sub (by rw [Int32.toInt_toInt64]; omega) (by rw [Int32.toInt_toInt64]; omega), Int32.toInt_toInt64, t1, t2]
theorem vinT {w t : Int32} {b : Nat} (hb : b ≤ 16) (h0 : 0 ≤ w) (h1 : w < nI b) (h2 : 0 ≤ t) (h3 : t < 4) : vp_in (4 * w + t) 64 := by
  obtain ⟨i, hi, rfl⟩ := n_in (by omega) h0 h1
  obtain ⟨j, hj, rfl⟩ := n_in (x := t) (n := 4) (by omega) h2 h3
  exact vinN (w := 4 * i + j) (by omega) (by decide) (by simp [nI, Int32.ofNat_add, Int32.ofNat_mul])
theorem i_of_toInt {x : Int32} {n : Int} (h : x.toInt = n) (y : Int32) (hy : y.toInt = n) : x = y := Int32.toInt_inj.mp (by rw [h, hy])
def iX8_line_4_3 : List Instr := [.iload_n 2, .aload_n 0, .getfield 89]
theorem oX8_line_4_3 : fOkB cX8_line 4 iX8_line_4_3 = true := by decide +kernel
theorem bX8_line_9 : fBk cX8_line 9 (.if_icmp .ge) 26 := ⟨17, by decide +kernel, by decide⟩
def iX8_line_26_1 : List Instr := [.iload_n 1]
theorem oX8_line_26_1 : fOkB cX8_line 26 iX8_line_26_1 = true := by decide +kernel
theorem dX8_line_27 : decode cX8_line 27 = .ok (.ireturn, 1) := by decide +kernel
def iX8_line_12_3 : List Instr := [.iload_n 1, .aload_n 0, .iload_n 2]
theorem oX8_line_12_3 : fOkB cX8_line 12 iX8_line_12_3 = true := by decide +kernel
set_option maxRecDepth 100000 in
theorem lX8_123 : Cond.methodLink RX8 123 yX8_lengthOf ∈ fTB := fTB_at 769 rfl rfl
theorem dX8_line_15 : decode cX8_line 15 = .ok (.invokevirtual 123, 3) := by decide +kernel
def iX8_line_18_4 : List Instr := [.iadd, .istore_n 1, .iinc 2 1, .goto (-19)]
theorem oX8_line_18_4 : fOkB cX8_line 18 iX8_line_18_4 = true := by decide +kernel
set_option maxRecDepth 100000 in
theorem lpX8_line {G : fG} {d : Nat} {S : fS}  {a b c e : Nat} (H : hOk (hD S) a b c e) : ∀ (u9 i : Nat), i + u9 = b → fV G mX8_line (fZm G (d + 2) (fun r S' => r = some (.int (lineF (gA S 39) b)) ∧ S' = S)) 4 [(0, .ref 36), (1, .int (lineF (gA S 39) i)), (2, .int (nI i))] [] S := by
  have hb : gI S 36 3 = nI b := H.2.1.1
  have hb16 : b ≤ 16 := H.2.1.2.1
  have ha8 : a ≤ 8 := H.1.2.2.1
  intro u9
  induction u9 with
  | zero =>
    intro i  hik
    refine fV.run iX8_line_4_3 oX8_line_4_3 (pc' := 9) (L' := [(0, .ref 36), (1, .int (lineF (gA S 39) i)), (2, .int (nI i))]) (st' := [.int (gI S 36 3), .int (nI i)]) (S' := S) rfl trivial ?_
    refine fV.icmp_ge bX8_line_9 (fun c9 => ?_) (fun c9 => ?_)
    · refine fV.run iX8_line_26_1 oX8_line_26_1 (pc' := 27) (L' := [(0, .ref 36), (1, .int (lineF (gA S 39) i)), (2, .int (nI i))]) (st' := [.int (lineF (gA S 39) i)]) (S' := S) rfl trivial ?_
      exact fV.iret rfl dX8_line_27 ⟨by rw [show i = b by omega], rfl⟩
    · exact absurd c9 (by rw [hb, nI_leI (by omega) (by omega)]; omega)
  | succ u9 ih =>
    intro i  hik
    refine fV.run iX8_line_4_3 oX8_line_4_3 (pc' := 9) (L' := [(0, .ref 36), (1, .int (lineF (gA S 39) i)), (2, .int (nI i))]) (st' := [.int (gI S 36 3), .int (nI i)]) (S' := S) rfl trivial ?_
    refine fV.icmp_ge bX8_line_9 (fun c9 => ?_) (fun c9 => ?_)
    · exact absurd c9 (by rw [hb, nI_leI (by omega) (by omega)]; omega)
    · refine fV.run iX8_line_12_3 oX8_line_12_3 (pc' := 15) (L' := [(0, .ref 36), (1, .int (lineF (gA S 39) i)), (2, .int (nI i))]) (st' := [.int (nI i), .ref 36, .int (lineF (gA S 39) i)]) (S' := S) rfl trivial ?_
      refine fV.callV (M2 := mX8_lengthOf) (d := d + 1) (o := 36) (av := [.int (nI i)]) (rest := [.int (lineF (gA S 39) i)]) kX8_lengthOf dX8_line_15 lX8_123 rfl rfl rfl (Nat.le_of_ble_eq_true rfl) (fRoom (by decide)) ⟨Nat.le_refl _, Nat.le_refl _⟩ (qX8_len H (i := i) (by omega)) ?_
      rintro _ S9 ⟨rfl, h9⟩
      rw [h9]
      clear h9 S9
      refine fV.to (pc' := 18) (L' := [(0, .ref 36), (1, .int (lineF (gA S 39) i)), (2, .int (nI i))]) (st' := [.int (hLen (gA S 39) i), .int (lineF (gA S 39) i)]) (S' := S) rfl rfl rfl rfl ?_
      refine fV.run iX8_line_18_4 oX8_line_18_4 (pc' := 4) (L' := [(0, .ref 36), (1, .int ((lineF (gA S 39) i) + (hLen (gA S 39) i))), (2, .int ((nI i) + 1))]) (st' := []) (S' := S) rfl trivial ?_
      refine fV.to (L' := [(0, .ref 36), (1, .int (lineF (gA S 39) (i + 1))), (2, .int (nI (i + 1)))]) rfl (by rw [← nI_1]; rfl) rfl rfl (ih (i + 1) (by omega))
def iX8_line_0_4 : List Instr := [.iconst 0, .istore_n 1, .iconst 0, .istore_n 2]
theorem oX8_line_0_4 : fOkB cX8_line 0 iX8_line_0_4 = true := by decide +kernel
set_option maxRecDepth 100000 in
theorem qX8_line {G : fG} {d : Nat} {S : fS}  {a b c e : Nat} (H : hOk (hD S) a b c e) : fCtr G (d + 2) mX8_line [.ref 36] S (fun r S' => r = some (.int (lineF (gA S 39) b)) ∧ S' = S) := by
  refine fCtr.of bXX8_line (Nat.le_of_ble_eq_true rfl) rfl ?_
  refine fV.run iX8_line_0_4 oX8_line_0_4 (pc' := 4) (L' := [(0, .ref 36), (1, .int 0), (2, .int 0)]) (st' := []) (S' := S) rfl trivial ?_
  exact lpX8_line H b 0 (by omega)
def iX8_lost_4_3 : List Instr := [.iload_n 2, .aload_n 0, .getfield 89]
theorem oX8_lost_4_3 : fOkB cX8_lost 4 iX8_lost_4_3 = true := by decide +kernel
theorem bX8_lost_9 : fBk cX8_lost 9 (.if_icmp .ge) 44 := ⟨35, by decide +kernel, by decide⟩
def iX8_lost_44_1 : List Instr := [.iload_n 1]
theorem oX8_lost_44_1 : fOkB cX8_lost 44 iX8_lost_44_1 = true := by decide +kernel
theorem dX8_lost_45 : decode cX8_lost 45 = .ok (.ireturn, 1) := by decide +kernel
def iX8_lost_12_3 : List Instr := [.iload_n 1, .aload_n 0, .iload_n 2]
theorem oX8_lost_12_3 : fOkB cX8_lost 12 iX8_lost_12_3 = true := by decide +kernel
theorem dX8_lost_15 : decode cX8_lost 15 = .ok (.invokevirtual 123, 3) := by decide +kernel
def iX8_lost_18_16 : List Instr := [.bipush 100, .aload_n 0, .getfield 7, .aload_n 0, .getfield 19, .iload_n 2, .iaload, .iaload, .isub, .imul, .bipush 100, .idiv, .iadd, .istore_n 1, .iinc 2 1, .goto (-37)]
theorem oX8_lost_18_16 : fOkB cX8_lost 18 iX8_lost_18_16 = true := by decide +kernel
set_option maxRecDepth 100000 in
theorem lpX8_lost {G : fG} {d : Nat} {S : fS}  {a b c e : Nat} (H : hOk (hD S) a b c e) : ∀ (u9 i : Nat), i + u9 = b → fV G mX8_lost (fZm G (d + 2) (fun r S' => r = some (.int (lostF (hD S) b)) ∧ S' = S)) 4 [(0, .ref 36), (1, .int (lostF (hD S) i)), (2, .int (nI i))] [] S := by
  have hb : gI S 36 3 = nI b := H.2.1.1
  have hb16 : b ≤ 16 := H.2.1.2.1
  have ha8 : a ≤ 8 := H.1.2.2.1
  intro u9
  induction u9 with
  | zero =>
    intro i  hik
    refine fV.run iX8_lost_4_3 oX8_lost_4_3 (pc' := 9) (L' := [(0, .ref 36), (1, .int (lostF (hD S) i)), (2, .int (nI i))]) (st' := [.int (gI S 36 3), .int (nI i)]) (S' := S) rfl trivial ?_
    refine fV.icmp_ge bX8_lost_9 (fun c9 => ?_) (fun c9 => ?_)
    · refine fV.run iX8_lost_44_1 oX8_lost_44_1 (pc' := 45) (L' := [(0, .ref 36), (1, .int (lostF (hD S) i)), (2, .int (nI i))]) (st' := [.int (lostF (hD S) i)]) (S' := S) rfl trivial ?_
      exact fV.iret rfl dX8_lost_45 ⟨by rw [show i = b by omega], rfl⟩
    · exact absurd c9 (by rw [hb, nI_leI (by omega) (by omega)]; omega)
  | succ u9 ih =>
    intro i  hik
    refine fV.run iX8_lost_4_3 oX8_lost_4_3 (pc' := 9) (L' := [(0, .ref 36), (1, .int (lostF (hD S) i)), (2, .int (nI i))]) (st' := [.int (gI S 36 3), .int (nI i)]) (S' := S) rfl trivial ?_
    refine fV.icmp_ge bX8_lost_9 (fun c9 => ?_) (fun c9 => ?_)
    · exact absurd c9 (by rw [hb, nI_leI (by omega) (by omega)]; omega)
    · refine fV.run iX8_lost_12_3 oX8_lost_12_3 (pc' := 15) (L' := [(0, .ref 36), (1, .int (lostF (hD S) i)), (2, .int (nI i))]) (st' := [.int (nI i), .ref 36, .int (lostF (hD S) i)]) (S' := S) rfl trivial ?_
      refine fV.callV (M2 := mX8_lengthOf) (d := d + 1) (o := 36) (av := [.int (nI i)]) (rest := [.int (lostF (hD S) i)]) kX8_lengthOf dX8_lost_15 lX8_123 rfl rfl rfl (Nat.le_of_ble_eq_true rfl) (fRoom (by decide)) ⟨Nat.le_refl _, Nat.le_refl _⟩ (qX8_len H (i := i) (by omega)) ?_
      rintro _ S9 ⟨rfl, h9⟩
      rw [h9]
      clear h9 S9
      refine fV.to (pc' := 18) (L' := [(0, .ref 36), (1, .int (lostF (hD S) i)), (2, .int (nI i))]) (st' := [.int (hLen (gA S 39) i), .int (lostF (hD S) i)]) (S' := S) rfl rfl rfl rfl ?_
      refine fV.run iX8_lost_18_16 oX8_lost_18_16 (pc' := 4) (L' := [(0, .ref 36), (1, .int ((lostF (hD S) i) + (((hLen (gA S 39) i) * (100 - (gA S 37 (gA S 40 (nI i).toNatClampNeg).toNatClampNeg))) / 100))), (2, .int ((nI i) + 1))]) (st' := []) (S' := S) (P := vp_in (nI i) 16 ∧ vp_in (gA S 40 (nI i).toNatClampNeg) 8 ∧ ¬ 100 = 0 ∧ True) rfl ⟨(vp_in_nI (by omega) (by decide)), (by rw [nI_clamp (by omega)]; obtain ⟨j, hj, ej⟩ := H.stf (w := i) (by omega); exact vinN (w := j) (by omega) (by decide) ej), (by decide), trivial⟩ ?_
      refine fV.to (L' := [(0, .ref 36), (1, .int (lostF (hD S) (i + 1))), (2, .int (nI (i + 1)))]) rfl (by rw [← nI_1, nI_clamp (by omega)]; rfl) rfl rfl (ih (i + 1) (by omega))
def iX8_lost_0_4 : List Instr := [.iconst 0, .istore_n 1, .iconst 0, .istore_n 2]
theorem oX8_lost_0_4 : fOkB cX8_lost 0 iX8_lost_0_4 = true := by decide +kernel
set_option maxRecDepth 100000 in
theorem qX8_lost {G : fG} {d : Nat} {S : fS}  {a b c e : Nat} (H : hOk (hD S) a b c e) : fCtr G (d + 2) mX8_lost [.ref 36] S (fun r S' => r = some (.int (lostF (hD S) b)) ∧ S' = S) := by
  refine fCtr.of bXX8_lost (Nat.le_of_ble_eq_true rfl) rfl ?_
  refine fV.run iX8_lost_0_4 oX8_lost_0_4 (pc' := 4) (L' := [(0, .ref 36), (1, .int 0), (2, .int 0)]) (st' := []) (S' := S) rfl trivial ?_
  exact lpX8_lost H b 0 (by omega)
def iX8_decay_0_2 : List Instr := [.aload_n 0, .getfield 89]
theorem oX8_decay_0_2 : fOkB cX8_decay 0 iX8_decay_0_2 = true := by decide +kernel
theorem bX8_decay_4 : fBk cX8_decay 4 (.ifCond .ne) 11 := ⟨7, by decide +kernel, by decide⟩
def iX8_decay_11_2 : List Instr := [.sipush 1000, .aload_n 0]
theorem oX8_decay_11_2 : fOkB cX8_decay 11 iX8_decay_11_2 = true := by decide +kernel
set_option maxRecDepth 100000 in
theorem lX8_126 : Cond.methodLink RX8 126 yX8_lost ∈ fTB := fTB_at 784 rfl rfl
theorem dX8_decay_15 : decode cX8_decay 15 = .ok (.invokevirtual 126, 3) := by decide +kernel
def iX8_decay_18_2 : List Instr := [.imul, .aload_n 0]
theorem oX8_decay_18_2 : fOkB cX8_decay 18 iX8_decay_18_2 = true := by decide +kernel
set_option maxRecDepth 100000 in
theorem lX8_130 : Cond.methodLink RX8 130 yX8_line ∈ fTB := fTB_at 780 rfl rfl
theorem dX8_decay_20 : decode cX8_decay 20 = .ok (.invokevirtual 130, 3) := by decide +kernel
def iX8_decay_23_1 : List Instr := [.idiv]
theorem oX8_decay_23_1 : fOkB cX8_decay 23 iX8_decay_23_1 = true := by decide +kernel
theorem dX8_decay_24 : decode cX8_decay 24 = .ok (.ireturn, 1) := by decide +kernel
def iX8_decay_7_2 : List Instr := [.iconst 0, .goto 16]
theorem oX8_decay_7_2 : fOkB cX8_decay 7 iX8_decay_7_2 = true := by decide +kernel
set_option maxRecDepth 100000 in
theorem qX8_dec {G : fG} {d : Nat} {S : fS}  {a b c e : Nat} (H : hOk (hD S) a b c e) : fCtr G (d + 3) mX8_decay [.ref 36] S (fun r S' => r = some (.int (decF (hD S) b)) ∧ S' = S) := by
  refine fCtr.of bXX8_decay (Nat.le_of_ble_eq_true rfl) rfl ?_
  have hb : gI S 36 3 = nI b := H.2.1.1
  have hb16 : b ≤ 16 := H.2.1.2.1
  have ha8 : a ≤ 8 := H.1.2.2.1
  refine fV.run iX8_decay_0_2 oX8_decay_0_2 (pc' := 4) (L' := [(0, .ref 36)]) (st' := [.int (gI S 36 3)]) (S' := S) rfl trivial ?_
  refine fV.if_ne bX8_decay_4 (fun c4 => ?_) (fun c4 => ?_)
  · refine fV.run iX8_decay_11_2 oX8_decay_11_2 (pc' := 15) (L' := [(0, .ref 36)]) (st' := [.ref 36, .int 1000]) (S' := S) rfl trivial ?_
    refine fV.callV (M2 := mX8_lost) (d := d + 2) (o := 36) (av := []) (rest := [.int 1000]) kX8_lost dX8_decay_15 lX8_126 rfl rfl rfl (Nat.le_of_ble_eq_true rfl) (fRoom (by decide)) ⟨Nat.le_refl _, Nat.le_refl _⟩ (qX8_lost H) ?_
    rintro _ S9 ⟨rfl, h9⟩
    rw [h9]
    clear h9 S9
    refine fV.to (pc' := 18) (L' := [(0, .ref 36)]) (st' := [.int (lostF (hD S) b), .int 1000]) (S' := S) rfl rfl rfl rfl ?_
    refine fV.run iX8_decay_18_2 oX8_decay_18_2 (pc' := 20) (L' := [(0, .ref 36)]) (st' := [.ref 36, .int (1000 * (lostF (hD S) b))]) (S' := S) rfl trivial ?_
    refine fV.callV (M2 := mX8_line) (d := d + 2) (o := 36) (av := []) (rest := [.int (1000 * (lostF (hD S) b))]) kX8_line dX8_decay_20 lX8_130 rfl rfl rfl (Nat.le_of_ble_eq_true rfl) (fRoom (by decide)) ⟨Nat.le_refl _, Nat.le_refl _⟩ (qX8_line H) ?_
    rintro _ S9 ⟨rfl, h9⟩
    rw [h9]
    clear h9 S9
    refine fV.to (pc' := 23) (L' := [(0, .ref 36)]) (st' := [.int (lineF (gA S 39) b), .int (1000 * (lostF (hD S) b))]) (S' := S) rfl rfl rfl rfl ?_
    refine fV.run iX8_decay_23_1 oX8_decay_23_1 (pc' := 24) (L' := [(0, .ref 36)]) (st' := [.int ((1000 * (lostF (hD S) b)) / (lineF (gA S 39) b))]) (S' := S) (P := ¬ (lineF (gA S 39) b) = 0 ∧ True) rfl ⟨(fun z => c4 (by rw [hb]; have := H.line0.mp z; subst this; rfl)), trivial⟩ ?_
    exact fV.iret rfl dX8_decay_24 ⟨by unfold decF; rw [if_neg (show ¬ lineF (hD S).2.1.2.1 b = 0 from (fun z => c4 (by rw [hb]; have := H.line0.mp z; subst this; rfl)))]; rfl, rfl⟩
  · refine fV.run iX8_decay_7_2 oX8_decay_7_2 (pc' := 24) (L' := [(0, .ref 36)]) (st' := [.int 0]) (S' := S) rfl trivial ?_
    exact fV.iret rfl dX8_decay_24 ⟨by unfold decF; rw [if_pos (H.line0.mpr (by rw [hb] at c4; exact (nI_eq (by omega) (by decide)).mp c4))], rfl⟩
theorem qX6_lenW {G : fG} {d : Nat} {S : fS} {w : Int32} {b : Nat} (HG : hGeo S b) (hb : b ≤ 16) (h0 : 0 ≤ w) (h1 : w < nI b) : fCtr G d mX6_lengthOf [.ref 4, .int w] S (fun r S' => r = some (.int (hLen (gA S 5) w.toNatClampNeg)) ∧ S' = S) := by
  obtain ⟨i, hi, rfl⟩ := n_in (by omega) h0 h1
  rw [nI_clamp (by omega)]
  exact qX6_len HG hi hb
theorem qX8_lenW {G : fG} {d : Nat} {S : fS} {w : Int32} {a b c e : Nat} (H : hOk (hD S) a b c e) (h0 : 0 ≤ w) (h1 : w < nI b) : fCtr G (d + 1) mX8_lengthOf [.ref 36, .int w] S (fun r S' => r = some (.int (hLen (gA S 39) w.toNatClampNeg)) ∧ S' = S) := by
  have hb16 : b ≤ 16 := H.2.1.2.1
  obtain ⟨i, hi, rfl⟩ := n_in (by omega) h0 h1
  rw [nI_clamp (by omega)]
  exact qX8_len H hi
def iX7_told_0_3 : List Instr := [.aload_n 0, .getfield 19, .iload_n 1]
theorem oX7_told_0_3 : fOkB cX7_told 0 iX7_told_0_3 = true := by decide +kernel
theorem dX7_told_5 : decode cX7_told 5 = .ok (.invokevirtual 93, 3) := by decide +kernel
theorem bX7_told_8 : fBk cX7_told 8 (.ifCond .ne) 15 := ⟨7, by decide +kernel, by decide⟩
def iX7_told_15_3 : List Instr := [.iload_n 2, .iconst 0, .iconst 5]
theorem oX7_told_15_3 : fOkB cX7_told 15 iX7_told_15_3 = true := by decide +kernel
theorem dX7_told_18 : decode cX7_told 18 = .ok (.invokestatic 74, 3) := by decide +kernel
theorem bX7_told_21 : fBk cX7_told 21 (.ifCond .ne) 28 := ⟨7, by decide +kernel, by decide⟩
def iX7_told_28_2 : List Instr := [.iload_n 2, .iconst 4]
theorem oX7_told_28_2 : fOkB cX7_told 28 iX7_told_28_2 = true := by decide +kernel
theorem bX7_told_30 : fBk cX7_told 30 (.if_icmp .ne) 43 := ⟨13, by decide +kernel, by decide⟩
def iX7_told_43_2 : List Instr := [.iload_n 2, .iconst 5]
theorem oX7_told_43_2 : fOkB cX7_told 43 iX7_told_43_2 = true := by decide +kernel
theorem bX7_told_45 : fBk cX7_told 45 (.if_icmp .ne) 57 := ⟨12, by decide +kernel, by decide⟩
def iX7_told_57_9 : List Instr := [.aload_n 0, .getfield 19, .getfield 110, .iconst 4, .iload_n 1, .imul, .iload_n 2, .iadd, .iaload]
theorem oX7_told_57_9 : fOkB cX7_told 57 iX7_told_57_9 = true := by decide +kernel
theorem dX7_told_70 : decode cX7_told 70 = .ok (.ireturn, 1) := by decide +kernel
def iX7_told_48_3 : List Instr := [.aload_n 0, .getfield 19, .iload_n 1]
theorem oX7_told_48_3 : fOkB cX7_told 48 iX7_told_48_3 = true := by decide +kernel
theorem dX7_told_53 : decode cX7_told 53 = .ok (.invokevirtual 106, 3) := by decide +kernel
theorem dX7_told_56 : decode cX7_told 56 = .ok (.ireturn, 1) := by decide +kernel
def iX7_told_33_5 : List Instr := [.aload_n 0, .getfield 19, .getfield 94, .iload_n 1, .iaload]
theorem oX7_told_33_5 : fOkB cX7_told 33 iX7_told_33_5 = true := by decide +kernel
theorem dX7_told_42 : decode cX7_told 42 = .ok (.ireturn, 1) := by decide +kernel
def iX7_told_24_1 : List Instr := [.sipush (-1002)]
theorem oX7_told_24_1 : fOkB cX7_told 24 iX7_told_24_1 = true := by decide +kernel
theorem dX7_told_27 : decode cX7_told 27 = .ok (.ireturn, 1) := by decide +kernel
def iX7_told_11_1 : List Instr := [.sipush (-1001)]
theorem oX7_told_11_1 : fOkB cX7_told 11 iX7_told_11_1 = true := by decide +kernel
theorem dX7_told_14 : decode cX7_told 14 = .ok (.ireturn, 1) := by decide +kernel
set_option maxRecDepth 100000 in
theorem qX7_told {G : fG} {d : Nat} {S : fS} (w t : Int32) {a b c e : Nat} (H : hOk (hC S) a b c e) (HG : hGeo S b) : fCtr G (d + 1) mX7_told [.ref 0, .int w, .int t] S (fun r S' => r = some (.int (oTold (hC S) w t)) ∧ S' = S) := by
  refine fCtr.of bXX7_told (Nat.le_of_ble_eq_true rfl) rfl ?_
  have hb : gI S 4 6 = nI b := H.2.1.1
  have hb16 : b ≤ 16 := H.2.1.2.1
  have ha8 : a ≤ 8 := H.1.2.2.1
  refine fV.run iX7_told_0_3 oX7_told_0_3 (pc' := 5) (L' := [(0, .ref 0), (1, .int w), (2, .int t)]) (st' := [.int w, .ref 4]) (S' := S) rfl trivial ?_
  refine fV.callV (M2 := mX6_has) (d := d) (o := 4) (av := [.int w]) (rest := []) kX6_has dX7_told_5 lX7_93 rfl rfl rfl (Nat.le_of_ble_eq_true rfl) (fRoom (by decide)) ⟨Nat.le_refl _, Nat.le_refl _⟩ (qX6_has_4 _) ?_
  rintro _ S9 ⟨rfl, h9⟩
  rw [h9]
  clear h9 S9
  refine fV.to (pc' := 8) (L' := [(0, .ref 0), (1, .int w), (2, .int t)]) (st' := [.int (fB (decide (0 ≤ w ∧ w < (gI S 4 6))))]) (S' := S) rfl rfl rfl rfl ?_
  refine fV.if_ne bX7_told_8 (fun c8 => ?_) (fun c8 => ?_)
  · refine fV.run iX7_told_15_3 oX7_told_15_3 (pc' := 18) (L' := [(0, .ref 0), (1, .int w), (2, .int t)]) (st' := [.int 5, .int 0, .int t]) (S' := S) rfl trivial ?_
    refine fV.callS (M2 := mX7_isWithin) (d := d) (av := [.int t, .int 0, .int 5]) (rest := []) kX7_isWithin dX7_told_18 lX7_74 rfl rfl (Nat.le_of_ble_eq_true rfl) (fRoom (by decide)) ⟨Nat.le_refl _, Nat.le_refl _⟩ (qX7_isWithin _ _ _) ?_
    rintro _ S9 ⟨rfl, h9⟩
    rw [h9]
    clear h9 S9
    refine fV.to (pc' := 21) (L' := [(0, .ref 0), (1, .int w), (2, .int t)]) (st' := [.int (fB (decide (0 ≤ t ∧ t ≤ 5)))]) (S' := S) rfl rfl rfl rfl ?_
    refine fV.if_ne bX7_told_21 (fun c21 => ?_) (fun c21 => ?_)
    · refine fV.run iX7_told_28_2 oX7_told_28_2 (pc' := 30) (L' := [(0, .ref 0), (1, .int w), (2, .int t)]) (st' := [.int 4, .int t]) (S' := S) rfl trivial ?_
      refine fV.icmp_ne bX7_told_30 (fun c30 => ?_) (fun c30 => ?_)
      · refine fV.run iX7_told_43_2 oX7_told_43_2 (pc' := 45) (L' := [(0, .ref 0), (1, .int w), (2, .int t)]) (st' := [.int 5, .int t]) (S' := S) rfl trivial ?_
        refine fV.icmp_ne bX7_told_45 (fun c45 => ?_) (fun c45 => ?_)
        · refine fV.run iX7_told_57_9 oX7_told_57_9 (pc' := 70) (L' := [(0, .ref 0), (1, .int w), (2, .int t)]) (st' := [.int (gA S 5 ((4 * w) + t).toNatClampNeg)]) (S' := S) (P := vp_in ((4 * w) + t) 64 ∧ True) rfl ⟨(vinT hb16 (by grind [fB]) (by grind [fB]) (by grind [fB]) (by grind [fB])), trivial⟩ ?_
          exact fV.iret rfl dX7_told_70 ⟨by unfold oTold; rw [if_pos (by grind [fB, hC]), if_pos (by grind [fB, hC]), if_neg (by grind [fB, hC]), if_neg (by grind [fB, hC])]; rfl, rfl⟩
        · refine fV.run iX7_told_48_3 oX7_told_48_3 (pc' := 53) (L' := [(0, .ref 0), (1, .int w), (2, .int t)]) (st' := [.int w, .ref 4]) (S' := S) rfl trivial ?_
          refine fV.callV (M2 := mX6_lengthOf) (d := d) (o := 4) (av := [.int w]) (rest := []) kX6_lengthOf dX7_told_53 lX7_106 rfl rfl rfl (Nat.le_of_ble_eq_true rfl) (fRoom (by decide)) ⟨Nat.le_refl _, Nat.le_refl _⟩ (qX6_lenW HG hb16 (by grind [fB]) (by grind [fB])) ?_
          rintro _ S9 ⟨rfl, h9⟩
          rw [h9]
          clear h9 S9
          refine fV.to (pc' := 56) (L' := [(0, .ref 0), (1, .int w), (2, .int t)]) (st' := [.int (hLen (gA S 5) w.toNatClampNeg)]) (S' := S) rfl rfl rfl rfl ?_
          exact fV.iret rfl dX7_told_56 ⟨by unfold oTold; rw [if_pos (by grind [fB, hC]), if_pos (by grind [fB, hC]), if_neg (by grind [fB, hC]), if_pos (by grind [fB, hC])]; rfl, rfl⟩
      · refine fV.run iX7_told_33_5 oX7_told_33_5 (pc' := 42) (L' := [(0, .ref 0), (1, .int w), (2, .int t)]) (st' := [.int (gA S 6 w.toNatClampNeg)]) (S' := S) (P := vp_in w 16 ∧ True) rfl ⟨(vin16 hb16 (by grind [fB]) (by grind [fB])), trivial⟩ ?_
        exact fV.iret rfl dX7_told_42 ⟨by unfold oTold; rw [if_pos (by grind [fB, hC]), if_pos (by grind [fB, hC]), if_pos (by grind [fB, hC])]; rfl, rfl⟩
    · refine fV.run iX7_told_24_1 oX7_told_24_1 (pc' := 27) (L' := [(0, .ref 0), (1, .int w), (2, .int t)]) (st' := [.int (-1002)]) (S' := S) rfl trivial ?_
      exact fV.iret rfl dX7_told_27 ⟨by unfold oTold; rw [if_pos (by grind [fB, hC]), if_neg (by grind [fB, hC])], rfl⟩
  · refine fV.run iX7_told_11_1 oX7_told_11_1 (pc' := 14) (L' := [(0, .ref 0), (1, .int w), (2, .int t)]) (st' := [.int (-1001)]) (S' := S) rfl trivial ?_
    exact fV.iret rfl dX7_told_14 ⟨by unfold oTold; rw [if_neg (by grind [fB, hC])], rfl⟩
def iX8_told_0_2 : List Instr := [.aload_n 0, .iload_n 1]
theorem oX8_told_0_2 : fOkB cX8_told 0 iX8_told_0_2 = true := by decide +kernel
theorem dX8_told_2 : decode cX8_told 2 = .ok (.invokevirtual 100, 3) := by decide +kernel
theorem bX8_told_5 : fBk cX8_told 5 (.ifCond .ne) 12 := ⟨7, by decide +kernel, by decide⟩
def iX8_told_12_4 : List Instr := [.iload_n 2, .i2l, .lconst 0, .ldc2_w 121]
theorem oX8_told_12_4 : fOkB cX8_told 12 iX8_told_12_4 = true := by decide +kernel
theorem dX8_told_18 : decode cX8_told 18 = .ok (.invokestatic 83, 3) := by decide +kernel
theorem bX8_told_21 : fBk cX8_told 21 (.ifCond .ne) 28 := ⟨7, by decide +kernel, by decide⟩
def iX8_told_28_2 : List Instr := [.iload_n 2, .iconst 4]
theorem oX8_told_28_2 : fOkB cX8_told 28 iX8_told_28_2 = true := by decide +kernel
theorem bX8_told_30 : fBk cX8_told 30 (.if_icmp .ge) 46 := ⟨16, by decide +kernel, by decide⟩
def iX8_told_46_2 : List Instr := [.iload_n 2, .iconst 4]
theorem oX8_told_46_2 : fOkB cX8_told 46 iX8_told_46_2 = true := by decide +kernel
theorem bX8_told_48 : fBk cX8_told 48 (.if_icmp .ne) 60 := ⟨12, by decide +kernel, by decide⟩
def iX8_told_60_2 : List Instr := [.aload_n 0, .iload_n 1]
theorem oX8_told_60_2 : fOkB cX8_told 60 iX8_told_60_2 = true := by decide +kernel
theorem dX8_told_62 : decode cX8_told 62 = .ok (.invokevirtual 123, 3) := by decide +kernel
theorem dX8_told_65 : decode cX8_told 65 = .ok (.ireturn, 1) := by decide +kernel
def iX8_told_51_5 : List Instr := [.aload_n 0, .getfield 19, .iload_n 1, .iaload, .goto 8]
theorem oX8_told_51_5 : fOkB cX8_told 51 iX8_told_51_5 = true := by decide +kernel
def iX8_told_33_9 : List Instr := [.aload_n 0, .getfield 16, .iconst 4, .iload_n 1, .imul, .iload_n 2, .iadd, .iaload, .goto 22]
theorem oX8_told_33_9 : fOkB cX8_told 33 iX8_told_33_9 = true := by decide +kernel
def iX8_told_24_1 : List Instr := [.sipush (-1002)]
theorem oX8_told_24_1 : fOkB cX8_told 24 iX8_told_24_1 = true := by decide +kernel
theorem dX8_told_27 : decode cX8_told 27 = .ok (.ireturn, 1) := by decide +kernel
def iX8_told_8_1 : List Instr := [.sipush (-1001)]
theorem oX8_told_8_1 : fOkB cX8_told 8 iX8_told_8_1 = true := by decide +kernel
theorem dX8_told_11 : decode cX8_told 11 = .ok (.ireturn, 1) := by decide +kernel
set_option maxRecDepth 100000 in
theorem qX8_told {G : fG} {d : Nat} {S : fS} (w t : Int32) {a b c e : Nat} (H : hOk (hD S) a b c e) : fCtr G (d + 2) mX8_told [.ref 36, .int w, .int t] S (fun r S' => r = some (.int (oTold (hD S) w t)) ∧ S' = S) := by
  refine fCtr.of bXX8_told (Nat.le_of_ble_eq_true rfl) rfl ?_
  have hb : gI S 36 3 = nI b := H.2.1.1
  have hb16 : b ≤ 16 := H.2.1.2.1
  have ha8 : a ≤ 8 := H.1.2.2.1
  have hw0 : 0 ≤ gI S 36 3 := by rw [hb]; exact nI_pos' (by omega)
  refine fV.run iX8_told_0_2 oX8_told_0_2 (pc' := 2) (L' := [(0, .ref 36), (1, .int w), (2, .int t)]) (st' := [.int w, .ref 36]) (S' := S) rfl trivial ?_
  refine fV.callV (M2 := mX8_isWall) (d := d + 1) (o := 36) (av := [.int w]) (rest := []) kX8_isWall dX8_told_2 lX8_100 rfl rfl rfl (Nat.le_of_ble_eq_true rfl) (fRoom (by decide)) ⟨Nat.le_refl _, Nat.le_refl _⟩ (qX8_isWall _ hw0) ?_
  rintro _ S9 ⟨rfl, h9⟩
  rw [h9]
  clear h9 S9
  refine fV.to (pc' := 5) (L' := [(0, .ref 36), (1, .int w), (2, .int t)]) (st' := [.int (fB (decide (0 ≤ w ∧ w < (gI S 36 3))))]) (S' := S) rfl rfl rfl rfl ?_
  refine fV.if_ne bX8_told_5 (fun c5 => ?_) (fun c5 => ?_)
  · refine fV.run iX8_told_12_4 oX8_told_12_4 (pc' := 18) (L' := [(0, .ref 36), (1, .int w), (2, .int t)]) (st' := [.long 5, .long 0, .long (Int32.toInt64 t)]) (S' := S) rfl trivial ?_
    refine fV.callS (M2 := mX8_in) (d := d + 1) (av := [.long (Int32.toInt64 t), .long 0, .long 5]) (rest := []) kX8_in dX8_told_18 lX8_83 rfl rfl (Nat.le_of_ble_eq_true rfl) (fRoom (by decide)) ⟨Nat.le_refl _, Nat.le_refl _⟩ (qX8_inP _ _ _ (P := 0 ≤ t ∧ t ≤ 5) (and_congr (w_geN (by decide) _) (w_leN (by decide) _))) ?_
    rintro _ S9 ⟨rfl, h9⟩
    rw [h9]
    clear h9 S9
    refine fV.to (pc' := 21) (L' := [(0, .ref 36), (1, .int w), (2, .int t)]) (st' := [.int (fB (decide (0 ≤ t ∧ t ≤ 5)))]) (S' := S) rfl rfl rfl rfl ?_
    refine fV.if_ne bX8_told_21 (fun c21 => ?_) (fun c21 => ?_)
    · refine fV.run iX8_told_28_2 oX8_told_28_2 (pc' := 30) (L' := [(0, .ref 36), (1, .int w), (2, .int t)]) (st' := [.int 4, .int t]) (S' := S) rfl trivial ?_
      refine fV.icmp_ge bX8_told_30 (fun c30 => ?_) (fun c30 => ?_)
      · refine fV.run iX8_told_46_2 oX8_told_46_2 (pc' := 48) (L' := [(0, .ref 36), (1, .int w), (2, .int t)]) (st' := [.int 4, .int t]) (S' := S) rfl trivial ?_
        refine fV.icmp_ne bX8_told_48 (fun c48 => ?_) (fun c48 => ?_)
        · refine fV.run iX8_told_60_2 oX8_told_60_2 (pc' := 62) (L' := [(0, .ref 36), (1, .int w), (2, .int t)]) (st' := [.int w, .ref 36]) (S' := S) rfl trivial ?_
          refine fV.callV (M2 := mX8_lengthOf) (d := d + 1) (o := 36) (av := [.int w]) (rest := []) kX8_lengthOf dX8_told_62 lX8_123 rfl rfl rfl (Nat.le_of_ble_eq_true rfl) (fRoom (by decide)) ⟨Nat.le_refl _, Nat.le_refl _⟩ (qX8_lenW H (by grind [fB]) (by grind [fB])) ?_
          rintro _ S9 ⟨rfl, h9⟩
          rw [h9]
          clear h9 S9
          refine fV.to (pc' := 65) (L' := [(0, .ref 36), (1, .int w), (2, .int t)]) (st' := [.int (hLen (gA S 39) w.toNatClampNeg)]) (S' := S) rfl rfl rfl rfl ?_
          exact fV.iret rfl dX8_told_65 ⟨by unfold oTold; rw [if_pos (by grind [fB, hD]), if_pos (by grind [fB, hD]), if_neg (by grind [fB, hD]), if_pos (by grind [fB, hD])]; rfl, rfl⟩
        · refine fV.run iX8_told_51_5 oX8_told_51_5 (pc' := 65) (L' := [(0, .ref 36), (1, .int w), (2, .int t)]) (st' := [.int (gA S 40 w.toNatClampNeg)]) (S' := S) (P := vp_in w 16 ∧ True) rfl ⟨(vin16 hb16 (by grind [fB]) (by grind [fB])), trivial⟩ ?_
          exact fV.iret rfl dX8_told_65 ⟨by unfold oTold; rw [if_pos (by grind [fB, hD]), if_pos (by grind [fB, hD]), if_pos (by grind [fB, hD])]; rfl, rfl⟩
      · refine fV.run iX8_told_33_9 oX8_told_33_9 (pc' := 65) (L' := [(0, .ref 36), (1, .int w), (2, .int t)]) (st' := [.int (gA S 39 ((4 * w) + t).toNatClampNeg)]) (S' := S) (P := vp_in ((4 * w) + t) 64 ∧ True) rfl ⟨(vinT hb16 (by grind [fB]) (by grind [fB]) (by grind [fB]) (by grind [fB])), trivial⟩ ?_
        exact fV.iret rfl dX8_told_65 ⟨by unfold oTold; rw [if_pos (by grind [fB, hD]), if_pos (by grind [fB, hD]), if_neg (by grind [fB, hD]), if_neg (by grind [fB, hD])]; rfl, rfl⟩
    · refine fV.run iX8_told_24_1 oX8_told_24_1 (pc' := 27) (L' := [(0, .ref 36), (1, .int w), (2, .int t)]) (st' := [.int (-1002)]) (S' := S) rfl trivial ?_
      exact fV.iret rfl dX8_told_27 ⟨by unfold oTold; rw [if_pos (by grind [fB, hD]), if_neg (by grind [fB, hD])], rfl⟩
  · refine fV.run iX8_told_8_1 oX8_told_8_1 (pc' := 11) (L' := [(0, .ref 36), (1, .int w), (2, .int t)]) (st' := [.int (-1001)]) (S' := S) rfl trivial ?_
    exact fV.iret rfl dX8_told_11 ⟨by unfold oTold; rw [if_neg (by grind [fB, hD])], rfl⟩
def iX7_count_0_1 : List Instr := [.iload_n 1]
theorem oX7_count_0_1 : fOkB cX7_count 0 iX7_count_0_1 = true := by decide +kernel
theorem dX7_count_1 : decode cX7_count 1 = .ok (.tableswitch 90 0 6 #[43, 51, 59, 67, 75, 80, 85], 43) := by decide +kernel
def iX7_count_44_3 : List Instr := [.aload_n 0, .getfield 19, .getfield 97]
theorem oX7_count_44_3 : fOkB cX7_count 44 iX7_count_44_3 = true := by decide +kernel
theorem dX7_count_51 : decode cX7_count 51 = .ok (.ireturn, 1) := by decide +kernel
def iX7_count_52_3 : List Instr := [.aload_n 0, .getfield 10, .getfield 113]
theorem oX7_count_52_3 : fOkB cX7_count 52 iX7_count_52_3 = true := by decide +kernel
theorem dX7_count_59 : decode cX7_count 59 = .ok (.ireturn, 1) := by decide +kernel
def iX7_count_60_3 : List Instr := [.aload_n 0, .getfield 28, .getfield 114]
theorem oX7_count_60_3 : fOkB cX7_count 60 iX7_count_60_3 = true := by decide +kernel
theorem dX7_count_67 : decode cX7_count 67 = .ok (.ireturn, 1) := by decide +kernel
def iX7_count_68_3 : List Instr := [.aload_n 0, .getfield 32, .getfield 114]
theorem oX7_count_68_3 : fOkB cX7_count 68 iX7_count_68_3 = true := by decide +kernel
theorem dX7_count_75 : decode cX7_count 75 = .ok (.ireturn, 1) := by decide +kernel
def iX7_count_76_1 : List Instr := [.aload_n 0]
theorem oX7_count_76_1 : fOkB cX7_count 76 iX7_count_76_1 = true := by decide +kernel
theorem dX7_count_77 : decode cX7_count 77 = .ok (.invokevirtual 115, 3) := by decide +kernel
theorem dX7_count_80 : decode cX7_count 80 = .ok (.ireturn, 1) := by decide +kernel
def iX7_count_81_1 : List Instr := [.aload_n 0]
theorem oX7_count_81_1 : fOkB cX7_count 81 iX7_count_81_1 = true := by decide +kernel
theorem dX7_count_82 : decode cX7_count 82 = .ok (.invokevirtual 119, 3) := by decide +kernel
theorem dX7_count_85 : decode cX7_count 85 = .ok (.ireturn, 1) := by decide +kernel
def iX7_count_86_1 : List Instr := [.aload_n 0]
theorem oX7_count_86_1 : fOkB cX7_count 86 iX7_count_86_1 = true := by decide +kernel
set_option maxRecDepth 100000 in
theorem lX7_122 : Cond.methodLink RX7 122 yX7_decayOfHall ∈ fTB := fTB_at 414 rfl rfl
theorem dX7_count_87 : decode cX7_count 87 = .ok (.invokevirtual 122, 3) := by decide +kernel
theorem dX7_count_90 : decode cX7_count 90 = .ok (.ireturn, 1) := by decide +kernel
def iX7_count_91_1 : List Instr := [.sipush (-1002)]
theorem oX7_count_91_1 : fOkB cX7_count 91 iX7_count_91_1 = true := by decide +kernel
theorem dX7_count_94 : decode cX7_count 94 = .ok (.ireturn, 1) := by decide +kernel
set_option maxRecDepth 100000 in
theorem qX7_count {G : fG} {d : Nat} {S : fS} (t : Int32) {a b c e : Nat} (H : hOk (hC S) a b c e) (HG : hGeo S b) : fCtr G (d + 3) mX7_count [.ref 0, .int t] S (fun r S' => r = some (.int (oCount (hC S) b t)) ∧ S' = S) := by
  refine fCtr.of bXX7_count (Nat.le_of_ble_eq_true rfl) rfl ?_
  refine fV.run iX7_count_0_1 oX7_count_0_1 (pc' := 1) (L' := [(0, .ref 0), (1, .int t)]) (st' := [.int t]) (S' := S) rfl trivial ?_
  refine fV.tsw (tgt := 91) dX7_count_1 (by decide) (fun h1 h2 => ?_) (fun hx => ?_)
  · rcases (show Int32.toInt t = 0 ∨ Int32.toInt t = 1 ∨ Int32.toInt t = 2 ∨ Int32.toInt t = 3 ∨ Int32.toInt t = 4 ∨ Int32.toInt t = 5 ∨ Int32.toInt t = 6 by omega) with hx | hx | hx | hx | hx | hx | hx
    · refine ⟨43, 44, by rw [hx]; rfl, by decide, ?_⟩
      refine fV.run iX7_count_44_3 oX7_count_44_3 (pc' := 51) (L' := [(0, .ref 0), (1, .int t)]) (st' := [.int (gI S 4 6)]) (S' := S) rfl trivial ?_
      exact fV.iret rfl dX7_count_51 ⟨by have ht : t = 0 := i_of_toInt hx _ (by decide); subst ht; rfl, rfl⟩
    · refine ⟨51, 52, by rw [hx]; rfl, by decide, ?_⟩
      refine fV.run iX7_count_52_3 oX7_count_52_3 (pc' := 59) (L' := [(0, .ref 0), (1, .int t)]) (st' := [.int (gI S 1 2)]) (S' := S) rfl trivial ?_
      exact fV.iret rfl dX7_count_59 ⟨by have ht : t = 1 := i_of_toInt hx _ (by decide); subst ht; rfl, rfl⟩
    · refine ⟨59, 60, by rw [hx]; rfl, by decide, ?_⟩
      refine fV.run iX7_count_60_3 oX7_count_60_3 (pc' := 67) (L' := [(0, .ref 0), (1, .int t)]) (st' := [.int (gI S 11 2)]) (S' := S) rfl trivial ?_
      exact fV.iret rfl dX7_count_67 ⟨by have ht : t = 2 := i_of_toInt hx _ (by decide); subst ht; rfl, rfl⟩
    · refine ⟨67, 68, by rw [hx]; rfl, by decide, ?_⟩
      refine fV.run iX7_count_68_3 oX7_count_68_3 (pc' := 75) (L' := [(0, .ref 0), (1, .int t)]) (st' := [.int (gI S 14 2)]) (S' := S) rfl trivial ?_
      exact fV.iret rfl dX7_count_75 ⟨by have ht : t = 3 := i_of_toInt hx _ (by decide); subst ht; rfl, rfl⟩
    · refine ⟨75, 76, by rw [hx]; rfl, by decide, ?_⟩
      refine fV.run iX7_count_76_1 oX7_count_76_1 (pc' := 77) (L' := [(0, .ref 0), (1, .int t)]) (st' := [.ref 0]) (S' := S) rfl trivial ?_
      refine fV.callV (M2 := mX7_lineOfHall) (d := d + 2) (o := 0) (av := []) (rest := []) kX7_lineOfHall dX7_count_77 lX7_115 rfl rfl rfl (Nat.le_of_ble_eq_true rfl) (fRoom (by decide)) ⟨Nat.le_refl _, Nat.le_refl _⟩ (qX7_line H HG) ?_
      rintro _ S9 ⟨rfl, h9⟩
      rw [h9]
      clear h9 S9
      refine fV.to (pc' := 80) (L' := [(0, .ref 0), (1, .int t)]) (st' := [.int (lineF (gA S 5) b)]) (S' := S) rfl rfl rfl rfl ?_
      exact fV.iret rfl dX7_count_80 ⟨by have ht : t = 4 := i_of_toInt hx _ (by decide); subst ht; rfl, rfl⟩
    · refine ⟨80, 81, by rw [hx]; rfl, by decide, ?_⟩
      refine fV.run iX7_count_81_1 oX7_count_81_1 (pc' := 82) (L' := [(0, .ref 0), (1, .int t)]) (st' := [.ref 0]) (S' := S) rfl trivial ?_
      refine fV.callV (M2 := mX7_lostInHall) (d := d + 2) (o := 0) (av := []) (rest := []) kX7_lostInHall dX7_count_82 lX7_119 rfl rfl rfl (Nat.le_of_ble_eq_true rfl) (fRoom (by decide)) ⟨Nat.le_refl _, Nat.le_refl _⟩ (qX7_lost H HG) ?_
      rintro _ S9 ⟨rfl, h9⟩
      rw [h9]
      clear h9 S9
      refine fV.to (pc' := 85) (L' := [(0, .ref 0), (1, .int t)]) (st' := [.int (lostF (hC S) b)]) (S' := S) rfl rfl rfl rfl ?_
      exact fV.iret rfl dX7_count_85 ⟨by have ht : t = 5 := i_of_toInt hx _ (by decide); subst ht; rfl, rfl⟩
    · refine ⟨85, 86, by rw [hx]; rfl, by decide, ?_⟩
      refine fV.run iX7_count_86_1 oX7_count_86_1 (pc' := 87) (L' := [(0, .ref 0), (1, .int t)]) (st' := [.ref 0]) (S' := S) rfl trivial ?_
      refine fV.callV (M2 := mX7_decayOfHall) (d := d + 2) (o := 0) (av := []) (rest := []) kX7_decayOfHall dX7_count_87 lX7_122 rfl rfl rfl (Nat.le_of_ble_eq_true rfl) (fRoom (by decide)) ⟨Nat.le_refl _, Nat.le_refl _⟩ (qX7_dec H HG) ?_
      rintro _ S9 ⟨rfl, h9⟩
      rw [h9]
      clear h9 S9
      refine fV.to (pc' := 90) (L' := [(0, .ref 0), (1, .int t)]) (st' := [.int (decF (hC S) b)]) (S' := S) rfl rfl rfl rfl ?_
      exact fV.iret rfl dX7_count_90 ⟨by have ht : t = 6 := i_of_toInt hx _ (by decide); subst ht; rfl, rfl⟩
  · refine fV.run iX7_count_91_1 oX7_count_91_1 (pc' := 94) (L' := [(0, .ref 0), (1, .int t)]) (st' := [.int (-1002)]) (S' := S) rfl trivial ?_
    exact fV.iret rfl dX7_count_94 ⟨by unfold oCount; rw [if_neg (fun z => by subst z; revert hx; decide), if_neg (fun z => by subst z; revert hx; decide), if_neg (fun z => by subst z; revert hx; decide), if_neg (fun z => by subst z; revert hx; decide), if_neg (fun z => by subst z; revert hx; decide), if_neg (fun z => by subst z; revert hx; decide), if_neg (fun z => by subst z; revert hx; decide)], rfl⟩
def iX8_count_0_1 : List Instr := [.iload_n 1]
theorem oX8_count_0_1 : fOkB cX8_count 0 iX8_count_0_1 = true := by decide +kernel
theorem dX8_count_1 : decode cX8_count 1 = .ok (.tableswitch 78 0 6 #[43, 48, 53, 58, 63, 68, 73], 43) := by decide +kernel
def iX8_count_44_2 : List Instr := [.aload_n 0, .getfield 89]
theorem oX8_count_44_2 : fOkB cX8_count 44 iX8_count_44_2 = true := by decide +kernel
theorem dX8_count_48 : decode cX8_count 48 = .ok (.ireturn, 1) := by decide +kernel
def iX8_count_49_2 : List Instr := [.aload_n 0, .getfield 78]
theorem oX8_count_49_2 : fOkB cX8_count 49 iX8_count_49_2 = true := by decide +kernel
theorem dX8_count_53 : decode cX8_count 53 = .ok (.ireturn, 1) := by decide +kernel
def iX8_count_54_2 : List Instr := [.aload_n 0, .getfield 103]
theorem oX8_count_54_2 : fOkB cX8_count 54 iX8_count_54_2 = true := by decide +kernel
theorem dX8_count_58 : decode cX8_count 58 = .ok (.ireturn, 1) := by decide +kernel
def iX8_count_59_2 : List Instr := [.aload_n 0, .getfield 106]
theorem oX8_count_59_2 : fOkB cX8_count 59 iX8_count_59_2 = true := by decide +kernel
theorem dX8_count_63 : decode cX8_count 63 = .ok (.ireturn, 1) := by decide +kernel
def iX8_count_64_1 : List Instr := [.aload_n 0]
theorem oX8_count_64_1 : fOkB cX8_count 64 iX8_count_64_1 = true := by decide +kernel
theorem dX8_count_65 : decode cX8_count 65 = .ok (.invokevirtual 130, 3) := by decide +kernel
theorem dX8_count_68 : decode cX8_count 68 = .ok (.ireturn, 1) := by decide +kernel
def iX8_count_69_1 : List Instr := [.aload_n 0]
theorem oX8_count_69_1 : fOkB cX8_count 69 iX8_count_69_1 = true := by decide +kernel
theorem dX8_count_70 : decode cX8_count 70 = .ok (.invokevirtual 126, 3) := by decide +kernel
theorem dX8_count_73 : decode cX8_count 73 = .ok (.ireturn, 1) := by decide +kernel
def iX8_count_74_1 : List Instr := [.aload_n 0]
theorem oX8_count_74_1 : fOkB cX8_count 74 iX8_count_74_1 = true := by decide +kernel
set_option maxRecDepth 100000 in
theorem lX8_133 : Cond.methodLink RX8 133 yX8_decay ∈ fTB := fTB_at 788 rfl rfl
theorem dX8_count_75 : decode cX8_count 75 = .ok (.invokevirtual 133, 3) := by decide +kernel
theorem dX8_count_78 : decode cX8_count 78 = .ok (.ireturn, 1) := by decide +kernel
def iX8_count_79_1 : List Instr := [.sipush (-1002)]
theorem oX8_count_79_1 : fOkB cX8_count 79 iX8_count_79_1 = true := by decide +kernel
theorem dX8_count_82 : decode cX8_count 82 = .ok (.ireturn, 1) := by decide +kernel
set_option maxRecDepth 100000 in
theorem qX8_count {G : fG} {d : Nat} {S : fS} (t : Int32) {a b c e : Nat} (H : hOk (hD S) a b c e) : fCtr G (d + 4) mX8_count [.ref 36, .int t] S (fun r S' => r = some (.int (oCount (hD S) b t)) ∧ S' = S) := by
  refine fCtr.of bXX8_count (Nat.le_of_ble_eq_true rfl) rfl ?_
  refine fV.run iX8_count_0_1 oX8_count_0_1 (pc' := 1) (L' := [(0, .ref 36), (1, .int t)]) (st' := [.int t]) (S' := S) rfl trivial ?_
  refine fV.tsw (tgt := 79) dX8_count_1 (by decide) (fun h1 h2 => ?_) (fun hx => ?_)
  · rcases (show Int32.toInt t = 0 ∨ Int32.toInt t = 1 ∨ Int32.toInt t = 2 ∨ Int32.toInt t = 3 ∨ Int32.toInt t = 4 ∨ Int32.toInt t = 5 ∨ Int32.toInt t = 6 by omega) with hx | hx | hx | hx | hx | hx | hx
    · refine ⟨43, 44, by rw [hx]; rfl, by decide, ?_⟩
      refine fV.run iX8_count_44_2 oX8_count_44_2 (pc' := 48) (L' := [(0, .ref 36), (1, .int t)]) (st' := [.int (gI S 36 3)]) (S' := S) rfl trivial ?_
      exact fV.iret rfl dX8_count_48 ⟨by have ht : t = 0 := i_of_toInt hx _ (by decide); subst ht; rfl, rfl⟩
    · refine ⟨48, 49, by rw [hx]; rfl, by decide, ?_⟩
      refine fV.run iX8_count_49_2 oX8_count_49_2 (pc' := 53) (L' := [(0, .ref 36), (1, .int t)]) (st' := [.int (gI S 36 0)]) (S' := S) rfl trivial ?_
      exact fV.iret rfl dX8_count_53 ⟨by have ht : t = 1 := i_of_toInt hx _ (by decide); subst ht; rfl, rfl⟩
    · refine ⟨53, 54, by rw [hx]; rfl, by decide, ?_⟩
      refine fV.run iX8_count_54_2 oX8_count_54_2 (pc' := 58) (L' := [(0, .ref 36), (1, .int t)]) (st' := [.int (gI S 36 6)]) (S' := S) rfl trivial ?_
      exact fV.iret rfl dX8_count_58 ⟨by have ht : t = 2 := i_of_toInt hx _ (by decide); subst ht; rfl, rfl⟩
    · refine ⟨58, 59, by rw [hx]; rfl, by decide, ?_⟩
      refine fV.run iX8_count_59_2 oX8_count_59_2 (pc' := 63) (L' := [(0, .ref 36), (1, .int t)]) (st' := [.int (gI S 36 10)]) (S' := S) rfl trivial ?_
      exact fV.iret rfl dX8_count_63 ⟨by have ht : t = 3 := i_of_toInt hx _ (by decide); subst ht; rfl, rfl⟩
    · refine ⟨63, 64, by rw [hx]; rfl, by decide, ?_⟩
      refine fV.run iX8_count_64_1 oX8_count_64_1 (pc' := 65) (L' := [(0, .ref 36), (1, .int t)]) (st' := [.ref 36]) (S' := S) rfl trivial ?_
      refine fV.callV (M2 := mX8_line) (d := d + 3) (o := 36) (av := []) (rest := []) kX8_line dX8_count_65 lX8_130 rfl rfl rfl (Nat.le_of_ble_eq_true rfl) (fRoom (by decide)) ⟨Nat.le_refl _, Nat.le_refl _⟩ (qX8_line H) ?_
      rintro _ S9 ⟨rfl, h9⟩
      rw [h9]
      clear h9 S9
      refine fV.to (pc' := 68) (L' := [(0, .ref 36), (1, .int t)]) (st' := [.int (lineF (gA S 39) b)]) (S' := S) rfl rfl rfl rfl ?_
      exact fV.iret rfl dX8_count_68 ⟨by have ht : t = 4 := i_of_toInt hx _ (by decide); subst ht; rfl, rfl⟩
    · refine ⟨68, 69, by rw [hx]; rfl, by decide, ?_⟩
      refine fV.run iX8_count_69_1 oX8_count_69_1 (pc' := 70) (L' := [(0, .ref 36), (1, .int t)]) (st' := [.ref 36]) (S' := S) rfl trivial ?_
      refine fV.callV (M2 := mX8_lost) (d := d + 3) (o := 36) (av := []) (rest := []) kX8_lost dX8_count_70 lX8_126 rfl rfl rfl (Nat.le_of_ble_eq_true rfl) (fRoom (by decide)) ⟨Nat.le_refl _, Nat.le_refl _⟩ (qX8_lost H) ?_
      rintro _ S9 ⟨rfl, h9⟩
      rw [h9]
      clear h9 S9
      refine fV.to (pc' := 73) (L' := [(0, .ref 36), (1, .int t)]) (st' := [.int (lostF (hD S) b)]) (S' := S) rfl rfl rfl rfl ?_
      exact fV.iret rfl dX8_count_73 ⟨by have ht : t = 5 := i_of_toInt hx _ (by decide); subst ht; rfl, rfl⟩
    · refine ⟨73, 74, by rw [hx]; rfl, by decide, ?_⟩
      refine fV.run iX8_count_74_1 oX8_count_74_1 (pc' := 75) (L' := [(0, .ref 36), (1, .int t)]) (st' := [.ref 36]) (S' := S) rfl trivial ?_
      refine fV.callV (M2 := mX8_decay) (d := d + 3) (o := 36) (av := []) (rest := []) kX8_decay dX8_count_75 lX8_133 rfl rfl rfl (Nat.le_of_ble_eq_true rfl) (fRoom (by decide)) ⟨Nat.le_refl _, Nat.le_refl _⟩ (qX8_dec H) ?_
      rintro _ S9 ⟨rfl, h9⟩
      rw [h9]
      clear h9 S9
      refine fV.to (pc' := 78) (L' := [(0, .ref 36), (1, .int t)]) (st' := [.int (decF (hD S) b)]) (S' := S) rfl rfl rfl rfl ?_
      exact fV.iret rfl dX8_count_78 ⟨by have ht : t = 6 := i_of_toInt hx _ (by decide); subst ht; rfl, rfl⟩
  · refine fV.run iX8_count_79_1 oX8_count_79_1 (pc' := 82) (L' := [(0, .ref 36), (1, .int t)]) (st' := [.int (-1002)]) (S' := S) rfl trivial ?_
    exact fV.iret rfl dX8_count_82 ⟨by unfold oCount; rw [if_neg (fun z => by subst z; revert hx; decide), if_neg (fun z => by subst z; revert hx; decide), if_neg (fun z => by subst z; revert hx; decide), if_neg (fun z => by subst z; revert hx; decide), if_neg (fun z => by subst z; revert hx; decide), if_neg (fun z => by subst z; revert hx; decide), if_neg (fun z => by subst z; revert hx; decide)], rfl⟩
def iX7_left_45_2 : List Instr := [.iload 8, .iload_n 3]
theorem oX7_left_45_2 : fOkB cX7_left 45 iX7_left_45_2 = true := by decide +kernel
theorem bX7_left_48 : fBk cX7_left 48 (.if_icmp .ge) 68 := ⟨20, by decide +kernel, by decide⟩
def iX7_left_68_1 : List Instr := [.lload 6]
theorem oX7_left_68_1 : fOkB cX7_left 68 iX7_left_68_1 = true := by decide +kernel
theorem dX7_left_70 : decode cX7_left 70 = .ok (.lreturn, 1) := by decide +kernel
def iX7_left_51_8 : List Instr := [.lload 6, .lload 4, .lmul, .ldc2_w 202, .ldiv, .lstore 6, .iinc 8 1, .goto (-20)]
theorem oX7_left_51_8 : fOkB cX7_left 51 iX7_left_51_8 = true := by decide +kernel
set_option maxRecDepth 100000 in
theorem lpX7_left {G : fG} {d : Nat} {S : fS} {u kp : Int64} {m : Nat} (hm : m ≤ 100) : ∀ (u9 i : Nat), i + u9 = m → fV G mX7_left (fZm G (d + 3) (fun r S' => r = some (.long (itL kp u m)) ∧ S' = S)) 45 [(0, .ref 0), (1, .long u), (3, .int (nI m)), (4, .long kp), (6, .long (itL kp u i)), (8, .int (nI i))] [] S := by
  intro u9
  induction u9 with
  | zero =>
    intro i  hik
    refine fV.run iX7_left_45_2 oX7_left_45_2 (pc' := 48) (L' := [(0, .ref 0), (1, .long u), (3, .int (nI m)), (4, .long kp), (6, .long (itL kp u i)), (8, .int (nI i))]) (st' := [.int (nI m), .int (nI i)]) (S' := S) rfl trivial ?_
    refine fV.icmp_ge bX7_left_48 (fun c48 => ?_) (fun c48 => ?_)
    · refine fV.run iX7_left_68_1 oX7_left_68_1 (pc' := 70) (L' := [(0, .ref 0), (1, .long u), (3, .int (nI m)), (4, .long kp), (6, .long (itL kp u i)), (8, .int (nI i))]) (st' := [.long (itL kp u i)]) (S' := S) rfl trivial ?_
      exact fV.lret rfl dX7_left_70 ⟨by rw [show i = m by omega], rfl⟩
    · exact absurd c48 (by rw [nI_leI (by omega) (by omega)]; omega)
  | succ u9 ih =>
    intro i  hik
    refine fV.run iX7_left_45_2 oX7_left_45_2 (pc' := 48) (L' := [(0, .ref 0), (1, .long u), (3, .int (nI m)), (4, .long kp), (6, .long (itL kp u i)), (8, .int (nI i))]) (st' := [.int (nI m), .int (nI i)]) (S' := S) rfl trivial ?_
    refine fV.icmp_ge bX7_left_48 (fun c48 => ?_) (fun c48 => ?_)
    · exact absurd c48 (by rw [nI_leI (by omega) (by omega)]; omega)
    · refine fV.run iX7_left_51_8 oX7_left_51_8 (pc' := 45) (L' := [(0, .ref 0), (1, .long u), (3, .int (nI m)), (4, .long kp), (6, .long (((itL kp u i) * kp) / 1000)), (8, .int ((nI i) + 1))]) (st' := []) (S' := S) (P := ¬ 1000 = 0 ∧ True) rfl ⟨(by decide), trivial⟩ ?_
      refine fV.to (L' := [(0, .ref 0), (1, .long u), (3, .int (nI m)), (4, .long kp), (6, .long (itL kp u (i + 1))), (8, .int (nI (i + 1)))]) rfl (by rw [← nI_1]; rfl) rfl rfl (ih (i + 1) (by omega))
def iX7_left_0_3 : List Instr := [.lload_n 1, .lconst 0, .lcmp]
theorem oX7_left_0_3 : fOkB cX7_left 0 iX7_left_0_3 = true := by decide +kernel
theorem bX7_left_3 : fBk cX7_left 3 (.ifCond .lt) 24 := ⟨21, by decide +kernel, by decide⟩
def iX7_left_24_1 : List Instr := [.ldc2_w 135]
theorem oX7_left_24_1 : fOkB cX7_left 24 iX7_left_24_1 = true := by decide +kernel
theorem dX7_left_27 : decode cX7_left 27 = .ok (.lreturn, 1) := by decide +kernel
def iX7_left_6_3 : List Instr := [.lload_n 1, .ldc2_w 200, .lcmp]
theorem oX7_left_6_3 : fOkB cX7_left 6 iX7_left_6_3 = true := by decide +kernel
theorem bX7_left_11 : fBk cX7_left 11 (.ifCond .gt) 24 := ⟨13, by decide +kernel, by decide⟩
def iX7_left_14_3 : List Instr := [.iload_n 3, .iconst 0, .bipush 100]
theorem oX7_left_14_3 : fOkB cX7_left 14 iX7_left_14_3 = true := by decide +kernel
theorem dX7_left_18 : decode cX7_left 18 = .ok (.invokestatic 74, 3) := by decide +kernel
theorem bX7_left_21 : fBk cX7_left 21 (.ifCond .ne) 28 := ⟨7, by decide +kernel, by decide⟩
def iX7_left_28_2 : List Instr := [.sipush 1000, .aload_n 0]
theorem oX7_left_28_2 : fOkB cX7_left 28 iX7_left_28_2 = true := by decide +kernel
theorem dX7_left_32 : decode cX7_left 32 = .ok (.invokevirtual 122, 3) := by decide +kernel
def iX7_left_35_7 : List Instr := [.isub, .i2l, .lstore 4, .lload_n 1, .lstore 6, .iconst 0, .istore 8]
theorem oX7_left_35_7 : fOkB cX7_left 35 iX7_left_35_7 = true := by decide +kernel
set_option maxRecDepth 100000 in
theorem qX7_left {G : fG} {d : Nat} {S : fS} (u : Int64) (n : Int32) {a b c e : Nat} (H : hOk (hC S) a b c e) (HG : hGeo S b) : fCtr G (d + 3) mX7_left [.ref 0, .long u, .int n] S (fun r S' => r = some (.long (oLeft (hC S) b u n)) ∧ S' = S) := by
  refine fCtr.of bXX7_left (Nat.le_of_ble_eq_true rfl) rfl ?_
  have hb : gI S 4 6 = nI b := H.2.1.1
  have hb16 : b ≤ 16 := H.2.1.2.1
  have ha8 : a ≤ 8 := H.1.2.2.1
  refine fV.run iX7_left_0_3 oX7_left_0_3 (pc' := 3) (L' := [(0, .ref 0), (1, .long u), (3, .int n)]) (st' := [.int (lg_cmp u 0)]) (S' := S) rfl trivial ?_
  refine fV.lif_lt bX7_left_3 (fun c3 => ?_) (fun c3 => ?_)
  · refine fV.run iX7_left_24_1 oX7_left_24_1 (pc' := 27) (L' := [(0, .ref 0), (1, .long u), (3, .int n)]) (st' := [.long (-1002)]) (S' := S) rfl trivial ?_
    exact fV.lret rfl dX7_left_27 ⟨by unfold oLeft; rw [if_neg (by grind [fB])], rfl⟩
  · refine fV.run iX7_left_6_3 oX7_left_6_3 (pc' := 11) (L' := [(0, .ref 0), (1, .long u), (3, .int n)]) (st' := [.int (lg_cmp u 1000000000000)]) (S' := S) rfl trivial ?_
    refine fV.lif_gt bX7_left_11 (fun c11 => ?_) (fun c11 => ?_)
    · refine fV.run iX7_left_24_1 oX7_left_24_1 (pc' := 27) (L' := [(0, .ref 0), (1, .long u), (3, .int n)]) (st' := [.long (-1002)]) (S' := S) rfl trivial ?_
      exact fV.lret rfl dX7_left_27 ⟨by unfold oLeft; rw [if_neg (by grind [fB])], rfl⟩
    · refine fV.run iX7_left_14_3 oX7_left_14_3 (pc' := 18) (L' := [(0, .ref 0), (1, .long u), (3, .int n)]) (st' := [.int 100, .int 0, .int n]) (S' := S) rfl trivial ?_
      refine fV.callS (M2 := mX7_isWithin) (d := d + 2) (av := [.int n, .int 0, .int 100]) (rest := []) kX7_isWithin dX7_left_18 lX7_74 rfl rfl (Nat.le_of_ble_eq_true rfl) (fRoom (by decide)) ⟨Nat.le_refl _, Nat.le_refl _⟩ (qX7_isWithin _ _ _) ?_
      rintro _ S9 ⟨rfl, h9⟩
      rw [h9]
      clear h9 S9
      refine fV.to (pc' := 21) (L' := [(0, .ref 0), (1, .long u), (3, .int n)]) (st' := [.int (fB (decide (0 ≤ n ∧ n ≤ 100)))]) (S' := S) rfl rfl rfl rfl ?_
      refine fV.if_ne bX7_left_21 (fun c21 => ?_) (fun c21 => ?_)
      · refine fV.run iX7_left_28_2 oX7_left_28_2 (pc' := 32) (L' := [(0, .ref 0), (1, .long u), (3, .int n)]) (st' := [.ref 0, .int 1000]) (S' := S) rfl trivial ?_
        refine fV.callV (M2 := mX7_decayOfHall) (d := d + 2) (o := 0) (av := []) (rest := [.int 1000]) kX7_decayOfHall dX7_left_32 lX7_122 rfl rfl rfl (Nat.le_of_ble_eq_true rfl) (fRoom (by decide)) ⟨Nat.le_refl _, Nat.le_refl _⟩ (qX7_dec H HG) ?_
        rintro _ S9 ⟨rfl, h9⟩
        rw [h9]
        clear h9 S9
        refine fV.to (pc' := 35) (L' := [(0, .ref 0), (1, .long u), (3, .int n)]) (st' := [.int (decF (hC S) b), .int 1000]) (S' := S) rfl rfl rfl rfl ?_
        refine fV.run iX7_left_35_7 oX7_left_35_7 (pc' := 45) (L' := [(0, .ref 0), (1, .long u), (3, .int n), (4, .long (Int32.toInt64 (1000 - (decF (hC S) b)))), (6, .long u), (8, .int 0)]) (st' := []) (S' := S) rfl trivial ?_
        obtain ⟨m, hm, rfl⟩ := n_in (x := n) (n := 101) (by omega) (by grind [fB]) (by show n < 101; grind [fB])
        rw [show oLeft (hC S) b u (nI m) = itL ((1000 - decF (hC S) b).toInt64) u m by unfold oLeft; rw [if_pos ⟨⟨by grind [fB], by grind [fB]⟩, nI_pos' (by omega), (nI_leI (b := 100) (by omega) (by decide)).mpr (by omega)⟩, nI_clamp (by omega), kept_eq H]]
        exact lpX7_left (by omega) m 0 (by omega)
      · refine fV.run iX7_left_24_1 oX7_left_24_1 (pc' := 27) (L' := [(0, .ref 0), (1, .long u), (3, .int n)]) (st' := [.long (-1002)]) (S' := S) rfl trivial ?_
        exact fV.lret rfl dX7_left_27 ⟨by unfold oLeft; rw [if_neg (by grind [fB])], rfl⟩
def iX8_left_44_2 : List Instr := [.iload 8, .iload_n 3]
theorem oX8_left_44_2 : fOkB cX8_left 44 iX8_left_44_2 = true := by decide +kernel
theorem bX8_left_47 : fBk cX8_left 47 (.if_icmp .ge) 67 := ⟨20, by decide +kernel, by decide⟩
def iX8_left_67_1 : List Instr := [.lload 6]
theorem oX8_left_67_1 : fOkB cX8_left 67 iX8_left_67_1 = true := by decide +kernel
theorem dX8_left_69 : decode cX8_left 69 = .ok (.lreturn, 1) := by decide +kernel
def iX8_left_50_8 : List Instr := [.lload 6, .lload 4, .lmul, .ldc2_w 81, .ldiv, .lstore 6, .iinc 8 1, .goto (-20)]
theorem oX8_left_50_8 : fOkB cX8_left 50 iX8_left_50_8 = true := by decide +kernel
set_option maxRecDepth 100000 in
theorem lpX8_left {G : fG} {d : Nat} {S : fS} {u kp : Int64} {m : Nat} (hm : m ≤ 100) : ∀ (u9 i : Nat), i + u9 = m → fV G mX8_left (fZm G (d + 4) (fun r S' => r = some (.long (itL kp u m)) ∧ S' = S)) 44 [(0, .ref 36), (1, .long u), (3, .int (nI m)), (4, .long kp), (6, .long (itL kp u i)), (8, .int (nI i))] [] S := by
  intro u9
  induction u9 with
  | zero =>
    intro i  hik
    refine fV.run iX8_left_44_2 oX8_left_44_2 (pc' := 47) (L' := [(0, .ref 36), (1, .long u), (3, .int (nI m)), (4, .long kp), (6, .long (itL kp u i)), (8, .int (nI i))]) (st' := [.int (nI m), .int (nI i)]) (S' := S) rfl trivial ?_
    refine fV.icmp_ge bX8_left_47 (fun c47 => ?_) (fun c47 => ?_)
    · refine fV.run iX8_left_67_1 oX8_left_67_1 (pc' := 69) (L' := [(0, .ref 36), (1, .long u), (3, .int (nI m)), (4, .long kp), (6, .long (itL kp u i)), (8, .int (nI i))]) (st' := [.long (itL kp u i)]) (S' := S) rfl trivial ?_
      exact fV.lret rfl dX8_left_69 ⟨by rw [show i = m by omega], rfl⟩
    · exact absurd c47 (by rw [nI_leI (by omega) (by omega)]; omega)
  | succ u9 ih =>
    intro i  hik
    refine fV.run iX8_left_44_2 oX8_left_44_2 (pc' := 47) (L' := [(0, .ref 36), (1, .long u), (3, .int (nI m)), (4, .long kp), (6, .long (itL kp u i)), (8, .int (nI i))]) (st' := [.int (nI m), .int (nI i)]) (S' := S) rfl trivial ?_
    refine fV.icmp_ge bX8_left_47 (fun c47 => ?_) (fun c47 => ?_)
    · exact absurd c47 (by rw [nI_leI (by omega) (by omega)]; omega)
    · refine fV.run iX8_left_50_8 oX8_left_50_8 (pc' := 44) (L' := [(0, .ref 36), (1, .long u), (3, .int (nI m)), (4, .long kp), (6, .long (((itL kp u i) * kp) / 1000)), (8, .int ((nI i) + 1))]) (st' := []) (S' := S) (P := ¬ 1000 = 0 ∧ True) rfl ⟨(by decide), trivial⟩ ?_
      refine fV.to (L' := [(0, .ref 36), (1, .long u), (3, .int (nI m)), (4, .long kp), (6, .long (itL kp u (i + 1))), (8, .int (nI (i + 1)))]) rfl (by rw [← nI_1]; rfl) rfl rfl (ih (i + 1) (by omega))
def iX8_left_0_3 : List Instr := [.lload_n 1, .lconst 0, .ldc2_w 233]
theorem oX8_left_0_3 : fOkB cX8_left 0 iX8_left_0_3 = true := by decide +kernel
theorem dX8_left_5 : decode cX8_left 5 = .ok (.invokestatic 83, 3) := by decide +kernel
theorem bX8_left_8 : fBk cX8_left 8 (.ifCond .eq) 23 := ⟨15, by decide +kernel, by decide⟩
def iX8_left_23_1 : List Instr := [.ldc2_w 214]
theorem oX8_left_23_1 : fOkB cX8_left 23 iX8_left_23_1 = true := by decide +kernel
theorem dX8_left_26 : decode cX8_left 26 = .ok (.lreturn, 1) := by decide +kernel
def iX8_left_11_4 : List Instr := [.iload_n 3, .i2l, .lconst 0, .ldc2_w 87]
theorem oX8_left_11_4 : fOkB cX8_left 11 iX8_left_11_4 = true := by decide +kernel
theorem dX8_left_17 : decode cX8_left 17 = .ok (.invokestatic 83, 3) := by decide +kernel
theorem bX8_left_20 : fBk cX8_left 20 (.ifCond .ne) 27 := ⟨7, by decide +kernel, by decide⟩
def iX8_left_27_2 : List Instr := [.ldc2_w 81, .aload_n 0]
theorem oX8_left_27_2 : fOkB cX8_left 27 iX8_left_27_2 = true := by decide +kernel
theorem dX8_left_31 : decode cX8_left 31 = .ok (.invokevirtual 133, 3) := by decide +kernel
def iX8_left_34_7 : List Instr := [.i2l, .lsub, .lstore 4, .lload_n 1, .lstore 6, .iconst 0, .istore 8]
theorem oX8_left_34_7 : fOkB cX8_left 34 iX8_left_34_7 = true := by decide +kernel
set_option maxRecDepth 100000 in
theorem qX8_left {G : fG} {d : Nat} {S : fS} (u : Int64) (n : Int32) {a b c e : Nat} (H : hOk (hD S) a b c e) : fCtr G (d + 4) mX8_left [.ref 36, .long u, .int n] S (fun r S' => r = some (.long (oLeft (hD S) b u n)) ∧ S' = S) := by
  refine fCtr.of bXX8_left (Nat.le_of_ble_eq_true rfl) rfl ?_
  have hb : gI S 36 3 = nI b := H.2.1.1
  have hb16 : b ≤ 16 := H.2.1.2.1
  have ha8 : a ≤ 8 := H.1.2.2.1
  refine fV.run iX8_left_0_3 oX8_left_0_3 (pc' := 5) (L' := [(0, .ref 36), (1, .long u), (3, .int n)]) (st' := [.long 1000000000000, .long 0, .long u]) (S' := S) rfl trivial ?_
  refine fV.callS (M2 := mX8_in) (d := d + 3) (av := [.long u, .long 0, .long 1000000000000]) (rest := []) kX8_in dX8_left_5 lX8_83 rfl rfl (Nat.le_of_ble_eq_true rfl) (fRoom (by decide)) ⟨Nat.le_refl _, Nat.le_refl _⟩ (qX8_in _ _ _) ?_
  rintro _ S9 ⟨rfl, h9⟩
  rw [h9]
  clear h9 S9
  refine fV.to (pc' := 8) (L' := [(0, .ref 36), (1, .long u), (3, .int n)]) (st' := [.int (fB (decide (0 ≤ u ∧ u ≤ 1000000000000)))]) (S' := S) rfl rfl rfl rfl ?_
  refine fV.if_eq bX8_left_8 (fun c8 => ?_) (fun c8 => ?_)
  · refine fV.run iX8_left_23_1 oX8_left_23_1 (pc' := 26) (L' := [(0, .ref 36), (1, .long u), (3, .int n)]) (st' := [.long (-1002)]) (S' := S) rfl trivial ?_
    exact fV.lret rfl dX8_left_26 ⟨by unfold oLeft; rw [if_neg (by grind [fB])], rfl⟩
  · refine fV.run iX8_left_11_4 oX8_left_11_4 (pc' := 17) (L' := [(0, .ref 36), (1, .long u), (3, .int n)]) (st' := [.long 100, .long 0, .long (Int32.toInt64 n)]) (S' := S) rfl trivial ?_
    refine fV.callS (M2 := mX8_in) (d := d + 3) (av := [.long (Int32.toInt64 n), .long 0, .long 100]) (rest := []) kX8_in dX8_left_17 lX8_83 rfl rfl (Nat.le_of_ble_eq_true rfl) (fRoom (by decide)) ⟨Nat.le_refl _, Nat.le_refl _⟩ (qX8_inP _ _ _ (P := 0 ≤ n ∧ n ≤ 100) (and_congr (w_geN (by decide) _) (w_leN (by decide) _))) ?_
    rintro _ S9 ⟨rfl, h9⟩
    rw [h9]
    clear h9 S9
    refine fV.to (pc' := 20) (L' := [(0, .ref 36), (1, .long u), (3, .int n)]) (st' := [.int (fB (decide (0 ≤ n ∧ n ≤ 100)))]) (S' := S) rfl rfl rfl rfl ?_
    refine fV.if_ne bX8_left_20 (fun c20 => ?_) (fun c20 => ?_)
    · refine fV.run iX8_left_27_2 oX8_left_27_2 (pc' := 31) (L' := [(0, .ref 36), (1, .long u), (3, .int n)]) (st' := [.ref 36, .long 1000]) (S' := S) rfl trivial ?_
      refine fV.callV (M2 := mX8_decay) (d := d + 3) (o := 36) (av := []) (rest := [.long 1000]) kX8_decay dX8_left_31 lX8_133 rfl rfl rfl (Nat.le_of_ble_eq_true rfl) (fRoom (by decide)) ⟨Nat.le_refl _, Nat.le_refl _⟩ (qX8_dec H) ?_
      rintro _ S9 ⟨rfl, h9⟩
      rw [h9]
      clear h9 S9
      refine fV.to (pc' := 34) (L' := [(0, .ref 36), (1, .long u), (3, .int n)]) (st' := [.int (decF (hD S) b), .long 1000]) (S' := S) rfl rfl rfl rfl ?_
      refine fV.run iX8_left_34_7 oX8_left_34_7 (pc' := 44) (L' := [(0, .ref 36), (1, .long u), (3, .int n), (4, .long (1000 - (Int32.toInt64 (decF (hD S) b)))), (6, .long u), (8, .int 0)]) (st' := []) (S' := S) rfl trivial ?_
      obtain ⟨m, hm, rfl⟩ := n_in (x := n) (n := 101) (by omega) (by grind [fB]) (by show n < 101; grind [fB])
      rw [show oLeft (hD S) b u (nI m) = itL (1000 - (decF (hD S) b).toInt64) u m by unfold oLeft; rw [if_pos ⟨⟨by grind [fB], by grind [fB]⟩, nI_pos' (by omega), (nI_leI (b := 100) (by omega) (by decide)).mpr (by omega)⟩, nI_clamp (by omega)]]
      exact lpX8_left (by omega) m 0 (by omega)
    · refine fV.run iX8_left_23_1 oX8_left_23_1 (pc' := 26) (L' := [(0, .ref 36), (1, .long u), (3, .int n)]) (st' := [.long (-1002)]) (S' := S) rfl trivial ?_
      exact fV.lret rfl dX8_left_26 ⟨by unfold oLeft; rw [if_neg (by grind [fB])], rfl⟩
end
section
/-! geometry: mirrors, legs, fractions of the way -/
abbrev zP : Type := Int32 × Int32
def pA (g : Nat → Int32) (j : Nat) : zP := (g (2 * j), g (2 * j + 1))
def zS (en : Nat → Int32) (w : Nat) (p : zP) : Int32 := if en (4 * w) = en (4 * w + 2) then p.1 else p.2
def zO (en : Nat → Int32) (w : Nat) (p : zP) : Int32 := if en (4 * w) = en (4 * w + 2) then p.2 else p.1
def mirP (en : Nat → Int32) (w : Nat) (p : zP) : zP := if en (4 * w) = en (4 * w + 2) then (2 * hLine en w - p.1, p.2) else (p.1, 2 * hLine en w - p.2)
def zWy (en : Nat → Int32) (w : Nat) (E I : zP) : Int64 := (zS en w I - zS en w E).toInt64
def zTw (en : Nat → Int32) (w : Nat) (E : zP) : Int64 := (hLine en w - zS en w E).toInt64
def zWh (en : Nat → Int32) (w : Nat) (E I : zP) : Int64 := if 0 < zWy en w E I then zWy en w E I else -zWy en w E I
def zPt (en : Nat → Int32) (w : Nat) (E I : zP) : Int64 := if zWy en w E I < 0 then -zTw en w E else zTw en w E
def zPl (en : Nat → Int32) (w : Nat) (E I : zP) (n d : Int64) : Int64 := (zO en w E).toInt64 * d + ((zO en w I).toInt64 - (zO en w E).toInt64) * n
def zOn (en : Nat → Int32) (w : Nat) (E I : zP) (n d : Int64) : Prop := (hLow en w).toInt64 * d ≤ zPl en w E I n d ∧ zPl en w E I n d ≤ (hHigh en w).toInt64 * d
/-- there is a bounce on the leg from E to I, behind the fraction n1 / d1 -/
def zB (en : Nat → Int32) (w : Nat) (E I : zP) (n1 d1 : Int64) : Prop := (¬ zWh en w E I = 0 ∧ zPt en w E I < zWh en w E I ∧ n1 * zWh en w E I < zPt en w E I * d1) ∧ zOn en w E I (zPt en w E I) (zWh en w E I)
def zOv (en : Nat → Int32) (w : Nat) (E I : zP) (n1 d1 n0 d0 : Int64) : Prop := ¬ (zPl en w E I n1 d1 < (hLow en w).toInt64 * d1 ∧ zPl en w E I n0 d0 < (hLow en w).toInt64 * d0) ∧ ¬ ((hHigh en w).toInt64 * d1 < zPl en w E I n1 d1 ∧ (hHigh en w).toInt64 * d0 < zPl en w E I n0 d0)
/-- the stretch from the fraction n1 / d1 to n0 / d0 meets the wall -/
def zM (en : Nat → Int32) (w : Nat) (E I : zP) (n1 d1 n0 d0 : Int64) : Prop := (zWy en w E I = 0 ∧ zTw en w E = 0 ∧ zOv en w E I n1 d1 n0 d0) ∨ (¬ zWy en w E I = 0 ∧ ¬ zPt en w E I * d1 < n1 * zWh en w E I ∧ ¬ n0 * zWh en w E I < zPt en w E I * d0 ∧ zOn en w E I (zPt en w E I) (zWh en w E I))
theorem nI2 {j : Nat} : 2 * nI j = nI (2 * j) := by simp [nI, Int32.ofNat_mul]
theorem ix_s {en : Nat → Int32} {w j : Nat} (hj : j ≤ 3) (g : Nat → Int32) : g (2 * nI j + hAxI en w).toNatClampNeg = zS en w (pA g j) ∧ vp_in (2 * nI j + hAxI en w) 8 := by
  unfold hAxI zS pA
  by_cases h : en (4 * w) = en (4 * w + 2)
  · simp only [if_pos h]
    have e : 2 * nI j + 0 = nI (2 * j) := by simp [nI, Int32.ofNat_mul]
    rw [e, nI_clamp (by omega)]
    exact ⟨rfl, vp_in_nI (by omega) (by decide)⟩
  · simp only [if_neg h]
    have e : 2 * nI j + 1 = nI (2 * j + 1) := by simp [nI, Int32.ofNat_mul, Int32.ofNat_add]
    rw [e, nI_clamp (by omega)]
    exact ⟨rfl, vp_in_nI (by omega) (by decide)⟩
theorem ix_o {en : Nat → Int32} {w j : Nat} (hj : j ≤ 3) (g : Nat → Int32) : g (2 * nI j + 1 - hAxI en w).toNatClampNeg = zO en w (pA g j) ∧ vp_in (2 * nI j + 1 - hAxI en w) 8 := by
  unfold hAxI zO pA
  by_cases h : en (4 * w) = en (4 * w + 2)
  · simp only [if_pos h]
    have e : 2 * nI j + 1 - 0 = nI (2 * j + 1) := by simp [nI, Int32.ofNat_mul, Int32.ofNat_add]
    rw [e, nI_clamp (by omega)]
    exact ⟨rfl, vp_in_nI (by omega) (by decide)⟩
  · simp only [if_neg h]
    have e : 2 * nI j + 1 - 1 = nI (2 * j) := by rw [Int32.add_sub_cancel]; exact nI2
    rw [e, nI_clamp (by omega)]
    exact ⟨rfl, vp_in_nI (by omega) (by decide)⟩
theorem wA_wA (S : fS) (o : Nat) (f g : Nat → Int32) : wA (wA S o f) o g = wA S o g := by
  have : ∀ (h : Nat → Nat → Int32), fup (fup h o f) o g = fup h o g := fun h => by funext a; unfold fup; by_cases e : a = o <;> simp [e]
  unfold wA
  cases Nat.blt o 36 <;> simp only [cond_true, cond_false, this]
theorem wB_wB (S : fS) (o : Nat) (f g : Nat → Int64) : wB (wB S o f) o g = wB S o g := by
  have : ∀ (h : Nat → Nat → Int64), fup (fup h o f) o g = fup h o g := fun h => by funext a; unfold fup; by_cases e : a = o <;> simp [e]
  unfold wB
  cases Nat.blt o 36 <;> simp only [cond_true, cond_false, this]
def mirA (en : Nat → Int32) (w f t : Nat) (g : Nat → Int32) : Nat → Int32 := upd (upd g (2 * nI t + hAxI en w).toNatClampNeg (2 * hLine en w - zS en w (pA g f))) (2 * nI t + 1 - hAxI en w).toNatClampNeg (zO en w (pA g f))
theorem mirA_ix {en : Nat → Int32} {w t : Nat} (ht : t ≤ 3) : ((2 * nI t + hAxI en w).toNatClampNeg = if en (4 * w) = en (4 * w + 2) then 2 * t else 2 * t + 1) ∧ ((2 * nI t + 1 - hAxI en w).toNatClampNeg = if en (4 * w) = en (4 * w + 2) then 2 * t + 1 else 2 * t) := by
  unfold hAxI
  by_cases h : en (4 * w) = en (4 * w + 2)
  · simp only [if_pos h]
    have e : 2 * nI t + 0 = nI (2 * t) := by simp [nI, Int32.ofNat_mul]
    have e2 : 2 * nI t + 1 - 0 = nI (2 * t + 1) := by simp [nI, Int32.ofNat_mul, Int32.ofNat_add]
    rw [e, e2, nI_clamp (by omega), nI_clamp (by omega)]
    exact ⟨rfl, rfl⟩
  · simp only [if_neg h]
    have e : 2 * nI t + 1 = nI (2 * t + 1) := by simp [nI, Int32.ofNat_mul, Int32.ofNat_add]
    have e2 : 2 * nI t + 1 - 1 = nI (2 * t) := by rw [Int32.add_sub_cancel]; exact nI2
    rw [e2, e, nI_clamp (by omega), nI_clamp (by omega)]
    exact ⟨rfl, rfl⟩
theorem mirA_at {en : Nat → Int32} {w f t : Nat} (ht : t ≤ 3) (g : Nat → Int32) : pA (mirA en w f t g) t = mirP en w (pA g f) := by
  obtain ⟨e1, e2⟩ := mirA_ix (en := en) (w := w) ht
  unfold mirA
  rw [e1, e2]
  unfold mirP zS zO
  by_cases h : en (4 * w) = en (4 * w + 2)
  · simp only [if_pos h]
    simp [pA, upd]
  · simp only [if_neg h]
    simp [pA, upd]
theorem mirA_ne {en : Nat → Int32} {w f t j : Nat} (ht : t ≤ 3) (hj : j ≠ t) (g : Nat → Int32) : pA (mirA en w f t g) j = pA g j := by
  obtain ⟨e1, e2⟩ := mirA_ix (en := en) (w := w) ht
  unfold mirA
  rw [e1, e2]
  unfold pA
  by_cases h : en (4 * w) = en (4 * w + 2)
  · simp only [if_pos h]
    rw [upd_ne (by omega), upd_ne (by omega), upd_ne (by omega), upd_ne (by omega)]
  · simp only [if_neg h]
    rw [upd_ne (by omega), upd_ne (by omega), upd_ne (by omega), upd_ne (by omega)]
theorem geo_ax {S : fS} {b w : Nat} (HG : hGeo S b) (hw : w < b) (hb : b ≤ 16) : gA S 7 (nI w).toNatClampNeg = hAxI (gA S 5) w := by rw [nI_clamp (by omega)]; exact (HG w hw).1
theorem geo_ln {S : fS} {b w : Nat} (HG : hGeo S b) (hw : w < b) (hb : b ≤ 16) : gA S 8 (nI w).toNatClampNeg = hLine (gA S 5) w := by rw [nI_clamp (by omega)]; exact (HG w hw).2.1
theorem geo_lo {S : fS} {b w : Nat} (HG : hGeo S b) (hw : w < b) (hb : b ≤ 16) : gA S 9 (nI w).toNatClampNeg = hLow (gA S 5) w := by rw [nI_clamp (by omega)]; exact (HG w hw).2.2.1
theorem geo_hi {S : fS} {b w : Nat} (HG : hGeo S b) (hw : w < b) (hb : b ≤ 16) : gA S 10 (nI w).toNatClampNeg = hHigh (gA S 5) w := by rw [nI_clamp (by omega)]; exact (HG w hw).2.2.2
theorem mir_rd {en : Nat → Int32} {w f t : Nat} (ht : t ≤ 3) {g : Nat → Int32} {x : Int32} : zO en w (pA (upd g (2 * nI t + hAxI en w).toNatClampNeg x) f) = zO en w (pA g f) := by
  rw [(mirA_ix ht).1]
  unfold zO pA
  by_cases h : en (4 * w) = en (4 * w + 2)
  · simp only [if_pos h]; rw [upd_ne (by omega)]
  · simp only [if_neg h]; rw [upd_ne (by omega)]
def iX3_mirror_0_5 : List Instr := [.aload 4, .getfield 42, .iload_n 3, .iaload, .istore 5]
theorem oX3_mirror_0_5 : fOkB cX3_mirror 0 iX3_mirror_0_5 = true := by decide +kernel
def iX3_mirror_9_39 : List Instr := [.aload_n 0, .iconst 2, .iload_n 2, .imul, .iload 5, .iadd, .iconst 2, .aload 4, .getfield 47, .iload_n 3, .iaload, .imul, .aload_n 0, .iconst 2, .iload_n 1, .imul, .iload 5, .iadd, .iaload, .isub, .iastore, .aload_n 0, .iconst 2, .iload_n 2, .imul, .iconst 1, .iadd, .iload 5, .isub, .aload_n 0, .iconst 2, .iload_n 1, .imul, .iconst 1, .iadd, .iload 5, .isub, .iaload, .iastore]
theorem oX3_mirror_9_39 : fOkB cX3_mirror 9 iX3_mirror_9_39 = true := by decide +kernel
theorem dX3_mirror_55 : decode cX3_mirror 55 = .ok (.return_, 1) := by decide +kernel
set_option maxRecDepth 100000 in
theorem qMir_20 {G : fG} {d : Nat} {S : fS} {b w f t : Nat} (HG : hGeo S b) (hw : w < b) (hb : b ≤ 16) (hf : f ≤ 3) (ht : t ≤ 3)  : fCtr G (d) mX3_mirror [.ref 20, .int (nI f), .int (nI t), .int (nI w), .ref 4] S (fun r S' => r = none ∧ S' = wA S 20 (mirA (gA S 5) w f t (gA S 20))) := by
  refine fCtr.of bXX3_mirror (Nat.le_of_ble_eq_true rfl) rfl ?_
  refine fV.run iX3_mirror_0_5 oX3_mirror_0_5 (pc' := 9) (L' := [(0, .ref 20), (1, .int (nI f)), (2, .int (nI t)), (3, .int (nI w)), (4, .ref 4), (5, .int (gA S 7 (nI w).toNatClampNeg))]) (st' := []) (S' := S) (P := vp_in (nI w) 16 ∧ True) rfl ⟨(vp_in_nI (show w < 16 by omega) (by decide)), trivial⟩ ?_
  refine fV.to (L' := [(0, .ref 20), (1, .int (nI f)), (2, .int (nI t)), (3, .int (nI w)), (4, .ref 4), (5, .int (hAxI (gA S 5) w))]) (st' := []) rfl (by rw [show (gA S 7 (nI w).toNatClampNeg : Int32) = hAxI (gA S 5) w from geo_ax HG hw hb]) rfl rfl ?_
  refine fV.run iX3_mirror_9_39 oX3_mirror_9_39 (pc' := 55) (L' := [(0, .ref 20), (1, .int (nI f)), (2, .int (nI t)), (3, .int (nI w)), (4, .ref 4), (5, .int (hAxI (gA S 5) w))]) (st' := []) (S' := (wA (wA S 20 (upd (gA S 20) ((2 * (nI t)) + (hAxI (gA S 5) w)).toNatClampNeg ((2 * (gA S 8 (nI w).toNatClampNeg)) - (gA S 20 ((2 * (nI f)) + (hAxI (gA S 5) w)).toNatClampNeg)))) 20 (upd (upd (gA S 20) ((2 * (nI t)) + (hAxI (gA S 5) w)).toNatClampNeg ((2 * (gA S 8 (nI w).toNatClampNeg)) - (gA S 20 ((2 * (nI f)) + (hAxI (gA S 5) w)).toNatClampNeg))) (((2 * (nI t)) + 1) - (hAxI (gA S 5) w)).toNatClampNeg ((upd (gA S 20) ((2 * (nI t)) + (hAxI (gA S 5) w)).toNatClampNeg ((2 * (gA S 8 (nI w).toNatClampNeg)) - (gA S 20 ((2 * (nI f)) + (hAxI (gA S 5) w)).toNatClampNeg))) (((2 * (nI f)) + 1) - (hAxI (gA S 5) w)).toNatClampNeg)))) (P := vp_in (nI w) 16 ∧ vp_in ((2 * (nI f)) + (hAxI (gA S 5) w)) 8 ∧ vp_in ((2 * (nI t)) + (hAxI (gA S 5) w)) 8 ∧ vp_in (((2 * (nI f)) + 1) - (hAxI (gA S 5) w)) 8 ∧ vp_in (((2 * (nI t)) + 1) - (hAxI (gA S 5) w)) 8 ∧ True) rfl ⟨(vp_in_nI (show w < 16 by omega) (by decide)), (ix_s hf (gA S 20)).2, (ix_s ht (gA S 20)).2, (ix_o hf (gA S 20)).2, (ix_o ht (gA S 20)).2, trivial⟩ ?_
  exact fV.vret rfl dX3_mirror_55 ⟨rfl, by rw [wA_wA, geo_ln HG hw hb, (ix_s hf (gA S 20)).1, (ix_o hf (upd (gA S 20) (2 * nI t + hAxI (gA S 5) w).toNatClampNeg (2 * hLine (gA S 5) w - zS (gA S 5) w (pA (gA S 20) f)))).1, mir_rd ht]; rfl⟩
set_option maxRecDepth 100000 in
theorem qMir_21 {G : fG} {d : Nat} {S : fS} {b w f t : Nat} (HG : hGeo S b) (hw : w < b) (hb : b ≤ 16) (hf : f ≤ 3) (ht : t ≤ 3)  : fCtr G (d) mX3_mirror [.ref 21, .int (nI f), .int (nI t), .int (nI w), .ref 4] S (fun r S' => r = none ∧ S' = wA S 21 (mirA (gA S 5) w f t (gA S 21))) := by
  refine fCtr.of bXX3_mirror (Nat.le_of_ble_eq_true rfl) rfl ?_
  refine fV.run iX3_mirror_0_5 oX3_mirror_0_5 (pc' := 9) (L' := [(0, .ref 21), (1, .int (nI f)), (2, .int (nI t)), (3, .int (nI w)), (4, .ref 4), (5, .int (gA S 7 (nI w).toNatClampNeg))]) (st' := []) (S' := S) (P := vp_in (nI w) 16 ∧ True) rfl ⟨(vp_in_nI (show w < 16 by omega) (by decide)), trivial⟩ ?_
  refine fV.to (L' := [(0, .ref 21), (1, .int (nI f)), (2, .int (nI t)), (3, .int (nI w)), (4, .ref 4), (5, .int (hAxI (gA S 5) w))]) (st' := []) rfl (by rw [show (gA S 7 (nI w).toNatClampNeg : Int32) = hAxI (gA S 5) w from geo_ax HG hw hb]) rfl rfl ?_
  refine fV.run iX3_mirror_9_39 oX3_mirror_9_39 (pc' := 55) (L' := [(0, .ref 21), (1, .int (nI f)), (2, .int (nI t)), (3, .int (nI w)), (4, .ref 4), (5, .int (hAxI (gA S 5) w))]) (st' := []) (S' := (wA (wA S 21 (upd (gA S 21) ((2 * (nI t)) + (hAxI (gA S 5) w)).toNatClampNeg ((2 * (gA S 8 (nI w).toNatClampNeg)) - (gA S 21 ((2 * (nI f)) + (hAxI (gA S 5) w)).toNatClampNeg)))) 21 (upd (upd (gA S 21) ((2 * (nI t)) + (hAxI (gA S 5) w)).toNatClampNeg ((2 * (gA S 8 (nI w).toNatClampNeg)) - (gA S 21 ((2 * (nI f)) + (hAxI (gA S 5) w)).toNatClampNeg))) (((2 * (nI t)) + 1) - (hAxI (gA S 5) w)).toNatClampNeg ((upd (gA S 21) ((2 * (nI t)) + (hAxI (gA S 5) w)).toNatClampNeg ((2 * (gA S 8 (nI w).toNatClampNeg)) - (gA S 21 ((2 * (nI f)) + (hAxI (gA S 5) w)).toNatClampNeg))) (((2 * (nI f)) + 1) - (hAxI (gA S 5) w)).toNatClampNeg)))) (P := vp_in (nI w) 16 ∧ vp_in ((2 * (nI f)) + (hAxI (gA S 5) w)) 8 ∧ vp_in ((2 * (nI t)) + (hAxI (gA S 5) w)) 8 ∧ vp_in (((2 * (nI f)) + 1) - (hAxI (gA S 5) w)) 8 ∧ vp_in (((2 * (nI t)) + 1) - (hAxI (gA S 5) w)) 8 ∧ True) rfl ⟨(vp_in_nI (show w < 16 by omega) (by decide)), (ix_s hf (gA S 21)).2, (ix_s ht (gA S 21)).2, (ix_o hf (gA S 21)).2, (ix_o ht (gA S 21)).2, trivial⟩ ?_
  exact fV.vret rfl dX3_mirror_55 ⟨rfl, by rw [wA_wA, geo_ln HG hw hb, (ix_s hf (gA S 21)).1, (ix_o hf (upd (gA S 21) (2 * nI t + hAxI (gA S 5) w).toNatClampNeg (2 * hLine (gA S 5) w - zS (gA S 5) w (pA (gA S 21) f)))).1, mir_rd ht]; rfl⟩
theorem qMirE_20 {G : fG} {d : Nat} {S : fS} {b w f t : Nat} {x y z : Int32} (HG : hGeo S b) (hw : w < b) (hb : b ≤ 16) (hf : f ≤ 3) (ht : t ≤ 3) (e1 : x = nI f) (e2 : y = nI t) (e3 : z = nI w) : fCtr G d mX3_mirror [.ref 20, .int x, .int y, .int z, .ref 4] S (fun r S' => r = none ∧ S' = wA S 20 (mirA (gA S 5) w f t (gA S 20))) := by
  subst e1; subst e2; subst e3; exact qMir_20 HG hw hb hf ht
theorem qMirE_21 {G : fG} {d : Nat} {S : fS} {b w f t : Nat} {x y z : Int32} (HG : hGeo S b) (hw : w < b) (hb : b ≤ 16) (hf : f ≤ 3) (ht : t ≤ 3) (e1 : x = nI f) (e2 : y = nI t) (e3 : z = nI w) : fCtr G d mX3_mirror [.ref 21, .int x, .int y, .int z, .ref 4] S (fun r S' => r = none ∧ S' = wA S 21 (mirA (gA S 5) w f t (gA S 21))) := by
  subst e1; subst e2; subst e3; exact qMir_21 HG hw hb hf ht
def iX3_sidewaysAt_0_33 : List Instr := [.aload_n 0, .getfield 18, .iconst 2, .iload_n 1, .imul, .iconst 1, .iadd, .iload_n 2, .isub, .iaload, .i2l, .lstore 7, .aload_n 0, .getfield 15, .iconst 2, .iload_n 1, .imul, .iconst 1, .iadd, .iload_n 2, .isub, .iaload, .i2l, .lstore 9, .lload 7, .lload 5, .lmul, .lload 9, .lload 7, .lsub, .lload_n 3, .lmul, .ladd]
theorem oX3_sidewaysAt_0_33 : fOkB cX3_sidewaysAt 0 iX3_sidewaysAt_0_33 = true := by decide +kernel
theorem dX3_sidewaysAt_43 : decode cX3_sidewaysAt 43 = .ok (.lreturn, 1) := by decide +kernel
set_option maxRecDepth 100000 in
theorem qX3_side {G : fG} {d : Nat} {S : fS} {w j : Nat} (n q : Int64) (hj : j ≤ 3)  : fCtr G (d) mX3_sidewaysAt [.ref 18, .int (nI j), .int (hAxI (gA S 5) w), .long n, .long q] S (fun r S' => r = some (.long (zPl (gA S 5) w (pA (gA S 21) j) (pA (gA S 20) j) n q)) ∧ S' = S) := by
  refine fCtr.of bXX3_sidewaysAt (Nat.le_of_ble_eq_true rfl) rfl ?_
  refine fV.run iX3_sidewaysAt_0_33 oX3_sidewaysAt_0_33 (pc' := 43) (L' := [(0, .ref 18), (1, .int (nI j)), (2, .int (hAxI (gA S 5) w)), (3, .long n), (5, .long q), (7, .long (Int32.toInt64 (gA S 21 (((2 * (nI j)) + 1) - (hAxI (gA S 5) w)).toNatClampNeg))), (9, .long (Int32.toInt64 (gA S 20 (((2 * (nI j)) + 1) - (hAxI (gA S 5) w)).toNatClampNeg)))]) (st' := [.long (((Int32.toInt64 (gA S 21 (((2 * (nI j)) + 1) - (hAxI (gA S 5) w)).toNatClampNeg)) * q) + (((Int32.toInt64 (gA S 20 (((2 * (nI j)) + 1) - (hAxI (gA S 5) w)).toNatClampNeg)) - (Int32.toInt64 (gA S 21 (((2 * (nI j)) + 1) - (hAxI (gA S 5) w)).toNatClampNeg))) * n))]) (S' := S) (P := vp_in (((2 * (nI j)) + 1) - (hAxI (gA S 5) w)) 8 ∧ vp_in (((2 * (nI j)) + 1) - (hAxI (gA S 5) w)) 8 ∧ True) rfl ⟨(ix_o hj (gA S 20)).2, (ix_o hj (gA S 20)).2, trivial⟩ ?_
  exact fV.lret rfl dX3_sidewaysAt_43 ⟨by rw [(ix_o hj (gA S 21)).1, (ix_o hj (gA S 20)).1]; rfl, rfl⟩
def iX3_isOnWall_0_6 : List Instr := [.aload_n 0, .iload_n 1, .aload 7, .getfield 42, .iload_n 2, .iaload]
theorem oX3_isOnWall_0_6 : fOkB cX3_isOnWall 0 iX3_isOnWall_0_6 = true := by decide +kernel
def iX3_isOnWall_9_2 : List Instr := [.lload_n 3, .lload 5]
theorem oX3_isOnWall_9_2 : fOkB cX3_isOnWall 9 iX3_isOnWall_9_2 = true := by decide +kernel
set_option maxRecDepth 100000 in
theorem lX3_64 : Cond.methodLink RX3 64 yX3_sidewaysAt ∈ fTB := fTB_at 461 rfl rfl
theorem dX3_isOnWall_12 : decode cX3_isOnWall 12 = .ok (.invokevirtual 64, 3) := by decide +kernel
def iX3_isOnWall_15_7 : List Instr := [.lstore 8, .lload 8, .aload 7, .getfield 68, .iload_n 2, .iaload, .i2l]
theorem oX3_isOnWall_15_7 : fOkB cX3_isOnWall 15 iX3_isOnWall_15_7 = true := by decide +kernel
def iX3_isOnWall_27_3 : List Instr := [.lload 5, .lmul, .lcmp]
theorem oX3_isOnWall_27_3 : fOkB cX3_isOnWall 27 iX3_isOnWall_27_3 = true := by decide +kernel
theorem bX3_isOnWall_31 : fBk cX3_isOnWall 31 (.ifCond .lt) 55 := ⟨24, by decide +kernel, by decide⟩
def iX3_isOnWall_55_1 : List Instr := [.iconst 0]
theorem oX3_isOnWall_55_1 : fOkB cX3_isOnWall 55 iX3_isOnWall_55_1 = true := by decide +kernel
theorem dX3_isOnWall_56 : decode cX3_isOnWall 56 = .ok (.ireturn, 1) := by decide +kernel
def iX3_isOnWall_34_6 : List Instr := [.lload 8, .aload 7, .getfield 71, .iload_n 2, .iaload, .i2l]
theorem oX3_isOnWall_34_6 : fOkB cX3_isOnWall 34 iX3_isOnWall_34_6 = true := by decide +kernel
def iX3_isOnWall_44_3 : List Instr := [.lload 5, .lmul, .lcmp]
theorem oX3_isOnWall_44_3 : fOkB cX3_isOnWall 44 iX3_isOnWall_44_3 = true := by decide +kernel
theorem bX3_isOnWall_48 : fBk cX3_isOnWall 48 (.ifCond .gt) 55 := ⟨7, by decide +kernel, by decide⟩
def iX3_isOnWall_51_2 : List Instr := [.iconst 1, .goto 4]
theorem oX3_isOnWall_51_2 : fOkB cX3_isOnWall 51 iX3_isOnWall_51_2 = true := by decide +kernel
set_option maxRecDepth 100000 in
theorem qX3_on {G : fG} {d : Nat} {S : fS} {b w j : Nat} (HG : hGeo S b) (hw : w < b) (hb : b ≤ 16) (hj : j ≤ 3) (n q : Int64)  : fCtr G (d + 1) mX3_isOnWall [.ref 18, .int (nI j), .int (nI w), .long n, .long q, .ref 4] S (fun r S' => (zOn (gA S 5) w (pA (gA S 21) j) (pA (gA S 20) j) n q ∧ r = some (.int 1) ∧ S' = S) ∨ (¬ zOn (gA S 5) w (pA (gA S 21) j) (pA (gA S 20) j) n q ∧ r = some (.int 0) ∧ S' = S)) := by
  refine fCtr.of bXX3_isOnWall (Nat.le_of_ble_eq_true rfl) rfl ?_
  refine fV.run iX3_isOnWall_0_6 oX3_isOnWall_0_6 (pc' := 9) (L' := [(0, .ref 18), (1, .int (nI j)), (2, .int (nI w)), (3, .long n), (5, .long q), (7, .ref 4)]) (st' := [.int (gA S 7 (nI w).toNatClampNeg), .int (nI j), .ref 18]) (S' := S) (P := vp_in (nI w) 16 ∧ True) rfl ⟨(vp_in_nI (show w < 16 by omega) (by decide)), trivial⟩ ?_
  refine fV.to (L' := [(0, .ref 18), (1, .int (nI j)), (2, .int (nI w)), (3, .long n), (5, .long q), (7, .ref 4)]) (st' := [.int (hAxI (gA S 5) w), .int (nI j), .ref 18]) rfl rfl (by rw [show (gA S 7 (nI w).toNatClampNeg : Int32) = hAxI (gA S 5) w from geo_ax HG hw hb]) rfl ?_
  refine fV.run iX3_isOnWall_9_2 oX3_isOnWall_9_2 (pc' := 12) (L' := [(0, .ref 18), (1, .int (nI j)), (2, .int (nI w)), (3, .long n), (5, .long q), (7, .ref 4)]) (st' := [.long q, .long n, .int (hAxI (gA S 5) w), .int (nI j), .ref 18]) (S' := S) rfl trivial ?_
  refine fV.callV (M2 := mX3_sidewaysAt) (d := d) (o := 18) (av := [.int (nI j), .int (hAxI (gA S 5) w), .long n, .long q]) (rest := []) kX3_sidewaysAt dX3_isOnWall_12 lX3_64 rfl rfl rfl (Nat.le_of_ble_eq_true rfl) (fRoom (by decide)) ⟨Nat.le_refl _, Nat.le_refl _⟩ (qX3_side _ _ hj) ?_
  rintro _ S9 ⟨rfl, h9⟩
  rw [h9]
  clear h9 S9
  refine fV.to (pc' := 15) (L' := [(0, .ref 18), (1, .int (nI j)), (2, .int (nI w)), (3, .long n), (5, .long q), (7, .ref 4)]) (st' := [.long (zPl (gA S 5) w (pA (gA S 21) j) (pA (gA S 20) j) n q)]) (S' := S) rfl rfl rfl rfl ?_
  refine fV.run iX3_isOnWall_15_7 oX3_isOnWall_15_7 (pc' := 27) (L' := [(0, .ref 18), (1, .int (nI j)), (2, .int (nI w)), (3, .long n), (5, .long q), (7, .ref 4), (8, .long (zPl (gA S 5) w (pA (gA S 21) j) (pA (gA S 20) j) n q))]) (st' := [.long (Int32.toInt64 (gA S 9 (nI w).toNatClampNeg)), .long (zPl (gA S 5) w (pA (gA S 21) j) (pA (gA S 20) j) n q)]) (S' := S) (P := vp_in (nI w) 16 ∧ True) rfl ⟨(vp_in_nI (show w < 16 by omega) (by decide)), trivial⟩ ?_
  refine fV.to (L' := [(0, .ref 18), (1, .int (nI j)), (2, .int (nI w)), (3, .long n), (5, .long q), (7, .ref 4), (8, .long (zPl (gA S 5) w (pA (gA S 21) j) (pA (gA S 20) j) n q))]) (st' := [.long (Int32.toInt64 (hLow (gA S 5) w)), .long (zPl (gA S 5) w (pA (gA S 21) j) (pA (gA S 20) j) n q)]) rfl rfl (by rw [show (Int32.toInt64 (gA S 9 (nI w).toNatClampNeg) : Int64) = Int32.toInt64 (hLow (gA S 5) w) from by rw [geo_lo HG hw hb]]) rfl ?_
  refine fV.run iX3_isOnWall_27_3 oX3_isOnWall_27_3 (pc' := 31) (L' := [(0, .ref 18), (1, .int (nI j)), (2, .int (nI w)), (3, .long n), (5, .long q), (7, .ref 4), (8, .long (zPl (gA S 5) w (pA (gA S 21) j) (pA (gA S 20) j) n q))]) (st' := [.int (lg_cmp (zPl (gA S 5) w (pA (gA S 21) j) (pA (gA S 20) j) n q) ((Int32.toInt64 (hLow (gA S 5) w)) * q))]) (S' := S) rfl trivial ?_
  refine fV.lif_lt bX3_isOnWall_31 (fun c31 => ?_) (fun c31 => ?_)
  · refine fV.run iX3_isOnWall_55_1 oX3_isOnWall_55_1 (pc' := 56) (L' := [(0, .ref 18), (1, .int (nI j)), (2, .int (nI w)), (3, .long n), (5, .long q), (7, .ref 4), (8, .long (zPl (gA S 5) w (pA (gA S 21) j) (pA (gA S 20) j) n q))]) (st' := [.int 0]) (S' := S) rfl trivial ?_
    exact fV.zret rfl dX3_isOnWall_56 (by decide) (Or.inr ⟨by unfold zOn; grind, rfl, rfl⟩)
  · refine fV.run iX3_isOnWall_34_6 oX3_isOnWall_34_6 (pc' := 44) (L' := [(0, .ref 18), (1, .int (nI j)), (2, .int (nI w)), (3, .long n), (5, .long q), (7, .ref 4), (8, .long (zPl (gA S 5) w (pA (gA S 21) j) (pA (gA S 20) j) n q))]) (st' := [.long (Int32.toInt64 (gA S 10 (nI w).toNatClampNeg)), .long (zPl (gA S 5) w (pA (gA S 21) j) (pA (gA S 20) j) n q)]) (S' := S) (P := vp_in (nI w) 16 ∧ True) rfl ⟨(vp_in_nI (show w < 16 by omega) (by decide)), trivial⟩ ?_
    refine fV.to (L' := [(0, .ref 18), (1, .int (nI j)), (2, .int (nI w)), (3, .long n), (5, .long q), (7, .ref 4), (8, .long (zPl (gA S 5) w (pA (gA S 21) j) (pA (gA S 20) j) n q))]) (st' := [.long (Int32.toInt64 (hHigh (gA S 5) w)), .long (zPl (gA S 5) w (pA (gA S 21) j) (pA (gA S 20) j) n q)]) rfl rfl (by rw [show (Int32.toInt64 (gA S 10 (nI w).toNatClampNeg) : Int64) = Int32.toInt64 (hHigh (gA S 5) w) from by rw [geo_hi HG hw hb]]) rfl ?_
    refine fV.run iX3_isOnWall_44_3 oX3_isOnWall_44_3 (pc' := 48) (L' := [(0, .ref 18), (1, .int (nI j)), (2, .int (nI w)), (3, .long n), (5, .long q), (7, .ref 4), (8, .long (zPl (gA S 5) w (pA (gA S 21) j) (pA (gA S 20) j) n q))]) (st' := [.int (lg_cmp (zPl (gA S 5) w (pA (gA S 21) j) (pA (gA S 20) j) n q) ((Int32.toInt64 (hHigh (gA S 5) w)) * q))]) (S' := S) rfl trivial ?_
    refine fV.lif_gt bX3_isOnWall_48 (fun c48 => ?_) (fun c48 => ?_)
    · refine fV.run iX3_isOnWall_55_1 oX3_isOnWall_55_1 (pc' := 56) (L' := [(0, .ref 18), (1, .int (nI j)), (2, .int (nI w)), (3, .long n), (5, .long q), (7, .ref 4), (8, .long (zPl (gA S 5) w (pA (gA S 21) j) (pA (gA S 20) j) n q))]) (st' := [.int 0]) (S' := S) rfl trivial ?_
      exact fV.zret rfl dX3_isOnWall_56 (by decide) (Or.inr ⟨by unfold zOn; grind, rfl, rfl⟩)
    · refine fV.run iX3_isOnWall_51_2 oX3_isOnWall_51_2 (pc' := 56) (L' := [(0, .ref 18), (1, .int (nI j)), (2, .int (nI w)), (3, .long n), (5, .long q), (7, .ref 4), (8, .long (zPl (gA S 5) w (pA (gA S 21) j) (pA (gA S 20) j) n q))]) (st' := [.int 1]) (S' := S) rfl trivial ?_
      exact fV.zret rfl dX3_isOnWall_56 (by decide) (Or.inl ⟨⟨Int64.not_lt.mp c31, Int64.not_lt.mp c48⟩, rfl, rfl⟩)
end
section
/-! a bounce, a meeting -/
theorem cj {j : Nat} (h : j ≤ 100) : (nI j).toNatClampNeg = j ∧ (nI j + 1).toNatClampNeg = j + 1 := ⟨nI_clamp (by omega), by rw [nI_1, nI_clamp (by omega)]⟩
theorem vj {j n : Nat} (h : j + 1 < n) (hn : n ≤ 10000) : vp_in (nI j) n ∧ vp_in (nI j + 1) n := ⟨vp_in_nI (by omega) (by omega), by rw [nI_1]; exact vp_in_nI h (by omega)⟩
theorem geo_wB {S : fS} {b o : Nat} {g : Nat → Int64} (h : hGeo S b) : hGeo (wB S o g) b := by unfold hGeo at h ⊢; simp only [gA_wB]; exact h
theorem geo_wI {S : fS} {b o k : Nat} {x : Int32} (h : hGeo S b) : hGeo (wI S o k x) b := by unfold hGeo at h ⊢; simp only [gA_wI]; exact h
theorem geo_wJ {S : fS} {b o k : Nat} {x : Int64} (h : hGeo S b) : hGeo (wJ S o k x) b := by unfold hGeo at h ⊢; simp only [gA_wJ]; exact h
theorem geo_wA {S : fS} {b o : Nat} {g : Nat → Int32} (ho : ¬ (o = 5 ∨ o = 7 ∨ o = 8 ∨ o = 9 ∨ o = 10)) (h : hGeo S b) : hGeo (wA S o g) b := by
  unfold hGeo at h ⊢
  simp only [gA_wA]
  rw [if_neg (by omega), if_neg (by omega), if_neg (by omega), if_neg (by omega), if_neg (by omega)]
  exact h
/-- the state with a bounce's fraction noted -/
def sB (S : fS) (j : Nat) (n q : Int64) : fS := wB (wB S 22 (vp_updL (gB S 22) j n)) 23 (vp_updL (gB S 23) j q)
def iX3_setBounce_0_5 : List Instr := [.aload_n 3, .getfield 42, .iload_n 2, .iaload, .istore 4]
theorem oX3_setBounce_0_5 : fOkB cX3_setBounce 0 iX3_setBounce_0_5 = true := by decide +kernel
def iX3_setBounce_8_19 : List Instr := [.aload_n 0, .getfield 15, .iconst 2, .iload_n 1, .imul, .iload 4, .iadd, .iaload, .aload_n 0, .getfield 18, .iconst 2, .iload_n 1, .imul, .iload 4, .iadd, .iaload, .isub, .i2l, .lstore 5]
theorem oX3_setBounce_8_19 : fOkB cX3_setBounce 8 iX3_setBounce_8_19 = true := by decide +kernel
def iX3_setBounce_34_15 : List Instr := [.aload_n 3, .getfield 47, .iload_n 2, .iaload, .aload_n 0, .getfield 18, .iconst 2, .iload_n 1, .imul, .iload 4, .iadd, .iaload, .isub, .i2l, .lstore 7]
theorem oX3_setBounce_34_15 : fOkB cX3_setBounce 34 iX3_setBounce_34_15 = true := by decide +kernel
def iX3_setBounce_55_1 : List Instr := [.lload 5]
theorem oX3_setBounce_55_1 : fOkB cX3_setBounce 55 iX3_setBounce_55_1 = true := by decide +kernel
set_option maxRecDepth 100000 in
theorem lX3_54 : Cond.methodLink RX3 54 yJ9_abs_067f4 ∈ fTB := fTB_at 454 rfl rfl
theorem dX3_setBounce_57 : decode cX3_setBounce 57 = .ok (.invokestatic 54, 3) := by decide +kernel
def iX3_setBounce_60_1 : List Instr := [.lstore 9]
theorem oX3_setBounce_60_1 : fOkB cX3_setBounce 60 iX3_setBounce_60_1 = true := by decide +kernel
def iX3_setBounce_62_3 : List Instr := [.lload 5, .lconst 0, .lcmp]
theorem oX3_setBounce_62_3 : fOkB cX3_setBounce 62 iX3_setBounce_62_3 = true := by decide +kernel
theorem bX3_setBounce_66 : fBk cX3_setBounce 66 (.ifCond .ge) 75 := ⟨9, by decide +kernel, by decide⟩
def iX3_setBounce_75_2 : List Instr := [.lload 7, .lstore 11]
theorem oX3_setBounce_75_2 : fOkB cX3_setBounce 75 iX3_setBounce_75_2 = true := by decide +kernel
def iX3_setBounce_79_3 : List Instr := [.lload 9, .lconst 0, .lcmp]
theorem oX3_setBounce_79_3 : fOkB cX3_setBounce 79 iX3_setBounce_79_3 = true := by decide +kernel
theorem bX3_setBounce_83 : fBk cX3_setBounce 83 (.ifCond .ne) 90 := ⟨7, by decide +kernel, by decide⟩
def iX3_setBounce_90_5 : List Instr := [.iconst 0, .istore 13, .lload 11, .lload 9, .lcmp]
theorem oX3_setBounce_90_5 : fOkB cX3_setBounce 90 iX3_setBounce_90_5 = true := by decide +kernel
theorem bX3_setBounce_98 : fBk cX3_setBounce 98 (.ifCond .lt) 105 := ⟨7, by decide +kernel, by decide⟩
def iX3_setBounce_105_9 : List Instr := [.iconst 0, .istore 14, .lload 11, .aload_n 0, .getfield 25, .iload_n 1, .iconst 1, .iadd, .laload]
theorem oX3_setBounce_105_9 : fOkB cX3_setBounce 105 iX3_setBounce_105_9 = true := by decide +kernel
def iX3_setBounce_118_7 : List Instr := [.lmul, .aload_n 0, .getfield 21, .iload_n 1, .iconst 1, .iadd, .laload]
theorem oX3_setBounce_118_7 : fOkB cX3_setBounce 118 iX3_setBounce_118_7 = true := by decide +kernel
def iX3_setBounce_127_3 : List Instr := [.lload 9, .lmul, .lcmp]
theorem oX3_setBounce_127_3 : fOkB cX3_setBounce 127 iX3_setBounce_127_3 = true := by decide +kernel
theorem bX3_setBounce_131 : fBk cX3_setBounce 131 (.ifCond .gt) 138 := ⟨7, by decide +kernel, by decide⟩
def iX3_setBounce_138_3 : List Instr := [.iconst 0, .istore 15, .iload 13]
theorem oX3_setBounce_138_3 : fOkB cX3_setBounce 138 iX3_setBounce_138_3 = true := by decide +kernel
theorem bX3_setBounce_143 : fBk cX3_setBounce 143 (.ifCond .ne) 156 := ⟨13, by decide +kernel, by decide⟩
def iX3_setBounce_146_1 : List Instr := [.iload 14]
theorem oX3_setBounce_146_1 : fOkB cX3_setBounce 146 iX3_setBounce_146_1 = true := by decide +kernel
theorem bX3_setBounce_148 : fBk cX3_setBounce 148 (.ifCond .ne) 156 := ⟨8, by decide +kernel, by decide⟩
def iX3_setBounce_151_1 : List Instr := [.iload 15]
theorem oX3_setBounce_151_1 : fOkB cX3_setBounce 151 iX3_setBounce_151_1 = true := by decide +kernel
theorem bX3_setBounce_153 : fBk cX3_setBounce 153 (.ifCond .eq) 158 := ⟨5, by decide +kernel, by decide⟩
def iX3_setBounce_158_16 : List Instr := [.aload_n 0, .getfield 21, .iload_n 1, .lload 11, .lastore, .aload_n 0, .getfield 25, .iload_n 1, .lload 9, .lastore, .aload_n 0, .iload_n 1, .iload_n 2, .lload 11, .lload 9, .aload_n 3]
theorem oX3_setBounce_158_16 : fOkB cX3_setBounce 158 iX3_setBounce_158_16 = true := by decide +kernel
set_option maxRecDepth 100000 in
theorem lX3_60 : Cond.methodLink RX3 60 yX3_isOnWall ∈ fTB := fTB_at 457 rfl rfl
theorem dX3_setBounce_182 : decode cX3_setBounce 182 = .ok (.invokevirtual 60, 3) := by decide +kernel
theorem dX3_setBounce_185 : decode cX3_setBounce 185 = .ok (.ireturn, 1) := by decide +kernel
def iX3_setBounce_134_4 : List Instr := [.iconst 1, .goto 4, .istore 15, .iload 13]
theorem oX3_setBounce_134_4 : fOkB cX3_setBounce 134 iX3_setBounce_134_4 = true := by decide +kernel
def iX3_setBounce_156_1 : List Instr := [.iconst 0]
theorem oX3_setBounce_156_1 : fOkB cX3_setBounce 156 iX3_setBounce_156_1 = true := by decide +kernel
theorem dX3_setBounce_157 : decode cX3_setBounce 157 = .ok (.ireturn, 1) := by decide +kernel
def iX3_setBounce_101_10 : List Instr := [.iconst 1, .goto 4, .istore 14, .lload 11, .aload_n 0, .getfield 25, .iload_n 1, .iconst 1, .iadd, .laload]
theorem oX3_setBounce_101_10 : fOkB cX3_setBounce 101 iX3_setBounce_101_10 = true := by decide +kernel
def iX3_setBounce_86_6 : List Instr := [.iconst 1, .goto 4, .istore 13, .lload 11, .lload 9, .lcmp]
theorem oX3_setBounce_86_6 : fOkB cX3_setBounce 86 iX3_setBounce_86_6 = true := by decide +kernel
def iX3_setBounce_69_4 : List Instr := [.lload 7, .lneg, .goto 5, .lstore 11]
theorem oX3_setBounce_69_4 : fOkB cX3_setBounce 69 iX3_setBounce_69_4 = true := by decide +kernel
set_option maxRecDepth 100000 in
theorem qX3_setB {G : fG} {d : Nat} {S : fS} {b w j : Nat} (HG : hGeo S b) (hw : w < b) (hb : b ≤ 16) (hj : j ≤ 3)  : fCtr G (d + 2) mX3_setBounce [.ref 18, .int (nI j), .int (nI w), .ref 4] S (fun r S' => (zB (gA S 5) w (pA (gA S 21) j) (pA (gA S 20) j) (gB S 22 (j + 1)) (gB S 23 (j + 1)) ∧ r = some (.int 1) ∧ S' = sB S j (zPt (gA S 5) w (pA (gA S 21) j) (pA (gA S 20) j)) (zWh (gA S 5) w (pA (gA S 21) j) (pA (gA S 20) j))) ∨ (¬ zB (gA S 5) w (pA (gA S 21) j) (pA (gA S 20) j) (gB S 22 (j + 1)) (gB S 23 (j + 1)) ∧ r = some (.int 0) ∧ (S' = S ∨ S' = sB S j (zPt (gA S 5) w (pA (gA S 21) j) (pA (gA S 20) j)) (zWh (gA S 5) w (pA (gA S 21) j) (pA (gA S 20) j))))) := by
  refine fCtr.of bXX3_setBounce (Nat.le_of_ble_eq_true rfl) rfl ?_
  refine fV.run iX3_setBounce_0_5 oX3_setBounce_0_5 (pc' := 8) (L' := [(0, .ref 18), (1, .int (nI j)), (2, .int (nI w)), (3, .ref 4), (4, .int (gA S 7 (nI w).toNatClampNeg))]) (st' := []) (S' := S) (P := vp_in (nI w) 16 ∧ True) rfl ⟨(vp_in_nI (show w < 16 by omega) (by decide)), trivial⟩ ?_
  refine fV.to (L' := [(0, .ref 18), (1, .int (nI j)), (2, .int (nI w)), (3, .ref 4), (4, .int (hAxI (gA S 5) w))]) (st' := []) rfl (by rw [show (gA S 7 (nI w).toNatClampNeg : Int32) = hAxI (gA S 5) w from geo_ax HG hw hb]) rfl rfl ?_
  refine fV.run iX3_setBounce_8_19 oX3_setBounce_8_19 (pc' := 34) (L' := [(0, .ref 18), (1, .int (nI j)), (2, .int (nI w)), (3, .ref 4), (4, .int (hAxI (gA S 5) w)), (5, .long (Int32.toInt64 ((gA S 20 ((2 * (nI j)) + (hAxI (gA S 5) w)).toNatClampNeg) - (gA S 21 ((2 * (nI j)) + (hAxI (gA S 5) w)).toNatClampNeg))))]) (st' := []) (S' := S) (P := vp_in ((2 * (nI j)) + (hAxI (gA S 5) w)) 8 ∧ vp_in ((2 * (nI j)) + (hAxI (gA S 5) w)) 8 ∧ True) rfl ⟨(ix_s hj (gA S 20)).2, (ix_s hj (gA S 20)).2, trivial⟩ ?_
  refine fV.to (L' := [(0, .ref 18), (1, .int (nI j)), (2, .int (nI w)), (3, .ref 4), (4, .int (hAxI (gA S 5) w)), (5, .long (zWy (gA S 5) w (pA (gA S 21) j) (pA (gA S 20) j)))]) (st' := []) rfl (by rw [show (Int32.toInt64 ((gA S 20 ((2 * (nI j)) + (hAxI (gA S 5) w)).toNatClampNeg) - (gA S 21 ((2 * (nI j)) + (hAxI (gA S 5) w)).toNatClampNeg)) : Int64) = zWy (gA S 5) w (pA (gA S 21) j) (pA (gA S 20) j) from by rw [(ix_s hj (gA S 20)).1, (ix_s hj (gA S 21)).1]; rfl]) rfl rfl ?_
  refine fV.run iX3_setBounce_34_15 oX3_setBounce_34_15 (pc' := 55) (L' := [(0, .ref 18), (1, .int (nI j)), (2, .int (nI w)), (3, .ref 4), (4, .int (hAxI (gA S 5) w)), (5, .long (zWy (gA S 5) w (pA (gA S 21) j) (pA (gA S 20) j))), (7, .long (Int32.toInt64 ((gA S 8 (nI w).toNatClampNeg) - (gA S 21 ((2 * (nI j)) + (hAxI (gA S 5) w)).toNatClampNeg))))]) (st' := []) (S' := S) (P := vp_in (nI w) 16 ∧ vp_in ((2 * (nI j)) + (hAxI (gA S 5) w)) 8 ∧ True) rfl ⟨(vp_in_nI (show w < 16 by omega) (by decide)), (ix_s hj (gA S 20)).2, trivial⟩ ?_
  refine fV.to (L' := [(0, .ref 18), (1, .int (nI j)), (2, .int (nI w)), (3, .ref 4), (4, .int (hAxI (gA S 5) w)), (5, .long (zWy (gA S 5) w (pA (gA S 21) j) (pA (gA S 20) j))), (7, .long (zTw (gA S 5) w (pA (gA S 21) j)))]) (st' := []) rfl (by rw [show (Int32.toInt64 ((gA S 8 (nI w).toNatClampNeg) - (gA S 21 ((2 * (nI j)) + (hAxI (gA S 5) w)).toNatClampNeg)) : Int64) = zTw (gA S 5) w (pA (gA S 21) j) from by rw [geo_ln HG hw hb, (ix_s hj (gA S 21)).1]; rfl]) rfl rfl ?_
  refine fV.run iX3_setBounce_55_1 oX3_setBounce_55_1 (pc' := 57) (L' := [(0, .ref 18), (1, .int (nI j)), (2, .int (nI w)), (3, .ref 4), (4, .int (hAxI (gA S 5) w)), (5, .long (zWy (gA S 5) w (pA (gA S 21) j) (pA (gA S 20) j))), (7, .long (zTw (gA S 5) w (pA (gA S 21) j)))]) (st' := [.long (zWy (gA S 5) w (pA (gA S 21) j) (pA (gA S 20) j))]) (S' := S) rfl trivial ?_
  refine fV.mabs dX3_setBounce_57 lX3_54 (fRoomM (Nat.le_of_ble_eq_true rfl)) ?_
  refine fV.run iX3_setBounce_60_1 oX3_setBounce_60_1 (pc' := 62) (L' := [(0, .ref 18), (1, .int (nI j)), (2, .int (nI w)), (3, .ref 4), (4, .int (hAxI (gA S 5) w)), (5, .long (zWy (gA S 5) w (pA (gA S 21) j) (pA (gA S 20) j))), (7, .long (zTw (gA S 5) w (pA (gA S 21) j))), (9, .long (if 0 < (zWy (gA S 5) w (pA (gA S 21) j) (pA (gA S 20) j)) then (zWy (gA S 5) w (pA (gA S 21) j) (pA (gA S 20) j)) else -(zWy (gA S 5) w (pA (gA S 21) j) (pA (gA S 20) j))))]) (st' := []) (S' := S) rfl trivial ?_
  refine fV.to (L' := [(0, .ref 18), (1, .int (nI j)), (2, .int (nI w)), (3, .ref 4), (4, .int (hAxI (gA S 5) w)), (5, .long (zWy (gA S 5) w (pA (gA S 21) j) (pA (gA S 20) j))), (7, .long (zTw (gA S 5) w (pA (gA S 21) j))), (9, .long (zWh (gA S 5) w (pA (gA S 21) j) (pA (gA S 20) j)))]) (st' := []) rfl (by rw [show (if 0 < (zWy (gA S 5) w (pA (gA S 21) j) (pA (gA S 20) j)) then (zWy (gA S 5) w (pA (gA S 21) j) (pA (gA S 20) j)) else -(zWy (gA S 5) w (pA (gA S 21) j) (pA (gA S 20) j)) : Int64) = zWh (gA S 5) w (pA (gA S 21) j) (pA (gA S 20) j) from rfl]) rfl rfl ?_
  refine fV.run iX3_setBounce_62_3 oX3_setBounce_62_3 (pc' := 66) (L' := [(0, .ref 18), (1, .int (nI j)), (2, .int (nI w)), (3, .ref 4), (4, .int (hAxI (gA S 5) w)), (5, .long (zWy (gA S 5) w (pA (gA S 21) j) (pA (gA S 20) j))), (7, .long (zTw (gA S 5) w (pA (gA S 21) j))), (9, .long (zWh (gA S 5) w (pA (gA S 21) j) (pA (gA S 20) j)))]) (st' := [.int (lg_cmp (zWy (gA S 5) w (pA (gA S 21) j) (pA (gA S 20) j)) 0)]) (S' := S) rfl trivial ?_
  refine fV.lif_ge bX3_setBounce_66 (fun c66 => ?_) (fun c66 => ?_)
  · refine fV.run iX3_setBounce_75_2 oX3_setBounce_75_2 (pc' := 79) (L' := [(0, .ref 18), (1, .int (nI j)), (2, .int (nI w)), (3, .ref 4), (4, .int (hAxI (gA S 5) w)), (5, .long (zWy (gA S 5) w (pA (gA S 21) j) (pA (gA S 20) j))), (7, .long (zTw (gA S 5) w (pA (gA S 21) j))), (9, .long (zWh (gA S 5) w (pA (gA S 21) j) (pA (gA S 20) j))), (11, .long (zTw (gA S 5) w (pA (gA S 21) j)))]) (st' := []) (S' := S) rfl trivial ?_
    refine fV.to (L' := [(0, .ref 18), (1, .int (nI j)), (2, .int (nI w)), (3, .ref 4), (4, .int (hAxI (gA S 5) w)), (5, .long (zWy (gA S 5) w (pA (gA S 21) j) (pA (gA S 20) j))), (7, .long (zTw (gA S 5) w (pA (gA S 21) j))), (9, .long (zWh (gA S 5) w (pA (gA S 21) j) (pA (gA S 20) j))), (11, .long (zPt (gA S 5) w (pA (gA S 21) j) (pA (gA S 20) j)))]) (st' := []) rfl (by rw [show (zTw (gA S 5) w (pA (gA S 21) j) : Int64) = zPt (gA S 5) w (pA (gA S 21) j) (pA (gA S 20) j) from by unfold zPt; rw [if_neg (by grind)]]) rfl rfl ?_
    refine fV.run iX3_setBounce_79_3 oX3_setBounce_79_3 (pc' := 83) (L' := [(0, .ref 18), (1, .int (nI j)), (2, .int (nI w)), (3, .ref 4), (4, .int (hAxI (gA S 5) w)), (5, .long (zWy (gA S 5) w (pA (gA S 21) j) (pA (gA S 20) j))), (7, .long (zTw (gA S 5) w (pA (gA S 21) j))), (9, .long (zWh (gA S 5) w (pA (gA S 21) j) (pA (gA S 20) j))), (11, .long (zPt (gA S 5) w (pA (gA S 21) j) (pA (gA S 20) j)))]) (st' := [.int (lg_cmp (zWh (gA S 5) w (pA (gA S 21) j) (pA (gA S 20) j)) 0)]) (S' := S) rfl trivial ?_
    refine fV.lif_ne bX3_setBounce_83 (fun c83 => ?_) (fun c83 => ?_)
    · refine fV.run iX3_setBounce_90_5 oX3_setBounce_90_5 (pc' := 98) (L' := [(0, .ref 18), (1, .int (nI j)), (2, .int (nI w)), (3, .ref 4), (4, .int (hAxI (gA S 5) w)), (5, .long (zWy (gA S 5) w (pA (gA S 21) j) (pA (gA S 20) j))), (7, .long (zTw (gA S 5) w (pA (gA S 21) j))), (9, .long (zWh (gA S 5) w (pA (gA S 21) j) (pA (gA S 20) j))), (11, .long (zPt (gA S 5) w (pA (gA S 21) j) (pA (gA S 20) j))), (13, .int 0)]) (st' := [.int (lg_cmp (zPt (gA S 5) w (pA (gA S 21) j) (pA (gA S 20) j)) (zWh (gA S 5) w (pA (gA S 21) j) (pA (gA S 20) j)))]) (S' := S) rfl trivial ?_
      refine fV.lif_lt bX3_setBounce_98 (fun c98 => ?_) (fun c98 => ?_)
      · refine fV.run iX3_setBounce_105_9 oX3_setBounce_105_9 (pc' := 118) (L' := [(0, .ref 18), (1, .int (nI j)), (2, .int (nI w)), (3, .ref 4), (4, .int (hAxI (gA S 5) w)), (5, .long (zWy (gA S 5) w (pA (gA S 21) j) (pA (gA S 20) j))), (7, .long (zTw (gA S 5) w (pA (gA S 21) j))), (9, .long (zWh (gA S 5) w (pA (gA S 21) j) (pA (gA S 20) j))), (11, .long (zPt (gA S 5) w (pA (gA S 21) j) (pA (gA S 20) j))), (13, .int 0), (14, .int 0)]) (st' := [.long (gB S 23 ((nI j) + 1).toNatClampNeg), .long (zPt (gA S 5) w (pA (gA S 21) j) (pA (gA S 20) j))]) (S' := S) (P := vp_in ((nI j) + 1) 5 ∧ True) rfl ⟨(vj (by omega) (by omega)).2, trivial⟩ ?_
        refine fV.to (L' := [(0, .ref 18), (1, .int (nI j)), (2, .int (nI w)), (3, .ref 4), (4, .int (hAxI (gA S 5) w)), (5, .long (zWy (gA S 5) w (pA (gA S 21) j) (pA (gA S 20) j))), (7, .long (zTw (gA S 5) w (pA (gA S 21) j))), (9, .long (zWh (gA S 5) w (pA (gA S 21) j) (pA (gA S 20) j))), (11, .long (zPt (gA S 5) w (pA (gA S 21) j) (pA (gA S 20) j))), (13, .int 0), (14, .int 0)]) (st' := [.long (gB S 23 (j + 1)), .long (zPt (gA S 5) w (pA (gA S 21) j) (pA (gA S 20) j))]) rfl rfl (by rw [show (gB S 23 ((nI j) + 1).toNatClampNeg : Int64) = gB S 23 (j + 1) from by rw [(cj (j := j) (by omega)).2]]) rfl ?_
        refine fV.run iX3_setBounce_118_7 oX3_setBounce_118_7 (pc' := 127) (L' := [(0, .ref 18), (1, .int (nI j)), (2, .int (nI w)), (3, .ref 4), (4, .int (hAxI (gA S 5) w)), (5, .long (zWy (gA S 5) w (pA (gA S 21) j) (pA (gA S 20) j))), (7, .long (zTw (gA S 5) w (pA (gA S 21) j))), (9, .long (zWh (gA S 5) w (pA (gA S 21) j) (pA (gA S 20) j))), (11, .long (zPt (gA S 5) w (pA (gA S 21) j) (pA (gA S 20) j))), (13, .int 0), (14, .int 0)]) (st' := [.long (gB S 22 ((nI j) + 1).toNatClampNeg), .long ((zPt (gA S 5) w (pA (gA S 21) j) (pA (gA S 20) j)) * (gB S 23 (j + 1)))]) (S' := S) (P := vp_in ((nI j) + 1) 5 ∧ True) rfl ⟨(vj (by omega) (by omega)).2, trivial⟩ ?_
        refine fV.to (L' := [(0, .ref 18), (1, .int (nI j)), (2, .int (nI w)), (3, .ref 4), (4, .int (hAxI (gA S 5) w)), (5, .long (zWy (gA S 5) w (pA (gA S 21) j) (pA (gA S 20) j))), (7, .long (zTw (gA S 5) w (pA (gA S 21) j))), (9, .long (zWh (gA S 5) w (pA (gA S 21) j) (pA (gA S 20) j))), (11, .long (zPt (gA S 5) w (pA (gA S 21) j) (pA (gA S 20) j))), (13, .int 0), (14, .int 0)]) (st' := [.long (gB S 22 (j + 1)), .long ((zPt (gA S 5) w (pA (gA S 21) j) (pA (gA S 20) j)) * (gB S 23 (j + 1)))]) rfl rfl (by rw [show (gB S 22 ((nI j) + 1).toNatClampNeg : Int64) = gB S 22 (j + 1) from by rw [(cj (j := j) (by omega)).2]]) rfl ?_
        refine fV.run iX3_setBounce_127_3 oX3_setBounce_127_3 (pc' := 131) (L' := [(0, .ref 18), (1, .int (nI j)), (2, .int (nI w)), (3, .ref 4), (4, .int (hAxI (gA S 5) w)), (5, .long (zWy (gA S 5) w (pA (gA S 21) j) (pA (gA S 20) j))), (7, .long (zTw (gA S 5) w (pA (gA S 21) j))), (9, .long (zWh (gA S 5) w (pA (gA S 21) j) (pA (gA S 20) j))), (11, .long (zPt (gA S 5) w (pA (gA S 21) j) (pA (gA S 20) j))), (13, .int 0), (14, .int 0)]) (st' := [.int (lg_cmp ((zPt (gA S 5) w (pA (gA S 21) j) (pA (gA S 20) j)) * (gB S 23 (j + 1))) ((gB S 22 (j + 1)) * (zWh (gA S 5) w (pA (gA S 21) j) (pA (gA S 20) j))))]) (S' := S) rfl trivial ?_
        refine fV.lif_gt bX3_setBounce_131 (fun c131 => ?_) (fun c131 => ?_)
        · refine fV.run iX3_setBounce_138_3 oX3_setBounce_138_3 (pc' := 143) (L' := [(0, .ref 18), (1, .int (nI j)), (2, .int (nI w)), (3, .ref 4), (4, .int (hAxI (gA S 5) w)), (5, .long (zWy (gA S 5) w (pA (gA S 21) j) (pA (gA S 20) j))), (7, .long (zTw (gA S 5) w (pA (gA S 21) j))), (9, .long (zWh (gA S 5) w (pA (gA S 21) j) (pA (gA S 20) j))), (11, .long (zPt (gA S 5) w (pA (gA S 21) j) (pA (gA S 20) j))), (13, .int 0), (14, .int 0), (15, .int 0)]) (st' := [.int 0]) (S' := S) rfl trivial ?_
          refine fV.if_ne bX3_setBounce_143 (fun c143 => ?_) (fun c143 => ?_)
          · exact absurd c143 (by decide)
          · refine fV.run iX3_setBounce_146_1 oX3_setBounce_146_1 (pc' := 148) (L' := [(0, .ref 18), (1, .int (nI j)), (2, .int (nI w)), (3, .ref 4), (4, .int (hAxI (gA S 5) w)), (5, .long (zWy (gA S 5) w (pA (gA S 21) j) (pA (gA S 20) j))), (7, .long (zTw (gA S 5) w (pA (gA S 21) j))), (9, .long (zWh (gA S 5) w (pA (gA S 21) j) (pA (gA S 20) j))), (11, .long (zPt (gA S 5) w (pA (gA S 21) j) (pA (gA S 20) j))), (13, .int 0), (14, .int 0), (15, .int 0)]) (st' := [.int 0]) (S' := S) rfl trivial ?_
            refine fV.if_ne bX3_setBounce_148 (fun c148 => ?_) (fun c148 => ?_)
            · exact absurd c148 (by decide)
            · refine fV.run iX3_setBounce_151_1 oX3_setBounce_151_1 (pc' := 153) (L' := [(0, .ref 18), (1, .int (nI j)), (2, .int (nI w)), (3, .ref 4), (4, .int (hAxI (gA S 5) w)), (5, .long (zWy (gA S 5) w (pA (gA S 21) j) (pA (gA S 20) j))), (7, .long (zTw (gA S 5) w (pA (gA S 21) j))), (9, .long (zWh (gA S 5) w (pA (gA S 21) j) (pA (gA S 20) j))), (11, .long (zPt (gA S 5) w (pA (gA S 21) j) (pA (gA S 20) j))), (13, .int 0), (14, .int 0), (15, .int 0)]) (st' := [.int 0]) (S' := S) rfl trivial ?_
              refine fV.if_eq bX3_setBounce_153 (fun c153 => ?_) (fun c153 => ?_)
              · refine fV.run iX3_setBounce_158_16 oX3_setBounce_158_16 (pc' := 182) (L' := [(0, .ref 18), (1, .int (nI j)), (2, .int (nI w)), (3, .ref 4), (4, .int (hAxI (gA S 5) w)), (5, .long (zWy (gA S 5) w (pA (gA S 21) j) (pA (gA S 20) j))), (7, .long (zTw (gA S 5) w (pA (gA S 21) j))), (9, .long (zWh (gA S 5) w (pA (gA S 21) j) (pA (gA S 20) j))), (11, .long (zPt (gA S 5) w (pA (gA S 21) j) (pA (gA S 20) j))), (13, .int 0), (14, .int 0), (15, .int 0)]) (st' := [.ref 4, .long (zWh (gA S 5) w (pA (gA S 21) j) (pA (gA S 20) j)), .long (zPt (gA S 5) w (pA (gA S 21) j) (pA (gA S 20) j)), .int (nI w), .int (nI j), .ref 18]) (S' := (wB (wB S 22 (vp_updL (gB S 22) (nI j).toNatClampNeg (zPt (gA S 5) w (pA (gA S 21) j) (pA (gA S 20) j)))) 23 (vp_updL (gB S 23) (nI j).toNatClampNeg (zWh (gA S 5) w (pA (gA S 21) j) (pA (gA S 20) j))))) (P := vp_in (nI j) 5 ∧ vp_in (nI j) 5 ∧ True) rfl ⟨(vj (by omega) (by omega)).1, (vj (by omega) (by omega)).1, trivial⟩ ?_
                refine fV.callV (M2 := mX3_isOnWall) (d := d + 1) (o := 18) (av := [.int (nI j), .int (nI w), .long (zPt (gA S 5) w (pA (gA S 21) j) (pA (gA S 20) j)), .long (zWh (gA S 5) w (pA (gA S 21) j) (pA (gA S 20) j)), .ref 4]) (rest := []) kX3_isOnWall dX3_setBounce_182 lX3_60 rfl rfl rfl (Nat.le_of_ble_eq_true rfl) (fRoom (by decide)) ⟨Nat.le_refl _, Nat.le_refl _⟩ (qX3_on (S := (wB (wB S 22 (vp_updL (gB S 22) (nI j).toNatClampNeg (zPt (gA S 5) w (pA (gA S 21) j) (pA (gA S 20) j)))) 23 (vp_updL (gB S 23) (nI j).toNatClampNeg (zWh (gA S 5) w (pA (gA S 21) j) (pA (gA S 20) j))))) (geo_wB (geo_wB HG)) hw hb hj _ _) ?_
                rintro r9 S9 h9
                rcases h9 with ⟨hz, rfl, h9⟩ | ⟨hz, rfl, h9⟩
                · rw [h9]
                  clear h9 S9
                  simp only [gA_wB, gA_wI, gA_wJ] at hz
                  have hz : zOn (gA S 5) w (pA (gA S 21) j) (pA (gA S 20) j) (zPt (gA S 5) w (pA (gA S 21) j) (pA (gA S 20) j)) (zWh (gA S 5) w (pA (gA S 21) j) (pA (gA S 20) j)) := hz
                  refine fV.to (pc' := 185) (L' := [(0, .ref 18), (1, .int (nI j)), (2, .int (nI w)), (3, .ref 4), (4, .int (hAxI (gA S 5) w)), (5, .long (zWy (gA S 5) w (pA (gA S 21) j) (pA (gA S 20) j))), (7, .long (zTw (gA S 5) w (pA (gA S 21) j))), (9, .long (zWh (gA S 5) w (pA (gA S 21) j) (pA (gA S 20) j))), (11, .long (zPt (gA S 5) w (pA (gA S 21) j) (pA (gA S 20) j))), (13, .int 0), (14, .int 0), (15, .int 0)]) (st' := [.int 1]) (S' := (wB (wB S 22 (vp_updL (gB S 22) (nI j).toNatClampNeg (zPt (gA S 5) w (pA (gA S 21) j) (pA (gA S 20) j)))) 23 (vp_updL (gB S 23) (nI j).toNatClampNeg (zWh (gA S 5) w (pA (gA S 21) j) (pA (gA S 20) j))))) rfl rfl rfl rfl ?_
                  exact fV.zret rfl dX3_setBounce_185 (by decide) (Or.inl ⟨⟨⟨c83, by grind, by grind⟩, hz⟩, rfl, by unfold sB; rw [(cj (j := j) (by omega)).1]⟩)
                · rw [h9]
                  clear h9 S9
                  simp only [gA_wB, gA_wI, gA_wJ] at hz
                  have hz : ¬ zOn (gA S 5) w (pA (gA S 21) j) (pA (gA S 20) j) (zPt (gA S 5) w (pA (gA S 21) j) (pA (gA S 20) j)) (zWh (gA S 5) w (pA (gA S 21) j) (pA (gA S 20) j)) := hz
                  refine fV.to (pc' := 185) (L' := [(0, .ref 18), (1, .int (nI j)), (2, .int (nI w)), (3, .ref 4), (4, .int (hAxI (gA S 5) w)), (5, .long (zWy (gA S 5) w (pA (gA S 21) j) (pA (gA S 20) j))), (7, .long (zTw (gA S 5) w (pA (gA S 21) j))), (9, .long (zWh (gA S 5) w (pA (gA S 21) j) (pA (gA S 20) j))), (11, .long (zPt (gA S 5) w (pA (gA S 21) j) (pA (gA S 20) j))), (13, .int 0), (14, .int 0), (15, .int 0)]) (st' := [.int 0]) (S' := (wB (wB S 22 (vp_updL (gB S 22) (nI j).toNatClampNeg (zPt (gA S 5) w (pA (gA S 21) j) (pA (gA S 20) j)))) 23 (vp_updL (gB S 23) (nI j).toNatClampNeg (zWh (gA S 5) w (pA (gA S 21) j) (pA (gA S 20) j))))) rfl rfl rfl rfl ?_
                  exact fV.zret rfl dX3_setBounce_185 (by decide) (Or.inr ⟨fun z => hz z.2, rfl, Or.inr (by unfold sB; rw [(cj (j := j) (by omega)).1])⟩)
              · exact absurd c153 (by decide)
        · refine fV.run iX3_setBounce_134_4 oX3_setBounce_134_4 (pc' := 143) (L' := [(0, .ref 18), (1, .int (nI j)), (2, .int (nI w)), (3, .ref 4), (4, .int (hAxI (gA S 5) w)), (5, .long (zWy (gA S 5) w (pA (gA S 21) j) (pA (gA S 20) j))), (7, .long (zTw (gA S 5) w (pA (gA S 21) j))), (9, .long (zWh (gA S 5) w (pA (gA S 21) j) (pA (gA S 20) j))), (11, .long (zPt (gA S 5) w (pA (gA S 21) j) (pA (gA S 20) j))), (13, .int 0), (14, .int 0), (15, .int 1)]) (st' := [.int 0]) (S' := S) rfl trivial ?_
          refine fV.if_ne bX3_setBounce_143 (fun c143 => ?_) (fun c143 => ?_)
          · exact absurd c143 (by decide)
          · refine fV.run iX3_setBounce_146_1 oX3_setBounce_146_1 (pc' := 148) (L' := [(0, .ref 18), (1, .int (nI j)), (2, .int (nI w)), (3, .ref 4), (4, .int (hAxI (gA S 5) w)), (5, .long (zWy (gA S 5) w (pA (gA S 21) j) (pA (gA S 20) j))), (7, .long (zTw (gA S 5) w (pA (gA S 21) j))), (9, .long (zWh (gA S 5) w (pA (gA S 21) j) (pA (gA S 20) j))), (11, .long (zPt (gA S 5) w (pA (gA S 21) j) (pA (gA S 20) j))), (13, .int 0), (14, .int 0), (15, .int 1)]) (st' := [.int 0]) (S' := S) rfl trivial ?_
            refine fV.if_ne bX3_setBounce_148 (fun c148 => ?_) (fun c148 => ?_)
            · exact absurd c148 (by decide)
            · refine fV.run iX3_setBounce_151_1 oX3_setBounce_151_1 (pc' := 153) (L' := [(0, .ref 18), (1, .int (nI j)), (2, .int (nI w)), (3, .ref 4), (4, .int (hAxI (gA S 5) w)), (5, .long (zWy (gA S 5) w (pA (gA S 21) j) (pA (gA S 20) j))), (7, .long (zTw (gA S 5) w (pA (gA S 21) j))), (9, .long (zWh (gA S 5) w (pA (gA S 21) j) (pA (gA S 20) j))), (11, .long (zPt (gA S 5) w (pA (gA S 21) j) (pA (gA S 20) j))), (13, .int 0), (14, .int 0), (15, .int 1)]) (st' := [.int 1]) (S' := S) rfl trivial ?_
              refine fV.if_eq bX3_setBounce_153 (fun c153 => ?_) (fun c153 => ?_)
              · exact absurd c153 (by decide)
              · refine fV.run iX3_setBounce_156_1 oX3_setBounce_156_1 (pc' := 157) (L' := [(0, .ref 18), (1, .int (nI j)), (2, .int (nI w)), (3, .ref 4), (4, .int (hAxI (gA S 5) w)), (5, .long (zWy (gA S 5) w (pA (gA S 21) j) (pA (gA S 20) j))), (7, .long (zTw (gA S 5) w (pA (gA S 21) j))), (9, .long (zWh (gA S 5) w (pA (gA S 21) j) (pA (gA S 20) j))), (11, .long (zPt (gA S 5) w (pA (gA S 21) j) (pA (gA S 20) j))), (13, .int 0), (14, .int 0), (15, .int 1)]) (st' := [.int 0]) (S' := S) rfl trivial ?_
                exact fV.zret rfl dX3_setBounce_157 (by decide) (Or.inr ⟨fun z => by obtain ⟨⟨z1, z2, z3⟩, z4⟩ := z; grind, rfl, Or.inl rfl⟩)
      · refine fV.run iX3_setBounce_101_10 oX3_setBounce_101_10 (pc' := 118) (L' := [(0, .ref 18), (1, .int (nI j)), (2, .int (nI w)), (3, .ref 4), (4, .int (hAxI (gA S 5) w)), (5, .long (zWy (gA S 5) w (pA (gA S 21) j) (pA (gA S 20) j))), (7, .long (zTw (gA S 5) w (pA (gA S 21) j))), (9, .long (zWh (gA S 5) w (pA (gA S 21) j) (pA (gA S 20) j))), (11, .long (zPt (gA S 5) w (pA (gA S 21) j) (pA (gA S 20) j))), (13, .int 0), (14, .int 1)]) (st' := [.long (gB S 23 ((nI j) + 1).toNatClampNeg), .long (zPt (gA S 5) w (pA (gA S 21) j) (pA (gA S 20) j))]) (S' := S) (P := vp_in ((nI j) + 1) 5 ∧ True) rfl ⟨(vj (by omega) (by omega)).2, trivial⟩ ?_
        refine fV.to (L' := [(0, .ref 18), (1, .int (nI j)), (2, .int (nI w)), (3, .ref 4), (4, .int (hAxI (gA S 5) w)), (5, .long (zWy (gA S 5) w (pA (gA S 21) j) (pA (gA S 20) j))), (7, .long (zTw (gA S 5) w (pA (gA S 21) j))), (9, .long (zWh (gA S 5) w (pA (gA S 21) j) (pA (gA S 20) j))), (11, .long (zPt (gA S 5) w (pA (gA S 21) j) (pA (gA S 20) j))), (13, .int 0), (14, .int 1)]) (st' := [.long (gB S 23 (j + 1)), .long (zPt (gA S 5) w (pA (gA S 21) j) (pA (gA S 20) j))]) rfl rfl (by rw [show (gB S 23 ((nI j) + 1).toNatClampNeg : Int64) = gB S 23 (j + 1) from by rw [(cj (j := j) (by omega)).2]]) rfl ?_
        refine fV.run iX3_setBounce_118_7 oX3_setBounce_118_7 (pc' := 127) (L' := [(0, .ref 18), (1, .int (nI j)), (2, .int (nI w)), (3, .ref 4), (4, .int (hAxI (gA S 5) w)), (5, .long (zWy (gA S 5) w (pA (gA S 21) j) (pA (gA S 20) j))), (7, .long (zTw (gA S 5) w (pA (gA S 21) j))), (9, .long (zWh (gA S 5) w (pA (gA S 21) j) (pA (gA S 20) j))), (11, .long (zPt (gA S 5) w (pA (gA S 21) j) (pA (gA S 20) j))), (13, .int 0), (14, .int 1)]) (st' := [.long (gB S 22 ((nI j) + 1).toNatClampNeg), .long ((zPt (gA S 5) w (pA (gA S 21) j) (pA (gA S 20) j)) * (gB S 23 (j + 1)))]) (S' := S) (P := vp_in ((nI j) + 1) 5 ∧ True) rfl ⟨(vj (by omega) (by omega)).2, trivial⟩ ?_
        refine fV.to (L' := [(0, .ref 18), (1, .int (nI j)), (2, .int (nI w)), (3, .ref 4), (4, .int (hAxI (gA S 5) w)), (5, .long (zWy (gA S 5) w (pA (gA S 21) j) (pA (gA S 20) j))), (7, .long (zTw (gA S 5) w (pA (gA S 21) j))), (9, .long (zWh (gA S 5) w (pA (gA S 21) j) (pA (gA S 20) j))), (11, .long (zPt (gA S 5) w (pA (gA S 21) j) (pA (gA S 20) j))), (13, .int 0), (14, .int 1)]) (st' := [.long (gB S 22 (j + 1)), .long ((zPt (gA S 5) w (pA (gA S 21) j) (pA (gA S 20) j)) * (gB S 23 (j + 1)))]) rfl rfl (by rw [show (gB S 22 ((nI j) + 1).toNatClampNeg : Int64) = gB S 22 (j + 1) from by rw [(cj (j := j) (by omega)).2]]) rfl ?_
        refine fV.run iX3_setBounce_127_3 oX3_setBounce_127_3 (pc' := 131) (L' := [(0, .ref 18), (1, .int (nI j)), (2, .int (nI w)), (3, .ref 4), (4, .int (hAxI (gA S 5) w)), (5, .long (zWy (gA S 5) w (pA (gA S 21) j) (pA (gA S 20) j))), (7, .long (zTw (gA S 5) w (pA (gA S 21) j))), (9, .long (zWh (gA S 5) w (pA (gA S 21) j) (pA (gA S 20) j))), (11, .long (zPt (gA S 5) w (pA (gA S 21) j) (pA (gA S 20) j))), (13, .int 0), (14, .int 1)]) (st' := [.int (lg_cmp ((zPt (gA S 5) w (pA (gA S 21) j) (pA (gA S 20) j)) * (gB S 23 (j + 1))) ((gB S 22 (j + 1)) * (zWh (gA S 5) w (pA (gA S 21) j) (pA (gA S 20) j))))]) (S' := S) rfl trivial ?_
        refine fV.lif_gt bX3_setBounce_131 (fun c131 => ?_) (fun c131 => ?_)
        · refine fV.run iX3_setBounce_138_3 oX3_setBounce_138_3 (pc' := 143) (L' := [(0, .ref 18), (1, .int (nI j)), (2, .int (nI w)), (3, .ref 4), (4, .int (hAxI (gA S 5) w)), (5, .long (zWy (gA S 5) w (pA (gA S 21) j) (pA (gA S 20) j))), (7, .long (zTw (gA S 5) w (pA (gA S 21) j))), (9, .long (zWh (gA S 5) w (pA (gA S 21) j) (pA (gA S 20) j))), (11, .long (zPt (gA S 5) w (pA (gA S 21) j) (pA (gA S 20) j))), (13, .int 0), (14, .int 1), (15, .int 0)]) (st' := [.int 0]) (S' := S) rfl trivial ?_
          refine fV.if_ne bX3_setBounce_143 (fun c143 => ?_) (fun c143 => ?_)
          · exact absurd c143 (by decide)
          · refine fV.run iX3_setBounce_146_1 oX3_setBounce_146_1 (pc' := 148) (L' := [(0, .ref 18), (1, .int (nI j)), (2, .int (nI w)), (3, .ref 4), (4, .int (hAxI (gA S 5) w)), (5, .long (zWy (gA S 5) w (pA (gA S 21) j) (pA (gA S 20) j))), (7, .long (zTw (gA S 5) w (pA (gA S 21) j))), (9, .long (zWh (gA S 5) w (pA (gA S 21) j) (pA (gA S 20) j))), (11, .long (zPt (gA S 5) w (pA (gA S 21) j) (pA (gA S 20) j))), (13, .int 0), (14, .int 1), (15, .int 0)]) (st' := [.int 1]) (S' := S) rfl trivial ?_
            refine fV.if_ne bX3_setBounce_148 (fun c148 => ?_) (fun c148 => ?_)
            · refine fV.run iX3_setBounce_156_1 oX3_setBounce_156_1 (pc' := 157) (L' := [(0, .ref 18), (1, .int (nI j)), (2, .int (nI w)), (3, .ref 4), (4, .int (hAxI (gA S 5) w)), (5, .long (zWy (gA S 5) w (pA (gA S 21) j) (pA (gA S 20) j))), (7, .long (zTw (gA S 5) w (pA (gA S 21) j))), (9, .long (zWh (gA S 5) w (pA (gA S 21) j) (pA (gA S 20) j))), (11, .long (zPt (gA S 5) w (pA (gA S 21) j) (pA (gA S 20) j))), (13, .int 0), (14, .int 1), (15, .int 0)]) (st' := [.int 0]) (S' := S) rfl trivial ?_
              exact fV.zret rfl dX3_setBounce_157 (by decide) (Or.inr ⟨fun z => by obtain ⟨⟨z1, z2, z3⟩, z4⟩ := z; grind, rfl, Or.inl rfl⟩)
            · exact absurd c148 (by decide)
        · refine fV.run iX3_setBounce_134_4 oX3_setBounce_134_4 (pc' := 143) (L' := [(0, .ref 18), (1, .int (nI j)), (2, .int (nI w)), (3, .ref 4), (4, .int (hAxI (gA S 5) w)), (5, .long (zWy (gA S 5) w (pA (gA S 21) j) (pA (gA S 20) j))), (7, .long (zTw (gA S 5) w (pA (gA S 21) j))), (9, .long (zWh (gA S 5) w (pA (gA S 21) j) (pA (gA S 20) j))), (11, .long (zPt (gA S 5) w (pA (gA S 21) j) (pA (gA S 20) j))), (13, .int 0), (14, .int 1), (15, .int 1)]) (st' := [.int 0]) (S' := S) rfl trivial ?_
          refine fV.if_ne bX3_setBounce_143 (fun c143 => ?_) (fun c143 => ?_)
          · exact absurd c143 (by decide)
          · refine fV.run iX3_setBounce_146_1 oX3_setBounce_146_1 (pc' := 148) (L' := [(0, .ref 18), (1, .int (nI j)), (2, .int (nI w)), (3, .ref 4), (4, .int (hAxI (gA S 5) w)), (5, .long (zWy (gA S 5) w (pA (gA S 21) j) (pA (gA S 20) j))), (7, .long (zTw (gA S 5) w (pA (gA S 21) j))), (9, .long (zWh (gA S 5) w (pA (gA S 21) j) (pA (gA S 20) j))), (11, .long (zPt (gA S 5) w (pA (gA S 21) j) (pA (gA S 20) j))), (13, .int 0), (14, .int 1), (15, .int 1)]) (st' := [.int 1]) (S' := S) rfl trivial ?_
            refine fV.if_ne bX3_setBounce_148 (fun c148 => ?_) (fun c148 => ?_)
            · refine fV.run iX3_setBounce_156_1 oX3_setBounce_156_1 (pc' := 157) (L' := [(0, .ref 18), (1, .int (nI j)), (2, .int (nI w)), (3, .ref 4), (4, .int (hAxI (gA S 5) w)), (5, .long (zWy (gA S 5) w (pA (gA S 21) j) (pA (gA S 20) j))), (7, .long (zTw (gA S 5) w (pA (gA S 21) j))), (9, .long (zWh (gA S 5) w (pA (gA S 21) j) (pA (gA S 20) j))), (11, .long (zPt (gA S 5) w (pA (gA S 21) j) (pA (gA S 20) j))), (13, .int 0), (14, .int 1), (15, .int 1)]) (st' := [.int 0]) (S' := S) rfl trivial ?_
              exact fV.zret rfl dX3_setBounce_157 (by decide) (Or.inr ⟨fun z => by obtain ⟨⟨z1, z2, z3⟩, z4⟩ := z; grind, rfl, Or.inl rfl⟩)
            · exact absurd c148 (by decide)
    · refine fV.run iX3_setBounce_86_6 oX3_setBounce_86_6 (pc' := 98) (L' := [(0, .ref 18), (1, .int (nI j)), (2, .int (nI w)), (3, .ref 4), (4, .int (hAxI (gA S 5) w)), (5, .long (zWy (gA S 5) w (pA (gA S 21) j) (pA (gA S 20) j))), (7, .long (zTw (gA S 5) w (pA (gA S 21) j))), (9, .long (zWh (gA S 5) w (pA (gA S 21) j) (pA (gA S 20) j))), (11, .long (zPt (gA S 5) w (pA (gA S 21) j) (pA (gA S 20) j))), (13, .int 1)]) (st' := [.int (lg_cmp (zPt (gA S 5) w (pA (gA S 21) j) (pA (gA S 20) j)) (zWh (gA S 5) w (pA (gA S 21) j) (pA (gA S 20) j)))]) (S' := S) rfl trivial ?_
      refine fV.lif_lt bX3_setBounce_98 (fun c98 => ?_) (fun c98 => ?_)
      · refine fV.run iX3_setBounce_105_9 oX3_setBounce_105_9 (pc' := 118) (L' := [(0, .ref 18), (1, .int (nI j)), (2, .int (nI w)), (3, .ref 4), (4, .int (hAxI (gA S 5) w)), (5, .long (zWy (gA S 5) w (pA (gA S 21) j) (pA (gA S 20) j))), (7, .long (zTw (gA S 5) w (pA (gA S 21) j))), (9, .long (zWh (gA S 5) w (pA (gA S 21) j) (pA (gA S 20) j))), (11, .long (zPt (gA S 5) w (pA (gA S 21) j) (pA (gA S 20) j))), (13, .int 1), (14, .int 0)]) (st' := [.long (gB S 23 ((nI j) + 1).toNatClampNeg), .long (zPt (gA S 5) w (pA (gA S 21) j) (pA (gA S 20) j))]) (S' := S) (P := vp_in ((nI j) + 1) 5 ∧ True) rfl ⟨(vj (by omega) (by omega)).2, trivial⟩ ?_
        refine fV.to (L' := [(0, .ref 18), (1, .int (nI j)), (2, .int (nI w)), (3, .ref 4), (4, .int (hAxI (gA S 5) w)), (5, .long (zWy (gA S 5) w (pA (gA S 21) j) (pA (gA S 20) j))), (7, .long (zTw (gA S 5) w (pA (gA S 21) j))), (9, .long (zWh (gA S 5) w (pA (gA S 21) j) (pA (gA S 20) j))), (11, .long (zPt (gA S 5) w (pA (gA S 21) j) (pA (gA S 20) j))), (13, .int 1), (14, .int 0)]) (st' := [.long (gB S 23 (j + 1)), .long (zPt (gA S 5) w (pA (gA S 21) j) (pA (gA S 20) j))]) rfl rfl (by rw [show (gB S 23 ((nI j) + 1).toNatClampNeg : Int64) = gB S 23 (j + 1) from by rw [(cj (j := j) (by omega)).2]]) rfl ?_
        refine fV.run iX3_setBounce_118_7 oX3_setBounce_118_7 (pc' := 127) (L' := [(0, .ref 18), (1, .int (nI j)), (2, .int (nI w)), (3, .ref 4), (4, .int (hAxI (gA S 5) w)), (5, .long (zWy (gA S 5) w (pA (gA S 21) j) (pA (gA S 20) j))), (7, .long (zTw (gA S 5) w (pA (gA S 21) j))), (9, .long (zWh (gA S 5) w (pA (gA S 21) j) (pA (gA S 20) j))), (11, .long (zPt (gA S 5) w (pA (gA S 21) j) (pA (gA S 20) j))), (13, .int 1), (14, .int 0)]) (st' := [.long (gB S 22 ((nI j) + 1).toNatClampNeg), .long ((zPt (gA S 5) w (pA (gA S 21) j) (pA (gA S 20) j)) * (gB S 23 (j + 1)))]) (S' := S) (P := vp_in ((nI j) + 1) 5 ∧ True) rfl ⟨(vj (by omega) (by omega)).2, trivial⟩ ?_
        refine fV.to (L' := [(0, .ref 18), (1, .int (nI j)), (2, .int (nI w)), (3, .ref 4), (4, .int (hAxI (gA S 5) w)), (5, .long (zWy (gA S 5) w (pA (gA S 21) j) (pA (gA S 20) j))), (7, .long (zTw (gA S 5) w (pA (gA S 21) j))), (9, .long (zWh (gA S 5) w (pA (gA S 21) j) (pA (gA S 20) j))), (11, .long (zPt (gA S 5) w (pA (gA S 21) j) (pA (gA S 20) j))), (13, .int 1), (14, .int 0)]) (st' := [.long (gB S 22 (j + 1)), .long ((zPt (gA S 5) w (pA (gA S 21) j) (pA (gA S 20) j)) * (gB S 23 (j + 1)))]) rfl rfl (by rw [show (gB S 22 ((nI j) + 1).toNatClampNeg : Int64) = gB S 22 (j + 1) from by rw [(cj (j := j) (by omega)).2]]) rfl ?_
        refine fV.run iX3_setBounce_127_3 oX3_setBounce_127_3 (pc' := 131) (L' := [(0, .ref 18), (1, .int (nI j)), (2, .int (nI w)), (3, .ref 4), (4, .int (hAxI (gA S 5) w)), (5, .long (zWy (gA S 5) w (pA (gA S 21) j) (pA (gA S 20) j))), (7, .long (zTw (gA S 5) w (pA (gA S 21) j))), (9, .long (zWh (gA S 5) w (pA (gA S 21) j) (pA (gA S 20) j))), (11, .long (zPt (gA S 5) w (pA (gA S 21) j) (pA (gA S 20) j))), (13, .int 1), (14, .int 0)]) (st' := [.int (lg_cmp ((zPt (gA S 5) w (pA (gA S 21) j) (pA (gA S 20) j)) * (gB S 23 (j + 1))) ((gB S 22 (j + 1)) * (zWh (gA S 5) w (pA (gA S 21) j) (pA (gA S 20) j))))]) (S' := S) rfl trivial ?_
        refine fV.lif_gt bX3_setBounce_131 (fun c131 => ?_) (fun c131 => ?_)
        · refine fV.run iX3_setBounce_138_3 oX3_setBounce_138_3 (pc' := 143) (L' := [(0, .ref 18), (1, .int (nI j)), (2, .int (nI w)), (3, .ref 4), (4, .int (hAxI (gA S 5) w)), (5, .long (zWy (gA S 5) w (pA (gA S 21) j) (pA (gA S 20) j))), (7, .long (zTw (gA S 5) w (pA (gA S 21) j))), (9, .long (zWh (gA S 5) w (pA (gA S 21) j) (pA (gA S 20) j))), (11, .long (zPt (gA S 5) w (pA (gA S 21) j) (pA (gA S 20) j))), (13, .int 1), (14, .int 0), (15, .int 0)]) (st' := [.int 1]) (S' := S) rfl trivial ?_
          refine fV.if_ne bX3_setBounce_143 (fun c143 => ?_) (fun c143 => ?_)
          · refine fV.run iX3_setBounce_156_1 oX3_setBounce_156_1 (pc' := 157) (L' := [(0, .ref 18), (1, .int (nI j)), (2, .int (nI w)), (3, .ref 4), (4, .int (hAxI (gA S 5) w)), (5, .long (zWy (gA S 5) w (pA (gA S 21) j) (pA (gA S 20) j))), (7, .long (zTw (gA S 5) w (pA (gA S 21) j))), (9, .long (zWh (gA S 5) w (pA (gA S 21) j) (pA (gA S 20) j))), (11, .long (zPt (gA S 5) w (pA (gA S 21) j) (pA (gA S 20) j))), (13, .int 1), (14, .int 0), (15, .int 0)]) (st' := [.int 0]) (S' := S) rfl trivial ?_
            exact fV.zret rfl dX3_setBounce_157 (by decide) (Or.inr ⟨fun z => by obtain ⟨⟨z1, z2, z3⟩, z4⟩ := z; grind, rfl, Or.inl rfl⟩)
          · exact absurd c143 (by decide)
        · refine fV.run iX3_setBounce_134_4 oX3_setBounce_134_4 (pc' := 143) (L' := [(0, .ref 18), (1, .int (nI j)), (2, .int (nI w)), (3, .ref 4), (4, .int (hAxI (gA S 5) w)), (5, .long (zWy (gA S 5) w (pA (gA S 21) j) (pA (gA S 20) j))), (7, .long (zTw (gA S 5) w (pA (gA S 21) j))), (9, .long (zWh (gA S 5) w (pA (gA S 21) j) (pA (gA S 20) j))), (11, .long (zPt (gA S 5) w (pA (gA S 21) j) (pA (gA S 20) j))), (13, .int 1), (14, .int 0), (15, .int 1)]) (st' := [.int 1]) (S' := S) rfl trivial ?_
          refine fV.if_ne bX3_setBounce_143 (fun c143 => ?_) (fun c143 => ?_)
          · refine fV.run iX3_setBounce_156_1 oX3_setBounce_156_1 (pc' := 157) (L' := [(0, .ref 18), (1, .int (nI j)), (2, .int (nI w)), (3, .ref 4), (4, .int (hAxI (gA S 5) w)), (5, .long (zWy (gA S 5) w (pA (gA S 21) j) (pA (gA S 20) j))), (7, .long (zTw (gA S 5) w (pA (gA S 21) j))), (9, .long (zWh (gA S 5) w (pA (gA S 21) j) (pA (gA S 20) j))), (11, .long (zPt (gA S 5) w (pA (gA S 21) j) (pA (gA S 20) j))), (13, .int 1), (14, .int 0), (15, .int 1)]) (st' := [.int 0]) (S' := S) rfl trivial ?_
            exact fV.zret rfl dX3_setBounce_157 (by decide) (Or.inr ⟨fun z => by obtain ⟨⟨z1, z2, z3⟩, z4⟩ := z; grind, rfl, Or.inl rfl⟩)
          · exact absurd c143 (by decide)
      · refine fV.run iX3_setBounce_101_10 oX3_setBounce_101_10 (pc' := 118) (L' := [(0, .ref 18), (1, .int (nI j)), (2, .int (nI w)), (3, .ref 4), (4, .int (hAxI (gA S 5) w)), (5, .long (zWy (gA S 5) w (pA (gA S 21) j) (pA (gA S 20) j))), (7, .long (zTw (gA S 5) w (pA (gA S 21) j))), (9, .long (zWh (gA S 5) w (pA (gA S 21) j) (pA (gA S 20) j))), (11, .long (zPt (gA S 5) w (pA (gA S 21) j) (pA (gA S 20) j))), (13, .int 1), (14, .int 1)]) (st' := [.long (gB S 23 ((nI j) + 1).toNatClampNeg), .long (zPt (gA S 5) w (pA (gA S 21) j) (pA (gA S 20) j))]) (S' := S) (P := vp_in ((nI j) + 1) 5 ∧ True) rfl ⟨(vj (by omega) (by omega)).2, trivial⟩ ?_
        refine fV.to (L' := [(0, .ref 18), (1, .int (nI j)), (2, .int (nI w)), (3, .ref 4), (4, .int (hAxI (gA S 5) w)), (5, .long (zWy (gA S 5) w (pA (gA S 21) j) (pA (gA S 20) j))), (7, .long (zTw (gA S 5) w (pA (gA S 21) j))), (9, .long (zWh (gA S 5) w (pA (gA S 21) j) (pA (gA S 20) j))), (11, .long (zPt (gA S 5) w (pA (gA S 21) j) (pA (gA S 20) j))), (13, .int 1), (14, .int 1)]) (st' := [.long (gB S 23 (j + 1)), .long (zPt (gA S 5) w (pA (gA S 21) j) (pA (gA S 20) j))]) rfl rfl (by rw [show (gB S 23 ((nI j) + 1).toNatClampNeg : Int64) = gB S 23 (j + 1) from by rw [(cj (j := j) (by omega)).2]]) rfl ?_
        refine fV.run iX3_setBounce_118_7 oX3_setBounce_118_7 (pc' := 127) (L' := [(0, .ref 18), (1, .int (nI j)), (2, .int (nI w)), (3, .ref 4), (4, .int (hAxI (gA S 5) w)), (5, .long (zWy (gA S 5) w (pA (gA S 21) j) (pA (gA S 20) j))), (7, .long (zTw (gA S 5) w (pA (gA S 21) j))), (9, .long (zWh (gA S 5) w (pA (gA S 21) j) (pA (gA S 20) j))), (11, .long (zPt (gA S 5) w (pA (gA S 21) j) (pA (gA S 20) j))), (13, .int 1), (14, .int 1)]) (st' := [.long (gB S 22 ((nI j) + 1).toNatClampNeg), .long ((zPt (gA S 5) w (pA (gA S 21) j) (pA (gA S 20) j)) * (gB S 23 (j + 1)))]) (S' := S) (P := vp_in ((nI j) + 1) 5 ∧ True) rfl ⟨(vj (by omega) (by omega)).2, trivial⟩ ?_
        refine fV.to (L' := [(0, .ref 18), (1, .int (nI j)), (2, .int (nI w)), (3, .ref 4), (4, .int (hAxI (gA S 5) w)), (5, .long (zWy (gA S 5) w (pA (gA S 21) j) (pA (gA S 20) j))), (7, .long (zTw (gA S 5) w (pA (gA S 21) j))), (9, .long (zWh (gA S 5) w (pA (gA S 21) j) (pA (gA S 20) j))), (11, .long (zPt (gA S 5) w (pA (gA S 21) j) (pA (gA S 20) j))), (13, .int 1), (14, .int 1)]) (st' := [.long (gB S 22 (j + 1)), .long ((zPt (gA S 5) w (pA (gA S 21) j) (pA (gA S 20) j)) * (gB S 23 (j + 1)))]) rfl rfl (by rw [show (gB S 22 ((nI j) + 1).toNatClampNeg : Int64) = gB S 22 (j + 1) from by rw [(cj (j := j) (by omega)).2]]) rfl ?_
        refine fV.run iX3_setBounce_127_3 oX3_setBounce_127_3 (pc' := 131) (L' := [(0, .ref 18), (1, .int (nI j)), (2, .int (nI w)), (3, .ref 4), (4, .int (hAxI (gA S 5) w)), (5, .long (zWy (gA S 5) w (pA (gA S 21) j) (pA (gA S 20) j))), (7, .long (zTw (gA S 5) w (pA (gA S 21) j))), (9, .long (zWh (gA S 5) w (pA (gA S 21) j) (pA (gA S 20) j))), (11, .long (zPt (gA S 5) w (pA (gA S 21) j) (pA (gA S 20) j))), (13, .int 1), (14, .int 1)]) (st' := [.int (lg_cmp ((zPt (gA S 5) w (pA (gA S 21) j) (pA (gA S 20) j)) * (gB S 23 (j + 1))) ((gB S 22 (j + 1)) * (zWh (gA S 5) w (pA (gA S 21) j) (pA (gA S 20) j))))]) (S' := S) rfl trivial ?_
        refine fV.lif_gt bX3_setBounce_131 (fun c131 => ?_) (fun c131 => ?_)
        · refine fV.run iX3_setBounce_138_3 oX3_setBounce_138_3 (pc' := 143) (L' := [(0, .ref 18), (1, .int (nI j)), (2, .int (nI w)), (3, .ref 4), (4, .int (hAxI (gA S 5) w)), (5, .long (zWy (gA S 5) w (pA (gA S 21) j) (pA (gA S 20) j))), (7, .long (zTw (gA S 5) w (pA (gA S 21) j))), (9, .long (zWh (gA S 5) w (pA (gA S 21) j) (pA (gA S 20) j))), (11, .long (zPt (gA S 5) w (pA (gA S 21) j) (pA (gA S 20) j))), (13, .int 1), (14, .int 1), (15, .int 0)]) (st' := [.int 1]) (S' := S) rfl trivial ?_
          refine fV.if_ne bX3_setBounce_143 (fun c143 => ?_) (fun c143 => ?_)
          · refine fV.run iX3_setBounce_156_1 oX3_setBounce_156_1 (pc' := 157) (L' := [(0, .ref 18), (1, .int (nI j)), (2, .int (nI w)), (3, .ref 4), (4, .int (hAxI (gA S 5) w)), (5, .long (zWy (gA S 5) w (pA (gA S 21) j) (pA (gA S 20) j))), (7, .long (zTw (gA S 5) w (pA (gA S 21) j))), (9, .long (zWh (gA S 5) w (pA (gA S 21) j) (pA (gA S 20) j))), (11, .long (zPt (gA S 5) w (pA (gA S 21) j) (pA (gA S 20) j))), (13, .int 1), (14, .int 1), (15, .int 0)]) (st' := [.int 0]) (S' := S) rfl trivial ?_
            exact fV.zret rfl dX3_setBounce_157 (by decide) (Or.inr ⟨fun z => by obtain ⟨⟨z1, z2, z3⟩, z4⟩ := z; grind, rfl, Or.inl rfl⟩)
          · exact absurd c143 (by decide)
        · refine fV.run iX3_setBounce_134_4 oX3_setBounce_134_4 (pc' := 143) (L' := [(0, .ref 18), (1, .int (nI j)), (2, .int (nI w)), (3, .ref 4), (4, .int (hAxI (gA S 5) w)), (5, .long (zWy (gA S 5) w (pA (gA S 21) j) (pA (gA S 20) j))), (7, .long (zTw (gA S 5) w (pA (gA S 21) j))), (9, .long (zWh (gA S 5) w (pA (gA S 21) j) (pA (gA S 20) j))), (11, .long (zPt (gA S 5) w (pA (gA S 21) j) (pA (gA S 20) j))), (13, .int 1), (14, .int 1), (15, .int 1)]) (st' := [.int 1]) (S' := S) rfl trivial ?_
          refine fV.if_ne bX3_setBounce_143 (fun c143 => ?_) (fun c143 => ?_)
          · refine fV.run iX3_setBounce_156_1 oX3_setBounce_156_1 (pc' := 157) (L' := [(0, .ref 18), (1, .int (nI j)), (2, .int (nI w)), (3, .ref 4), (4, .int (hAxI (gA S 5) w)), (5, .long (zWy (gA S 5) w (pA (gA S 21) j) (pA (gA S 20) j))), (7, .long (zTw (gA S 5) w (pA (gA S 21) j))), (9, .long (zWh (gA S 5) w (pA (gA S 21) j) (pA (gA S 20) j))), (11, .long (zPt (gA S 5) w (pA (gA S 21) j) (pA (gA S 20) j))), (13, .int 1), (14, .int 1), (15, .int 1)]) (st' := [.int 0]) (S' := S) rfl trivial ?_
            exact fV.zret rfl dX3_setBounce_157 (by decide) (Or.inr ⟨fun z => by obtain ⟨⟨z1, z2, z3⟩, z4⟩ := z; grind, rfl, Or.inl rfl⟩)
          · exact absurd c143 (by decide)
  · refine fV.run iX3_setBounce_69_4 oX3_setBounce_69_4 (pc' := 79) (L' := [(0, .ref 18), (1, .int (nI j)), (2, .int (nI w)), (3, .ref 4), (4, .int (hAxI (gA S 5) w)), (5, .long (zWy (gA S 5) w (pA (gA S 21) j) (pA (gA S 20) j))), (7, .long (zTw (gA S 5) w (pA (gA S 21) j))), (9, .long (zWh (gA S 5) w (pA (gA S 21) j) (pA (gA S 20) j))), (11, .long (-(zTw (gA S 5) w (pA (gA S 21) j))))]) (st' := []) (S' := S) rfl trivial ?_
    refine fV.to (L' := [(0, .ref 18), (1, .int (nI j)), (2, .int (nI w)), (3, .ref 4), (4, .int (hAxI (gA S 5) w)), (5, .long (zWy (gA S 5) w (pA (gA S 21) j) (pA (gA S 20) j))), (7, .long (zTw (gA S 5) w (pA (gA S 21) j))), (9, .long (zWh (gA S 5) w (pA (gA S 21) j) (pA (gA S 20) j))), (11, .long (zPt (gA S 5) w (pA (gA S 21) j) (pA (gA S 20) j)))]) (st' := []) rfl (by rw [show (-(zTw (gA S 5) w (pA (gA S 21) j)) : Int64) = zPt (gA S 5) w (pA (gA S 21) j) (pA (gA S 20) j) from by unfold zPt; rw [if_pos (by grind)]]) rfl rfl ?_
    refine fV.run iX3_setBounce_79_3 oX3_setBounce_79_3 (pc' := 83) (L' := [(0, .ref 18), (1, .int (nI j)), (2, .int (nI w)), (3, .ref 4), (4, .int (hAxI (gA S 5) w)), (5, .long (zWy (gA S 5) w (pA (gA S 21) j) (pA (gA S 20) j))), (7, .long (zTw (gA S 5) w (pA (gA S 21) j))), (9, .long (zWh (gA S 5) w (pA (gA S 21) j) (pA (gA S 20) j))), (11, .long (zPt (gA S 5) w (pA (gA S 21) j) (pA (gA S 20) j)))]) (st' := [.int (lg_cmp (zWh (gA S 5) w (pA (gA S 21) j) (pA (gA S 20) j)) 0)]) (S' := S) rfl trivial ?_
    refine fV.lif_ne bX3_setBounce_83 (fun c83 => ?_) (fun c83 => ?_)
    · refine fV.run iX3_setBounce_90_5 oX3_setBounce_90_5 (pc' := 98) (L' := [(0, .ref 18), (1, .int (nI j)), (2, .int (nI w)), (3, .ref 4), (4, .int (hAxI (gA S 5) w)), (5, .long (zWy (gA S 5) w (pA (gA S 21) j) (pA (gA S 20) j))), (7, .long (zTw (gA S 5) w (pA (gA S 21) j))), (9, .long (zWh (gA S 5) w (pA (gA S 21) j) (pA (gA S 20) j))), (11, .long (zPt (gA S 5) w (pA (gA S 21) j) (pA (gA S 20) j))), (13, .int 0)]) (st' := [.int (lg_cmp (zPt (gA S 5) w (pA (gA S 21) j) (pA (gA S 20) j)) (zWh (gA S 5) w (pA (gA S 21) j) (pA (gA S 20) j)))]) (S' := S) rfl trivial ?_
      refine fV.lif_lt bX3_setBounce_98 (fun c98 => ?_) (fun c98 => ?_)
      · refine fV.run iX3_setBounce_105_9 oX3_setBounce_105_9 (pc' := 118) (L' := [(0, .ref 18), (1, .int (nI j)), (2, .int (nI w)), (3, .ref 4), (4, .int (hAxI (gA S 5) w)), (5, .long (zWy (gA S 5) w (pA (gA S 21) j) (pA (gA S 20) j))), (7, .long (zTw (gA S 5) w (pA (gA S 21) j))), (9, .long (zWh (gA S 5) w (pA (gA S 21) j) (pA (gA S 20) j))), (11, .long (zPt (gA S 5) w (pA (gA S 21) j) (pA (gA S 20) j))), (13, .int 0), (14, .int 0)]) (st' := [.long (gB S 23 ((nI j) + 1).toNatClampNeg), .long (zPt (gA S 5) w (pA (gA S 21) j) (pA (gA S 20) j))]) (S' := S) (P := vp_in ((nI j) + 1) 5 ∧ True) rfl ⟨(vj (by omega) (by omega)).2, trivial⟩ ?_
        refine fV.to (L' := [(0, .ref 18), (1, .int (nI j)), (2, .int (nI w)), (3, .ref 4), (4, .int (hAxI (gA S 5) w)), (5, .long (zWy (gA S 5) w (pA (gA S 21) j) (pA (gA S 20) j))), (7, .long (zTw (gA S 5) w (pA (gA S 21) j))), (9, .long (zWh (gA S 5) w (pA (gA S 21) j) (pA (gA S 20) j))), (11, .long (zPt (gA S 5) w (pA (gA S 21) j) (pA (gA S 20) j))), (13, .int 0), (14, .int 0)]) (st' := [.long (gB S 23 (j + 1)), .long (zPt (gA S 5) w (pA (gA S 21) j) (pA (gA S 20) j))]) rfl rfl (by rw [show (gB S 23 ((nI j) + 1).toNatClampNeg : Int64) = gB S 23 (j + 1) from by rw [(cj (j := j) (by omega)).2]]) rfl ?_
        refine fV.run iX3_setBounce_118_7 oX3_setBounce_118_7 (pc' := 127) (L' := [(0, .ref 18), (1, .int (nI j)), (2, .int (nI w)), (3, .ref 4), (4, .int (hAxI (gA S 5) w)), (5, .long (zWy (gA S 5) w (pA (gA S 21) j) (pA (gA S 20) j))), (7, .long (zTw (gA S 5) w (pA (gA S 21) j))), (9, .long (zWh (gA S 5) w (pA (gA S 21) j) (pA (gA S 20) j))), (11, .long (zPt (gA S 5) w (pA (gA S 21) j) (pA (gA S 20) j))), (13, .int 0), (14, .int 0)]) (st' := [.long (gB S 22 ((nI j) + 1).toNatClampNeg), .long ((zPt (gA S 5) w (pA (gA S 21) j) (pA (gA S 20) j)) * (gB S 23 (j + 1)))]) (S' := S) (P := vp_in ((nI j) + 1) 5 ∧ True) rfl ⟨(vj (by omega) (by omega)).2, trivial⟩ ?_
        refine fV.to (L' := [(0, .ref 18), (1, .int (nI j)), (2, .int (nI w)), (3, .ref 4), (4, .int (hAxI (gA S 5) w)), (5, .long (zWy (gA S 5) w (pA (gA S 21) j) (pA (gA S 20) j))), (7, .long (zTw (gA S 5) w (pA (gA S 21) j))), (9, .long (zWh (gA S 5) w (pA (gA S 21) j) (pA (gA S 20) j))), (11, .long (zPt (gA S 5) w (pA (gA S 21) j) (pA (gA S 20) j))), (13, .int 0), (14, .int 0)]) (st' := [.long (gB S 22 (j + 1)), .long ((zPt (gA S 5) w (pA (gA S 21) j) (pA (gA S 20) j)) * (gB S 23 (j + 1)))]) rfl rfl (by rw [show (gB S 22 ((nI j) + 1).toNatClampNeg : Int64) = gB S 22 (j + 1) from by rw [(cj (j := j) (by omega)).2]]) rfl ?_
        refine fV.run iX3_setBounce_127_3 oX3_setBounce_127_3 (pc' := 131) (L' := [(0, .ref 18), (1, .int (nI j)), (2, .int (nI w)), (3, .ref 4), (4, .int (hAxI (gA S 5) w)), (5, .long (zWy (gA S 5) w (pA (gA S 21) j) (pA (gA S 20) j))), (7, .long (zTw (gA S 5) w (pA (gA S 21) j))), (9, .long (zWh (gA S 5) w (pA (gA S 21) j) (pA (gA S 20) j))), (11, .long (zPt (gA S 5) w (pA (gA S 21) j) (pA (gA S 20) j))), (13, .int 0), (14, .int 0)]) (st' := [.int (lg_cmp ((zPt (gA S 5) w (pA (gA S 21) j) (pA (gA S 20) j)) * (gB S 23 (j + 1))) ((gB S 22 (j + 1)) * (zWh (gA S 5) w (pA (gA S 21) j) (pA (gA S 20) j))))]) (S' := S) rfl trivial ?_
        refine fV.lif_gt bX3_setBounce_131 (fun c131 => ?_) (fun c131 => ?_)
        · refine fV.run iX3_setBounce_138_3 oX3_setBounce_138_3 (pc' := 143) (L' := [(0, .ref 18), (1, .int (nI j)), (2, .int (nI w)), (3, .ref 4), (4, .int (hAxI (gA S 5) w)), (5, .long (zWy (gA S 5) w (pA (gA S 21) j) (pA (gA S 20) j))), (7, .long (zTw (gA S 5) w (pA (gA S 21) j))), (9, .long (zWh (gA S 5) w (pA (gA S 21) j) (pA (gA S 20) j))), (11, .long (zPt (gA S 5) w (pA (gA S 21) j) (pA (gA S 20) j))), (13, .int 0), (14, .int 0), (15, .int 0)]) (st' := [.int 0]) (S' := S) rfl trivial ?_
          refine fV.if_ne bX3_setBounce_143 (fun c143 => ?_) (fun c143 => ?_)
          · exact absurd c143 (by decide)
          · refine fV.run iX3_setBounce_146_1 oX3_setBounce_146_1 (pc' := 148) (L' := [(0, .ref 18), (1, .int (nI j)), (2, .int (nI w)), (3, .ref 4), (4, .int (hAxI (gA S 5) w)), (5, .long (zWy (gA S 5) w (pA (gA S 21) j) (pA (gA S 20) j))), (7, .long (zTw (gA S 5) w (pA (gA S 21) j))), (9, .long (zWh (gA S 5) w (pA (gA S 21) j) (pA (gA S 20) j))), (11, .long (zPt (gA S 5) w (pA (gA S 21) j) (pA (gA S 20) j))), (13, .int 0), (14, .int 0), (15, .int 0)]) (st' := [.int 0]) (S' := S) rfl trivial ?_
            refine fV.if_ne bX3_setBounce_148 (fun c148 => ?_) (fun c148 => ?_)
            · exact absurd c148 (by decide)
            · refine fV.run iX3_setBounce_151_1 oX3_setBounce_151_1 (pc' := 153) (L' := [(0, .ref 18), (1, .int (nI j)), (2, .int (nI w)), (3, .ref 4), (4, .int (hAxI (gA S 5) w)), (5, .long (zWy (gA S 5) w (pA (gA S 21) j) (pA (gA S 20) j))), (7, .long (zTw (gA S 5) w (pA (gA S 21) j))), (9, .long (zWh (gA S 5) w (pA (gA S 21) j) (pA (gA S 20) j))), (11, .long (zPt (gA S 5) w (pA (gA S 21) j) (pA (gA S 20) j))), (13, .int 0), (14, .int 0), (15, .int 0)]) (st' := [.int 0]) (S' := S) rfl trivial ?_
              refine fV.if_eq bX3_setBounce_153 (fun c153 => ?_) (fun c153 => ?_)
              · refine fV.run iX3_setBounce_158_16 oX3_setBounce_158_16 (pc' := 182) (L' := [(0, .ref 18), (1, .int (nI j)), (2, .int (nI w)), (3, .ref 4), (4, .int (hAxI (gA S 5) w)), (5, .long (zWy (gA S 5) w (pA (gA S 21) j) (pA (gA S 20) j))), (7, .long (zTw (gA S 5) w (pA (gA S 21) j))), (9, .long (zWh (gA S 5) w (pA (gA S 21) j) (pA (gA S 20) j))), (11, .long (zPt (gA S 5) w (pA (gA S 21) j) (pA (gA S 20) j))), (13, .int 0), (14, .int 0), (15, .int 0)]) (st' := [.ref 4, .long (zWh (gA S 5) w (pA (gA S 21) j) (pA (gA S 20) j)), .long (zPt (gA S 5) w (pA (gA S 21) j) (pA (gA S 20) j)), .int (nI w), .int (nI j), .ref 18]) (S' := (wB (wB S 22 (vp_updL (gB S 22) (nI j).toNatClampNeg (zPt (gA S 5) w (pA (gA S 21) j) (pA (gA S 20) j)))) 23 (vp_updL (gB S 23) (nI j).toNatClampNeg (zWh (gA S 5) w (pA (gA S 21) j) (pA (gA S 20) j))))) (P := vp_in (nI j) 5 ∧ vp_in (nI j) 5 ∧ True) rfl ⟨(vj (by omega) (by omega)).1, (vj (by omega) (by omega)).1, trivial⟩ ?_
                refine fV.callV (M2 := mX3_isOnWall) (d := d + 1) (o := 18) (av := [.int (nI j), .int (nI w), .long (zPt (gA S 5) w (pA (gA S 21) j) (pA (gA S 20) j)), .long (zWh (gA S 5) w (pA (gA S 21) j) (pA (gA S 20) j)), .ref 4]) (rest := []) kX3_isOnWall dX3_setBounce_182 lX3_60 rfl rfl rfl (Nat.le_of_ble_eq_true rfl) (fRoom (by decide)) ⟨Nat.le_refl _, Nat.le_refl _⟩ (qX3_on (S := (wB (wB S 22 (vp_updL (gB S 22) (nI j).toNatClampNeg (zPt (gA S 5) w (pA (gA S 21) j) (pA (gA S 20) j)))) 23 (vp_updL (gB S 23) (nI j).toNatClampNeg (zWh (gA S 5) w (pA (gA S 21) j) (pA (gA S 20) j))))) (geo_wB (geo_wB HG)) hw hb hj _ _) ?_
                rintro r9 S9 h9
                rcases h9 with ⟨hz, rfl, h9⟩ | ⟨hz, rfl, h9⟩
                · rw [h9]
                  clear h9 S9
                  simp only [gA_wB, gA_wI, gA_wJ] at hz
                  have hz : zOn (gA S 5) w (pA (gA S 21) j) (pA (gA S 20) j) (zPt (gA S 5) w (pA (gA S 21) j) (pA (gA S 20) j)) (zWh (gA S 5) w (pA (gA S 21) j) (pA (gA S 20) j)) := hz
                  refine fV.to (pc' := 185) (L' := [(0, .ref 18), (1, .int (nI j)), (2, .int (nI w)), (3, .ref 4), (4, .int (hAxI (gA S 5) w)), (5, .long (zWy (gA S 5) w (pA (gA S 21) j) (pA (gA S 20) j))), (7, .long (zTw (gA S 5) w (pA (gA S 21) j))), (9, .long (zWh (gA S 5) w (pA (gA S 21) j) (pA (gA S 20) j))), (11, .long (zPt (gA S 5) w (pA (gA S 21) j) (pA (gA S 20) j))), (13, .int 0), (14, .int 0), (15, .int 0)]) (st' := [.int 1]) (S' := (wB (wB S 22 (vp_updL (gB S 22) (nI j).toNatClampNeg (zPt (gA S 5) w (pA (gA S 21) j) (pA (gA S 20) j)))) 23 (vp_updL (gB S 23) (nI j).toNatClampNeg (zWh (gA S 5) w (pA (gA S 21) j) (pA (gA S 20) j))))) rfl rfl rfl rfl ?_
                  exact fV.zret rfl dX3_setBounce_185 (by decide) (Or.inl ⟨⟨⟨c83, by grind, by grind⟩, hz⟩, rfl, by unfold sB; rw [(cj (j := j) (by omega)).1]⟩)
                · rw [h9]
                  clear h9 S9
                  simp only [gA_wB, gA_wI, gA_wJ] at hz
                  have hz : ¬ zOn (gA S 5) w (pA (gA S 21) j) (pA (gA S 20) j) (zPt (gA S 5) w (pA (gA S 21) j) (pA (gA S 20) j)) (zWh (gA S 5) w (pA (gA S 21) j) (pA (gA S 20) j)) := hz
                  refine fV.to (pc' := 185) (L' := [(0, .ref 18), (1, .int (nI j)), (2, .int (nI w)), (3, .ref 4), (4, .int (hAxI (gA S 5) w)), (5, .long (zWy (gA S 5) w (pA (gA S 21) j) (pA (gA S 20) j))), (7, .long (zTw (gA S 5) w (pA (gA S 21) j))), (9, .long (zWh (gA S 5) w (pA (gA S 21) j) (pA (gA S 20) j))), (11, .long (zPt (gA S 5) w (pA (gA S 21) j) (pA (gA S 20) j))), (13, .int 0), (14, .int 0), (15, .int 0)]) (st' := [.int 0]) (S' := (wB (wB S 22 (vp_updL (gB S 22) (nI j).toNatClampNeg (zPt (gA S 5) w (pA (gA S 21) j) (pA (gA S 20) j)))) 23 (vp_updL (gB S 23) (nI j).toNatClampNeg (zWh (gA S 5) w (pA (gA S 21) j) (pA (gA S 20) j))))) rfl rfl rfl rfl ?_
                  exact fV.zret rfl dX3_setBounce_185 (by decide) (Or.inr ⟨fun z => hz z.2, rfl, Or.inr (by unfold sB; rw [(cj (j := j) (by omega)).1])⟩)
              · exact absurd c153 (by decide)
        · refine fV.run iX3_setBounce_134_4 oX3_setBounce_134_4 (pc' := 143) (L' := [(0, .ref 18), (1, .int (nI j)), (2, .int (nI w)), (3, .ref 4), (4, .int (hAxI (gA S 5) w)), (5, .long (zWy (gA S 5) w (pA (gA S 21) j) (pA (gA S 20) j))), (7, .long (zTw (gA S 5) w (pA (gA S 21) j))), (9, .long (zWh (gA S 5) w (pA (gA S 21) j) (pA (gA S 20) j))), (11, .long (zPt (gA S 5) w (pA (gA S 21) j) (pA (gA S 20) j))), (13, .int 0), (14, .int 0), (15, .int 1)]) (st' := [.int 0]) (S' := S) rfl trivial ?_
          refine fV.if_ne bX3_setBounce_143 (fun c143 => ?_) (fun c143 => ?_)
          · exact absurd c143 (by decide)
          · refine fV.run iX3_setBounce_146_1 oX3_setBounce_146_1 (pc' := 148) (L' := [(0, .ref 18), (1, .int (nI j)), (2, .int (nI w)), (3, .ref 4), (4, .int (hAxI (gA S 5) w)), (5, .long (zWy (gA S 5) w (pA (gA S 21) j) (pA (gA S 20) j))), (7, .long (zTw (gA S 5) w (pA (gA S 21) j))), (9, .long (zWh (gA S 5) w (pA (gA S 21) j) (pA (gA S 20) j))), (11, .long (zPt (gA S 5) w (pA (gA S 21) j) (pA (gA S 20) j))), (13, .int 0), (14, .int 0), (15, .int 1)]) (st' := [.int 0]) (S' := S) rfl trivial ?_
            refine fV.if_ne bX3_setBounce_148 (fun c148 => ?_) (fun c148 => ?_)
            · exact absurd c148 (by decide)
            · refine fV.run iX3_setBounce_151_1 oX3_setBounce_151_1 (pc' := 153) (L' := [(0, .ref 18), (1, .int (nI j)), (2, .int (nI w)), (3, .ref 4), (4, .int (hAxI (gA S 5) w)), (5, .long (zWy (gA S 5) w (pA (gA S 21) j) (pA (gA S 20) j))), (7, .long (zTw (gA S 5) w (pA (gA S 21) j))), (9, .long (zWh (gA S 5) w (pA (gA S 21) j) (pA (gA S 20) j))), (11, .long (zPt (gA S 5) w (pA (gA S 21) j) (pA (gA S 20) j))), (13, .int 0), (14, .int 0), (15, .int 1)]) (st' := [.int 1]) (S' := S) rfl trivial ?_
              refine fV.if_eq bX3_setBounce_153 (fun c153 => ?_) (fun c153 => ?_)
              · exact absurd c153 (by decide)
              · refine fV.run iX3_setBounce_156_1 oX3_setBounce_156_1 (pc' := 157) (L' := [(0, .ref 18), (1, .int (nI j)), (2, .int (nI w)), (3, .ref 4), (4, .int (hAxI (gA S 5) w)), (5, .long (zWy (gA S 5) w (pA (gA S 21) j) (pA (gA S 20) j))), (7, .long (zTw (gA S 5) w (pA (gA S 21) j))), (9, .long (zWh (gA S 5) w (pA (gA S 21) j) (pA (gA S 20) j))), (11, .long (zPt (gA S 5) w (pA (gA S 21) j) (pA (gA S 20) j))), (13, .int 0), (14, .int 0), (15, .int 1)]) (st' := [.int 0]) (S' := S) rfl trivial ?_
                exact fV.zret rfl dX3_setBounce_157 (by decide) (Or.inr ⟨fun z => by obtain ⟨⟨z1, z2, z3⟩, z4⟩ := z; grind, rfl, Or.inl rfl⟩)
      · refine fV.run iX3_setBounce_101_10 oX3_setBounce_101_10 (pc' := 118) (L' := [(0, .ref 18), (1, .int (nI j)), (2, .int (nI w)), (3, .ref 4), (4, .int (hAxI (gA S 5) w)), (5, .long (zWy (gA S 5) w (pA (gA S 21) j) (pA (gA S 20) j))), (7, .long (zTw (gA S 5) w (pA (gA S 21) j))), (9, .long (zWh (gA S 5) w (pA (gA S 21) j) (pA (gA S 20) j))), (11, .long (zPt (gA S 5) w (pA (gA S 21) j) (pA (gA S 20) j))), (13, .int 0), (14, .int 1)]) (st' := [.long (gB S 23 ((nI j) + 1).toNatClampNeg), .long (zPt (gA S 5) w (pA (gA S 21) j) (pA (gA S 20) j))]) (S' := S) (P := vp_in ((nI j) + 1) 5 ∧ True) rfl ⟨(vj (by omega) (by omega)).2, trivial⟩ ?_
        refine fV.to (L' := [(0, .ref 18), (1, .int (nI j)), (2, .int (nI w)), (3, .ref 4), (4, .int (hAxI (gA S 5) w)), (5, .long (zWy (gA S 5) w (pA (gA S 21) j) (pA (gA S 20) j))), (7, .long (zTw (gA S 5) w (pA (gA S 21) j))), (9, .long (zWh (gA S 5) w (pA (gA S 21) j) (pA (gA S 20) j))), (11, .long (zPt (gA S 5) w (pA (gA S 21) j) (pA (gA S 20) j))), (13, .int 0), (14, .int 1)]) (st' := [.long (gB S 23 (j + 1)), .long (zPt (gA S 5) w (pA (gA S 21) j) (pA (gA S 20) j))]) rfl rfl (by rw [show (gB S 23 ((nI j) + 1).toNatClampNeg : Int64) = gB S 23 (j + 1) from by rw [(cj (j := j) (by omega)).2]]) rfl ?_
        refine fV.run iX3_setBounce_118_7 oX3_setBounce_118_7 (pc' := 127) (L' := [(0, .ref 18), (1, .int (nI j)), (2, .int (nI w)), (3, .ref 4), (4, .int (hAxI (gA S 5) w)), (5, .long (zWy (gA S 5) w (pA (gA S 21) j) (pA (gA S 20) j))), (7, .long (zTw (gA S 5) w (pA (gA S 21) j))), (9, .long (zWh (gA S 5) w (pA (gA S 21) j) (pA (gA S 20) j))), (11, .long (zPt (gA S 5) w (pA (gA S 21) j) (pA (gA S 20) j))), (13, .int 0), (14, .int 1)]) (st' := [.long (gB S 22 ((nI j) + 1).toNatClampNeg), .long ((zPt (gA S 5) w (pA (gA S 21) j) (pA (gA S 20) j)) * (gB S 23 (j + 1)))]) (S' := S) (P := vp_in ((nI j) + 1) 5 ∧ True) rfl ⟨(vj (by omega) (by omega)).2, trivial⟩ ?_
        refine fV.to (L' := [(0, .ref 18), (1, .int (nI j)), (2, .int (nI w)), (3, .ref 4), (4, .int (hAxI (gA S 5) w)), (5, .long (zWy (gA S 5) w (pA (gA S 21) j) (pA (gA S 20) j))), (7, .long (zTw (gA S 5) w (pA (gA S 21) j))), (9, .long (zWh (gA S 5) w (pA (gA S 21) j) (pA (gA S 20) j))), (11, .long (zPt (gA S 5) w (pA (gA S 21) j) (pA (gA S 20) j))), (13, .int 0), (14, .int 1)]) (st' := [.long (gB S 22 (j + 1)), .long ((zPt (gA S 5) w (pA (gA S 21) j) (pA (gA S 20) j)) * (gB S 23 (j + 1)))]) rfl rfl (by rw [show (gB S 22 ((nI j) + 1).toNatClampNeg : Int64) = gB S 22 (j + 1) from by rw [(cj (j := j) (by omega)).2]]) rfl ?_
        refine fV.run iX3_setBounce_127_3 oX3_setBounce_127_3 (pc' := 131) (L' := [(0, .ref 18), (1, .int (nI j)), (2, .int (nI w)), (3, .ref 4), (4, .int (hAxI (gA S 5) w)), (5, .long (zWy (gA S 5) w (pA (gA S 21) j) (pA (gA S 20) j))), (7, .long (zTw (gA S 5) w (pA (gA S 21) j))), (9, .long (zWh (gA S 5) w (pA (gA S 21) j) (pA (gA S 20) j))), (11, .long (zPt (gA S 5) w (pA (gA S 21) j) (pA (gA S 20) j))), (13, .int 0), (14, .int 1)]) (st' := [.int (lg_cmp ((zPt (gA S 5) w (pA (gA S 21) j) (pA (gA S 20) j)) * (gB S 23 (j + 1))) ((gB S 22 (j + 1)) * (zWh (gA S 5) w (pA (gA S 21) j) (pA (gA S 20) j))))]) (S' := S) rfl trivial ?_
        refine fV.lif_gt bX3_setBounce_131 (fun c131 => ?_) (fun c131 => ?_)
        · refine fV.run iX3_setBounce_138_3 oX3_setBounce_138_3 (pc' := 143) (L' := [(0, .ref 18), (1, .int (nI j)), (2, .int (nI w)), (3, .ref 4), (4, .int (hAxI (gA S 5) w)), (5, .long (zWy (gA S 5) w (pA (gA S 21) j) (pA (gA S 20) j))), (7, .long (zTw (gA S 5) w (pA (gA S 21) j))), (9, .long (zWh (gA S 5) w (pA (gA S 21) j) (pA (gA S 20) j))), (11, .long (zPt (gA S 5) w (pA (gA S 21) j) (pA (gA S 20) j))), (13, .int 0), (14, .int 1), (15, .int 0)]) (st' := [.int 0]) (S' := S) rfl trivial ?_
          refine fV.if_ne bX3_setBounce_143 (fun c143 => ?_) (fun c143 => ?_)
          · exact absurd c143 (by decide)
          · refine fV.run iX3_setBounce_146_1 oX3_setBounce_146_1 (pc' := 148) (L' := [(0, .ref 18), (1, .int (nI j)), (2, .int (nI w)), (3, .ref 4), (4, .int (hAxI (gA S 5) w)), (5, .long (zWy (gA S 5) w (pA (gA S 21) j) (pA (gA S 20) j))), (7, .long (zTw (gA S 5) w (pA (gA S 21) j))), (9, .long (zWh (gA S 5) w (pA (gA S 21) j) (pA (gA S 20) j))), (11, .long (zPt (gA S 5) w (pA (gA S 21) j) (pA (gA S 20) j))), (13, .int 0), (14, .int 1), (15, .int 0)]) (st' := [.int 1]) (S' := S) rfl trivial ?_
            refine fV.if_ne bX3_setBounce_148 (fun c148 => ?_) (fun c148 => ?_)
            · refine fV.run iX3_setBounce_156_1 oX3_setBounce_156_1 (pc' := 157) (L' := [(0, .ref 18), (1, .int (nI j)), (2, .int (nI w)), (3, .ref 4), (4, .int (hAxI (gA S 5) w)), (5, .long (zWy (gA S 5) w (pA (gA S 21) j) (pA (gA S 20) j))), (7, .long (zTw (gA S 5) w (pA (gA S 21) j))), (9, .long (zWh (gA S 5) w (pA (gA S 21) j) (pA (gA S 20) j))), (11, .long (zPt (gA S 5) w (pA (gA S 21) j) (pA (gA S 20) j))), (13, .int 0), (14, .int 1), (15, .int 0)]) (st' := [.int 0]) (S' := S) rfl trivial ?_
              exact fV.zret rfl dX3_setBounce_157 (by decide) (Or.inr ⟨fun z => by obtain ⟨⟨z1, z2, z3⟩, z4⟩ := z; grind, rfl, Or.inl rfl⟩)
            · exact absurd c148 (by decide)
        · refine fV.run iX3_setBounce_134_4 oX3_setBounce_134_4 (pc' := 143) (L' := [(0, .ref 18), (1, .int (nI j)), (2, .int (nI w)), (3, .ref 4), (4, .int (hAxI (gA S 5) w)), (5, .long (zWy (gA S 5) w (pA (gA S 21) j) (pA (gA S 20) j))), (7, .long (zTw (gA S 5) w (pA (gA S 21) j))), (9, .long (zWh (gA S 5) w (pA (gA S 21) j) (pA (gA S 20) j))), (11, .long (zPt (gA S 5) w (pA (gA S 21) j) (pA (gA S 20) j))), (13, .int 0), (14, .int 1), (15, .int 1)]) (st' := [.int 0]) (S' := S) rfl trivial ?_
          refine fV.if_ne bX3_setBounce_143 (fun c143 => ?_) (fun c143 => ?_)
          · exact absurd c143 (by decide)
          · refine fV.run iX3_setBounce_146_1 oX3_setBounce_146_1 (pc' := 148) (L' := [(0, .ref 18), (1, .int (nI j)), (2, .int (nI w)), (3, .ref 4), (4, .int (hAxI (gA S 5) w)), (5, .long (zWy (gA S 5) w (pA (gA S 21) j) (pA (gA S 20) j))), (7, .long (zTw (gA S 5) w (pA (gA S 21) j))), (9, .long (zWh (gA S 5) w (pA (gA S 21) j) (pA (gA S 20) j))), (11, .long (zPt (gA S 5) w (pA (gA S 21) j) (pA (gA S 20) j))), (13, .int 0), (14, .int 1), (15, .int 1)]) (st' := [.int 1]) (S' := S) rfl trivial ?_
            refine fV.if_ne bX3_setBounce_148 (fun c148 => ?_) (fun c148 => ?_)
            · refine fV.run iX3_setBounce_156_1 oX3_setBounce_156_1 (pc' := 157) (L' := [(0, .ref 18), (1, .int (nI j)), (2, .int (nI w)), (3, .ref 4), (4, .int (hAxI (gA S 5) w)), (5, .long (zWy (gA S 5) w (pA (gA S 21) j) (pA (gA S 20) j))), (7, .long (zTw (gA S 5) w (pA (gA S 21) j))), (9, .long (zWh (gA S 5) w (pA (gA S 21) j) (pA (gA S 20) j))), (11, .long (zPt (gA S 5) w (pA (gA S 21) j) (pA (gA S 20) j))), (13, .int 0), (14, .int 1), (15, .int 1)]) (st' := [.int 0]) (S' := S) rfl trivial ?_
              exact fV.zret rfl dX3_setBounce_157 (by decide) (Or.inr ⟨fun z => by obtain ⟨⟨z1, z2, z3⟩, z4⟩ := z; grind, rfl, Or.inl rfl⟩)
            · exact absurd c148 (by decide)
    · refine fV.run iX3_setBounce_86_6 oX3_setBounce_86_6 (pc' := 98) (L' := [(0, .ref 18), (1, .int (nI j)), (2, .int (nI w)), (3, .ref 4), (4, .int (hAxI (gA S 5) w)), (5, .long (zWy (gA S 5) w (pA (gA S 21) j) (pA (gA S 20) j))), (7, .long (zTw (gA S 5) w (pA (gA S 21) j))), (9, .long (zWh (gA S 5) w (pA (gA S 21) j) (pA (gA S 20) j))), (11, .long (zPt (gA S 5) w (pA (gA S 21) j) (pA (gA S 20) j))), (13, .int 1)]) (st' := [.int (lg_cmp (zPt (gA S 5) w (pA (gA S 21) j) (pA (gA S 20) j)) (zWh (gA S 5) w (pA (gA S 21) j) (pA (gA S 20) j)))]) (S' := S) rfl trivial ?_
      refine fV.lif_lt bX3_setBounce_98 (fun c98 => ?_) (fun c98 => ?_)
      · refine fV.run iX3_setBounce_105_9 oX3_setBounce_105_9 (pc' := 118) (L' := [(0, .ref 18), (1, .int (nI j)), (2, .int (nI w)), (3, .ref 4), (4, .int (hAxI (gA S 5) w)), (5, .long (zWy (gA S 5) w (pA (gA S 21) j) (pA (gA S 20) j))), (7, .long (zTw (gA S 5) w (pA (gA S 21) j))), (9, .long (zWh (gA S 5) w (pA (gA S 21) j) (pA (gA S 20) j))), (11, .long (zPt (gA S 5) w (pA (gA S 21) j) (pA (gA S 20) j))), (13, .int 1), (14, .int 0)]) (st' := [.long (gB S 23 ((nI j) + 1).toNatClampNeg), .long (zPt (gA S 5) w (pA (gA S 21) j) (pA (gA S 20) j))]) (S' := S) (P := vp_in ((nI j) + 1) 5 ∧ True) rfl ⟨(vj (by omega) (by omega)).2, trivial⟩ ?_
        refine fV.to (L' := [(0, .ref 18), (1, .int (nI j)), (2, .int (nI w)), (3, .ref 4), (4, .int (hAxI (gA S 5) w)), (5, .long (zWy (gA S 5) w (pA (gA S 21) j) (pA (gA S 20) j))), (7, .long (zTw (gA S 5) w (pA (gA S 21) j))), (9, .long (zWh (gA S 5) w (pA (gA S 21) j) (pA (gA S 20) j))), (11, .long (zPt (gA S 5) w (pA (gA S 21) j) (pA (gA S 20) j))), (13, .int 1), (14, .int 0)]) (st' := [.long (gB S 23 (j + 1)), .long (zPt (gA S 5) w (pA (gA S 21) j) (pA (gA S 20) j))]) rfl rfl (by rw [show (gB S 23 ((nI j) + 1).toNatClampNeg : Int64) = gB S 23 (j + 1) from by rw [(cj (j := j) (by omega)).2]]) rfl ?_
        refine fV.run iX3_setBounce_118_7 oX3_setBounce_118_7 (pc' := 127) (L' := [(0, .ref 18), (1, .int (nI j)), (2, .int (nI w)), (3, .ref 4), (4, .int (hAxI (gA S 5) w)), (5, .long (zWy (gA S 5) w (pA (gA S 21) j) (pA (gA S 20) j))), (7, .long (zTw (gA S 5) w (pA (gA S 21) j))), (9, .long (zWh (gA S 5) w (pA (gA S 21) j) (pA (gA S 20) j))), (11, .long (zPt (gA S 5) w (pA (gA S 21) j) (pA (gA S 20) j))), (13, .int 1), (14, .int 0)]) (st' := [.long (gB S 22 ((nI j) + 1).toNatClampNeg), .long ((zPt (gA S 5) w (pA (gA S 21) j) (pA (gA S 20) j)) * (gB S 23 (j + 1)))]) (S' := S) (P := vp_in ((nI j) + 1) 5 ∧ True) rfl ⟨(vj (by omega) (by omega)).2, trivial⟩ ?_
        refine fV.to (L' := [(0, .ref 18), (1, .int (nI j)), (2, .int (nI w)), (3, .ref 4), (4, .int (hAxI (gA S 5) w)), (5, .long (zWy (gA S 5) w (pA (gA S 21) j) (pA (gA S 20) j))), (7, .long (zTw (gA S 5) w (pA (gA S 21) j))), (9, .long (zWh (gA S 5) w (pA (gA S 21) j) (pA (gA S 20) j))), (11, .long (zPt (gA S 5) w (pA (gA S 21) j) (pA (gA S 20) j))), (13, .int 1), (14, .int 0)]) (st' := [.long (gB S 22 (j + 1)), .long ((zPt (gA S 5) w (pA (gA S 21) j) (pA (gA S 20) j)) * (gB S 23 (j + 1)))]) rfl rfl (by rw [show (gB S 22 ((nI j) + 1).toNatClampNeg : Int64) = gB S 22 (j + 1) from by rw [(cj (j := j) (by omega)).2]]) rfl ?_
        refine fV.run iX3_setBounce_127_3 oX3_setBounce_127_3 (pc' := 131) (L' := [(0, .ref 18), (1, .int (nI j)), (2, .int (nI w)), (3, .ref 4), (4, .int (hAxI (gA S 5) w)), (5, .long (zWy (gA S 5) w (pA (gA S 21) j) (pA (gA S 20) j))), (7, .long (zTw (gA S 5) w (pA (gA S 21) j))), (9, .long (zWh (gA S 5) w (pA (gA S 21) j) (pA (gA S 20) j))), (11, .long (zPt (gA S 5) w (pA (gA S 21) j) (pA (gA S 20) j))), (13, .int 1), (14, .int 0)]) (st' := [.int (lg_cmp ((zPt (gA S 5) w (pA (gA S 21) j) (pA (gA S 20) j)) * (gB S 23 (j + 1))) ((gB S 22 (j + 1)) * (zWh (gA S 5) w (pA (gA S 21) j) (pA (gA S 20) j))))]) (S' := S) rfl trivial ?_
        refine fV.lif_gt bX3_setBounce_131 (fun c131 => ?_) (fun c131 => ?_)
        · refine fV.run iX3_setBounce_138_3 oX3_setBounce_138_3 (pc' := 143) (L' := [(0, .ref 18), (1, .int (nI j)), (2, .int (nI w)), (3, .ref 4), (4, .int (hAxI (gA S 5) w)), (5, .long (zWy (gA S 5) w (pA (gA S 21) j) (pA (gA S 20) j))), (7, .long (zTw (gA S 5) w (pA (gA S 21) j))), (9, .long (zWh (gA S 5) w (pA (gA S 21) j) (pA (gA S 20) j))), (11, .long (zPt (gA S 5) w (pA (gA S 21) j) (pA (gA S 20) j))), (13, .int 1), (14, .int 0), (15, .int 0)]) (st' := [.int 1]) (S' := S) rfl trivial ?_
          refine fV.if_ne bX3_setBounce_143 (fun c143 => ?_) (fun c143 => ?_)
          · refine fV.run iX3_setBounce_156_1 oX3_setBounce_156_1 (pc' := 157) (L' := [(0, .ref 18), (1, .int (nI j)), (2, .int (nI w)), (3, .ref 4), (4, .int (hAxI (gA S 5) w)), (5, .long (zWy (gA S 5) w (pA (gA S 21) j) (pA (gA S 20) j))), (7, .long (zTw (gA S 5) w (pA (gA S 21) j))), (9, .long (zWh (gA S 5) w (pA (gA S 21) j) (pA (gA S 20) j))), (11, .long (zPt (gA S 5) w (pA (gA S 21) j) (pA (gA S 20) j))), (13, .int 1), (14, .int 0), (15, .int 0)]) (st' := [.int 0]) (S' := S) rfl trivial ?_
            exact fV.zret rfl dX3_setBounce_157 (by decide) (Or.inr ⟨fun z => by obtain ⟨⟨z1, z2, z3⟩, z4⟩ := z; grind, rfl, Or.inl rfl⟩)
          · exact absurd c143 (by decide)
        · refine fV.run iX3_setBounce_134_4 oX3_setBounce_134_4 (pc' := 143) (L' := [(0, .ref 18), (1, .int (nI j)), (2, .int (nI w)), (3, .ref 4), (4, .int (hAxI (gA S 5) w)), (5, .long (zWy (gA S 5) w (pA (gA S 21) j) (pA (gA S 20) j))), (7, .long (zTw (gA S 5) w (pA (gA S 21) j))), (9, .long (zWh (gA S 5) w (pA (gA S 21) j) (pA (gA S 20) j))), (11, .long (zPt (gA S 5) w (pA (gA S 21) j) (pA (gA S 20) j))), (13, .int 1), (14, .int 0), (15, .int 1)]) (st' := [.int 1]) (S' := S) rfl trivial ?_
          refine fV.if_ne bX3_setBounce_143 (fun c143 => ?_) (fun c143 => ?_)
          · refine fV.run iX3_setBounce_156_1 oX3_setBounce_156_1 (pc' := 157) (L' := [(0, .ref 18), (1, .int (nI j)), (2, .int (nI w)), (3, .ref 4), (4, .int (hAxI (gA S 5) w)), (5, .long (zWy (gA S 5) w (pA (gA S 21) j) (pA (gA S 20) j))), (7, .long (zTw (gA S 5) w (pA (gA S 21) j))), (9, .long (zWh (gA S 5) w (pA (gA S 21) j) (pA (gA S 20) j))), (11, .long (zPt (gA S 5) w (pA (gA S 21) j) (pA (gA S 20) j))), (13, .int 1), (14, .int 0), (15, .int 1)]) (st' := [.int 0]) (S' := S) rfl trivial ?_
            exact fV.zret rfl dX3_setBounce_157 (by decide) (Or.inr ⟨fun z => by obtain ⟨⟨z1, z2, z3⟩, z4⟩ := z; grind, rfl, Or.inl rfl⟩)
          · exact absurd c143 (by decide)
      · refine fV.run iX3_setBounce_101_10 oX3_setBounce_101_10 (pc' := 118) (L' := [(0, .ref 18), (1, .int (nI j)), (2, .int (nI w)), (3, .ref 4), (4, .int (hAxI (gA S 5) w)), (5, .long (zWy (gA S 5) w (pA (gA S 21) j) (pA (gA S 20) j))), (7, .long (zTw (gA S 5) w (pA (gA S 21) j))), (9, .long (zWh (gA S 5) w (pA (gA S 21) j) (pA (gA S 20) j))), (11, .long (zPt (gA S 5) w (pA (gA S 21) j) (pA (gA S 20) j))), (13, .int 1), (14, .int 1)]) (st' := [.long (gB S 23 ((nI j) + 1).toNatClampNeg), .long (zPt (gA S 5) w (pA (gA S 21) j) (pA (gA S 20) j))]) (S' := S) (P := vp_in ((nI j) + 1) 5 ∧ True) rfl ⟨(vj (by omega) (by omega)).2, trivial⟩ ?_
        refine fV.to (L' := [(0, .ref 18), (1, .int (nI j)), (2, .int (nI w)), (3, .ref 4), (4, .int (hAxI (gA S 5) w)), (5, .long (zWy (gA S 5) w (pA (gA S 21) j) (pA (gA S 20) j))), (7, .long (zTw (gA S 5) w (pA (gA S 21) j))), (9, .long (zWh (gA S 5) w (pA (gA S 21) j) (pA (gA S 20) j))), (11, .long (zPt (gA S 5) w (pA (gA S 21) j) (pA (gA S 20) j))), (13, .int 1), (14, .int 1)]) (st' := [.long (gB S 23 (j + 1)), .long (zPt (gA S 5) w (pA (gA S 21) j) (pA (gA S 20) j))]) rfl rfl (by rw [show (gB S 23 ((nI j) + 1).toNatClampNeg : Int64) = gB S 23 (j + 1) from by rw [(cj (j := j) (by omega)).2]]) rfl ?_
        refine fV.run iX3_setBounce_118_7 oX3_setBounce_118_7 (pc' := 127) (L' := [(0, .ref 18), (1, .int (nI j)), (2, .int (nI w)), (3, .ref 4), (4, .int (hAxI (gA S 5) w)), (5, .long (zWy (gA S 5) w (pA (gA S 21) j) (pA (gA S 20) j))), (7, .long (zTw (gA S 5) w (pA (gA S 21) j))), (9, .long (zWh (gA S 5) w (pA (gA S 21) j) (pA (gA S 20) j))), (11, .long (zPt (gA S 5) w (pA (gA S 21) j) (pA (gA S 20) j))), (13, .int 1), (14, .int 1)]) (st' := [.long (gB S 22 ((nI j) + 1).toNatClampNeg), .long ((zPt (gA S 5) w (pA (gA S 21) j) (pA (gA S 20) j)) * (gB S 23 (j + 1)))]) (S' := S) (P := vp_in ((nI j) + 1) 5 ∧ True) rfl ⟨(vj (by omega) (by omega)).2, trivial⟩ ?_
        refine fV.to (L' := [(0, .ref 18), (1, .int (nI j)), (2, .int (nI w)), (3, .ref 4), (4, .int (hAxI (gA S 5) w)), (5, .long (zWy (gA S 5) w (pA (gA S 21) j) (pA (gA S 20) j))), (7, .long (zTw (gA S 5) w (pA (gA S 21) j))), (9, .long (zWh (gA S 5) w (pA (gA S 21) j) (pA (gA S 20) j))), (11, .long (zPt (gA S 5) w (pA (gA S 21) j) (pA (gA S 20) j))), (13, .int 1), (14, .int 1)]) (st' := [.long (gB S 22 (j + 1)), .long ((zPt (gA S 5) w (pA (gA S 21) j) (pA (gA S 20) j)) * (gB S 23 (j + 1)))]) rfl rfl (by rw [show (gB S 22 ((nI j) + 1).toNatClampNeg : Int64) = gB S 22 (j + 1) from by rw [(cj (j := j) (by omega)).2]]) rfl ?_
        refine fV.run iX3_setBounce_127_3 oX3_setBounce_127_3 (pc' := 131) (L' := [(0, .ref 18), (1, .int (nI j)), (2, .int (nI w)), (3, .ref 4), (4, .int (hAxI (gA S 5) w)), (5, .long (zWy (gA S 5) w (pA (gA S 21) j) (pA (gA S 20) j))), (7, .long (zTw (gA S 5) w (pA (gA S 21) j))), (9, .long (zWh (gA S 5) w (pA (gA S 21) j) (pA (gA S 20) j))), (11, .long (zPt (gA S 5) w (pA (gA S 21) j) (pA (gA S 20) j))), (13, .int 1), (14, .int 1)]) (st' := [.int (lg_cmp ((zPt (gA S 5) w (pA (gA S 21) j) (pA (gA S 20) j)) * (gB S 23 (j + 1))) ((gB S 22 (j + 1)) * (zWh (gA S 5) w (pA (gA S 21) j) (pA (gA S 20) j))))]) (S' := S) rfl trivial ?_
        refine fV.lif_gt bX3_setBounce_131 (fun c131 => ?_) (fun c131 => ?_)
        · refine fV.run iX3_setBounce_138_3 oX3_setBounce_138_3 (pc' := 143) (L' := [(0, .ref 18), (1, .int (nI j)), (2, .int (nI w)), (3, .ref 4), (4, .int (hAxI (gA S 5) w)), (5, .long (zWy (gA S 5) w (pA (gA S 21) j) (pA (gA S 20) j))), (7, .long (zTw (gA S 5) w (pA (gA S 21) j))), (9, .long (zWh (gA S 5) w (pA (gA S 21) j) (pA (gA S 20) j))), (11, .long (zPt (gA S 5) w (pA (gA S 21) j) (pA (gA S 20) j))), (13, .int 1), (14, .int 1), (15, .int 0)]) (st' := [.int 1]) (S' := S) rfl trivial ?_
          refine fV.if_ne bX3_setBounce_143 (fun c143 => ?_) (fun c143 => ?_)
          · refine fV.run iX3_setBounce_156_1 oX3_setBounce_156_1 (pc' := 157) (L' := [(0, .ref 18), (1, .int (nI j)), (2, .int (nI w)), (3, .ref 4), (4, .int (hAxI (gA S 5) w)), (5, .long (zWy (gA S 5) w (pA (gA S 21) j) (pA (gA S 20) j))), (7, .long (zTw (gA S 5) w (pA (gA S 21) j))), (9, .long (zWh (gA S 5) w (pA (gA S 21) j) (pA (gA S 20) j))), (11, .long (zPt (gA S 5) w (pA (gA S 21) j) (pA (gA S 20) j))), (13, .int 1), (14, .int 1), (15, .int 0)]) (st' := [.int 0]) (S' := S) rfl trivial ?_
            exact fV.zret rfl dX3_setBounce_157 (by decide) (Or.inr ⟨fun z => by obtain ⟨⟨z1, z2, z3⟩, z4⟩ := z; grind, rfl, Or.inl rfl⟩)
          · exact absurd c143 (by decide)
        · refine fV.run iX3_setBounce_134_4 oX3_setBounce_134_4 (pc' := 143) (L' := [(0, .ref 18), (1, .int (nI j)), (2, .int (nI w)), (3, .ref 4), (4, .int (hAxI (gA S 5) w)), (5, .long (zWy (gA S 5) w (pA (gA S 21) j) (pA (gA S 20) j))), (7, .long (zTw (gA S 5) w (pA (gA S 21) j))), (9, .long (zWh (gA S 5) w (pA (gA S 21) j) (pA (gA S 20) j))), (11, .long (zPt (gA S 5) w (pA (gA S 21) j) (pA (gA S 20) j))), (13, .int 1), (14, .int 1), (15, .int 1)]) (st' := [.int 1]) (S' := S) rfl trivial ?_
          refine fV.if_ne bX3_setBounce_143 (fun c143 => ?_) (fun c143 => ?_)
          · refine fV.run iX3_setBounce_156_1 oX3_setBounce_156_1 (pc' := 157) (L' := [(0, .ref 18), (1, .int (nI j)), (2, .int (nI w)), (3, .ref 4), (4, .int (hAxI (gA S 5) w)), (5, .long (zWy (gA S 5) w (pA (gA S 21) j) (pA (gA S 20) j))), (7, .long (zTw (gA S 5) w (pA (gA S 21) j))), (9, .long (zWh (gA S 5) w (pA (gA S 21) j) (pA (gA S 20) j))), (11, .long (zPt (gA S 5) w (pA (gA S 21) j) (pA (gA S 20) j))), (13, .int 1), (14, .int 1), (15, .int 1)]) (st' := [.int 0]) (S' := S) rfl trivial ?_
            exact fV.zret rfl dX3_setBounce_157 (by decide) (Or.inr ⟨fun z => by obtain ⟨⟨z1, z2, z3⟩, z4⟩ := z; grind, rfl, Or.inl rfl⟩)
          · exact absurd c143 (by decide)
def iX3_overlaps_0_5 : List Instr := [.aload_n 3, .getfield 42, .iload_n 2, .iaload, .istore 4]
theorem oX3_overlaps_0_5 : fOkB cX3_overlaps 0 iX3_overlaps_0_5 = true := by decide +kernel
def iX3_overlaps_8_9 : List Instr := [.aload_n 0, .iload_n 1, .iload 4, .aload_n 0, .getfield 21, .iload_n 1, .iconst 1, .iadd, .laload]
theorem oX3_overlaps_8_9 : fOkB cX3_overlaps 8 iX3_overlaps_8_9 = true := by decide +kernel
def iX3_overlaps_20_6 : List Instr := [.aload_n 0, .getfield 25, .iload_n 1, .iconst 1, .iadd, .laload]
theorem oX3_overlaps_20_6 : fOkB cX3_overlaps 20 iX3_overlaps_20_6 = true := by decide +kernel
theorem dX3_overlaps_28 : decode cX3_overlaps 28 = .ok (.invokevirtual 64, 3) := by decide +kernel
def iX3_overlaps_31_8 : List Instr := [.lstore 5, .aload_n 0, .iload_n 1, .iload 4, .aload_n 0, .getfield 21, .iload_n 1, .laload]
theorem oX3_overlaps_31_8 : fOkB cX3_overlaps 31 iX3_overlaps_31_8 = true := by decide +kernel
def iX3_overlaps_43_4 : List Instr := [.aload_n 0, .getfield 25, .iload_n 1, .laload]
theorem oX3_overlaps_43_4 : fOkB cX3_overlaps 43 iX3_overlaps_43_4 = true := by decide +kernel
theorem dX3_overlaps_49 : decode cX3_overlaps 49 = .ok (.invokevirtual 64, 3) := by decide +kernel
def iX3_overlaps_52_6 : List Instr := [.lstore 7, .aload_n 3, .getfield 68, .iload_n 2, .iaload, .i2l]
theorem oX3_overlaps_52_6 : fOkB cX3_overlaps 52 iX3_overlaps_52_6 = true := by decide +kernel
def iX3_overlaps_61_6 : List Instr := [.lstore 9, .aload_n 3, .getfield 71, .iload_n 2, .iaload, .i2l]
theorem oX3_overlaps_61_6 : fOkB cX3_overlaps 61 iX3_overlaps_61_6 = true := by decide +kernel
def iX3_overlaps_70_9 : List Instr := [.lstore 11, .lload 5, .lload 9, .aload_n 0, .getfield 25, .iload_n 1, .iconst 1, .iadd, .laload]
theorem oX3_overlaps_70_9 : fOkB cX3_overlaps 70 iX3_overlaps_70_9 = true := by decide +kernel
def iX3_overlaps_84_2 : List Instr := [.lmul, .lcmp]
theorem oX3_overlaps_84_2 : fOkB cX3_overlaps 84 iX3_overlaps_84_2 = true := by decide +kernel
theorem bX3_overlaps_86 : fBk cX3_overlaps 86 (.ifCond .ge) 108 := ⟨22, by decide +kernel, by decide⟩
def iX3_overlaps_108_10 : List Instr := [.iconst 0, .istore 13, .lload 5, .lload 11, .aload_n 0, .getfield 25, .iload_n 1, .iconst 1, .iadd, .laload]
theorem oX3_overlaps_108_10 : fOkB cX3_overlaps 108 iX3_overlaps_108_10 = true := by decide +kernel
def iX3_overlaps_123_2 : List Instr := [.lmul, .lcmp]
theorem oX3_overlaps_123_2 : fOkB cX3_overlaps 123 iX3_overlaps_123_2 = true := by decide +kernel
theorem bX3_overlaps_125 : fBk cX3_overlaps 125 (.ifCond .le) 147 := ⟨22, by decide +kernel, by decide⟩
def iX3_overlaps_147_3 : List Instr := [.iconst 0, .istore 14, .iload 13]
theorem oX3_overlaps_147_3 : fOkB cX3_overlaps 147 iX3_overlaps_147_3 = true := by decide +kernel
theorem bX3_overlaps_152 : fBk cX3_overlaps 152 (.ifCond .ne) 164 := ⟨12, by decide +kernel, by decide⟩
def iX3_overlaps_155_1 : List Instr := [.iload 14]
theorem oX3_overlaps_155_1 : fOkB cX3_overlaps 155 iX3_overlaps_155_1 = true := by decide +kernel
theorem bX3_overlaps_157 : fBk cX3_overlaps 157 (.ifCond .ne) 164 := ⟨7, by decide +kernel, by decide⟩
def iX3_overlaps_160_2 : List Instr := [.iconst 1, .goto 4]
theorem oX3_overlaps_160_2 : fOkB cX3_overlaps 160 iX3_overlaps_160_2 = true := by decide +kernel
theorem dX3_overlaps_165 : decode cX3_overlaps 165 = .ok (.ireturn, 1) := by decide +kernel
def iX3_overlaps_128_6 : List Instr := [.lload 7, .lload 11, .aload_n 0, .getfield 25, .iload_n 1, .laload]
theorem oX3_overlaps_128_6 : fOkB cX3_overlaps 128 iX3_overlaps_128_6 = true := by decide +kernel
def iX3_overlaps_138_2 : List Instr := [.lmul, .lcmp]
theorem oX3_overlaps_138_2 : fOkB cX3_overlaps 138 iX3_overlaps_138_2 = true := by decide +kernel
theorem bX3_overlaps_140 : fBk cX3_overlaps 140 (.ifCond .le) 147 := ⟨7, by decide +kernel, by decide⟩
def iX3_overlaps_143_4 : List Instr := [.iconst 1, .goto 4, .istore 14, .iload 13]
theorem oX3_overlaps_143_4 : fOkB cX3_overlaps 143 iX3_overlaps_143_4 = true := by decide +kernel
def iX3_overlaps_164_1 : List Instr := [.iconst 0]
theorem oX3_overlaps_164_1 : fOkB cX3_overlaps 164 iX3_overlaps_164_1 = true := by decide +kernel
def iX3_overlaps_89_6 : List Instr := [.lload 7, .lload 9, .aload_n 0, .getfield 25, .iload_n 1, .laload]
theorem oX3_overlaps_89_6 : fOkB cX3_overlaps 89 iX3_overlaps_89_6 = true := by decide +kernel
def iX3_overlaps_99_2 : List Instr := [.lmul, .lcmp]
theorem oX3_overlaps_99_2 : fOkB cX3_overlaps 99 iX3_overlaps_99_2 = true := by decide +kernel
theorem bX3_overlaps_101 : fBk cX3_overlaps 101 (.ifCond .ge) 108 := ⟨7, by decide +kernel, by decide⟩
def iX3_overlaps_104_11 : List Instr := [.iconst 1, .goto 4, .istore 13, .lload 5, .lload 11, .aload_n 0, .getfield 25, .iload_n 1, .iconst 1, .iadd, .laload]
theorem oX3_overlaps_104_11 : fOkB cX3_overlaps 104 iX3_overlaps_104_11 = true := by decide +kernel
set_option maxRecDepth 100000 in
theorem qX3_ov {G : fG} {d : Nat} {S : fS} {b w j : Nat} (HG : hGeo S b) (hw : w < b) (hb : b ≤ 16) (hj : j ≤ 3)  : fCtr G (d + 1) mX3_overlaps [.ref 18, .int (nI j), .int (nI w), .ref 4] S (fun r S' => (zOv (gA S 5) w (pA (gA S 21) j) (pA (gA S 20) j) (gB S 22 (j + 1)) (gB S 23 (j + 1)) (gB S 22 j) (gB S 23 j) ∧ r = some (.int 1) ∧ S' = S) ∨ (¬ zOv (gA S 5) w (pA (gA S 21) j) (pA (gA S 20) j) (gB S 22 (j + 1)) (gB S 23 (j + 1)) (gB S 22 j) (gB S 23 j) ∧ r = some (.int 0) ∧ S' = S)) := by
  refine fCtr.of bXX3_overlaps (Nat.le_of_ble_eq_true rfl) rfl ?_
  refine fV.run iX3_overlaps_0_5 oX3_overlaps_0_5 (pc' := 8) (L' := [(0, .ref 18), (1, .int (nI j)), (2, .int (nI w)), (3, .ref 4), (4, .int (gA S 7 (nI w).toNatClampNeg))]) (st' := []) (S' := S) (P := vp_in (nI w) 16 ∧ True) rfl ⟨(vp_in_nI (show w < 16 by omega) (by decide)), trivial⟩ ?_
  refine fV.to (L' := [(0, .ref 18), (1, .int (nI j)), (2, .int (nI w)), (3, .ref 4), (4, .int (hAxI (gA S 5) w))]) (st' := []) rfl (by rw [show (gA S 7 (nI w).toNatClampNeg : Int32) = hAxI (gA S 5) w from geo_ax HG hw hb]) rfl rfl ?_
  refine fV.run iX3_overlaps_8_9 oX3_overlaps_8_9 (pc' := 20) (L' := [(0, .ref 18), (1, .int (nI j)), (2, .int (nI w)), (3, .ref 4), (4, .int (hAxI (gA S 5) w))]) (st' := [.long (gB S 22 ((nI j) + 1).toNatClampNeg), .int (hAxI (gA S 5) w), .int (nI j), .ref 18]) (S' := S) (P := vp_in ((nI j) + 1) 5 ∧ True) rfl ⟨(vj (by omega) (by omega)).2, trivial⟩ ?_
  refine fV.to (L' := [(0, .ref 18), (1, .int (nI j)), (2, .int (nI w)), (3, .ref 4), (4, .int (hAxI (gA S 5) w))]) (st' := [.long (gB S 22 (j + 1)), .int (hAxI (gA S 5) w), .int (nI j), .ref 18]) rfl rfl (by rw [show (gB S 22 ((nI j) + 1).toNatClampNeg : Int64) = gB S 22 (j + 1) from by rw [(cj (j := j) (by omega)).2]]) rfl ?_
  refine fV.run iX3_overlaps_20_6 oX3_overlaps_20_6 (pc' := 28) (L' := [(0, .ref 18), (1, .int (nI j)), (2, .int (nI w)), (3, .ref 4), (4, .int (hAxI (gA S 5) w))]) (st' := [.long (gB S 23 ((nI j) + 1).toNatClampNeg), .long (gB S 22 (j + 1)), .int (hAxI (gA S 5) w), .int (nI j), .ref 18]) (S' := S) (P := vp_in ((nI j) + 1) 5 ∧ True) rfl ⟨(vj (by omega) (by omega)).2, trivial⟩ ?_
  refine fV.to (L' := [(0, .ref 18), (1, .int (nI j)), (2, .int (nI w)), (3, .ref 4), (4, .int (hAxI (gA S 5) w))]) (st' := [.long (gB S 23 (j + 1)), .long (gB S 22 (j + 1)), .int (hAxI (gA S 5) w), .int (nI j), .ref 18]) rfl rfl (by rw [show (gB S 23 ((nI j) + 1).toNatClampNeg : Int64) = gB S 23 (j + 1) from by rw [(cj (j := j) (by omega)).2]]) rfl ?_
  refine fV.callV (M2 := mX3_sidewaysAt) (d := d) (o := 18) (av := [.int (nI j), .int (hAxI (gA S 5) w), .long (gB S 22 (j + 1)), .long (gB S 23 (j + 1))]) (rest := []) kX3_sidewaysAt dX3_overlaps_28 lX3_64 rfl rfl rfl (Nat.le_of_ble_eq_true rfl) (fRoom (by decide)) ⟨Nat.le_refl _, Nat.le_refl _⟩ (qX3_side _ _ hj) ?_
  rintro _ S9 ⟨rfl, h9⟩
  rw [h9]
  clear h9 S9
  refine fV.to (pc' := 31) (L' := [(0, .ref 18), (1, .int (nI j)), (2, .int (nI w)), (3, .ref 4), (4, .int (hAxI (gA S 5) w))]) (st' := [.long (zPl (gA S 5) w (pA (gA S 21) j) (pA (gA S 20) j) (gB S 22 (j + 1)) (gB S 23 (j + 1)))]) (S' := S) rfl rfl rfl rfl ?_
  refine fV.run iX3_overlaps_31_8 oX3_overlaps_31_8 (pc' := 43) (L' := [(0, .ref 18), (1, .int (nI j)), (2, .int (nI w)), (3, .ref 4), (4, .int (hAxI (gA S 5) w)), (5, .long (zPl (gA S 5) w (pA (gA S 21) j) (pA (gA S 20) j) (gB S 22 (j + 1)) (gB S 23 (j + 1))))]) (st' := [.long (gB S 22 (nI j).toNatClampNeg), .int (hAxI (gA S 5) w), .int (nI j), .ref 18]) (S' := S) (P := vp_in (nI j) 5 ∧ True) rfl ⟨(vj (by omega) (by omega)).1, trivial⟩ ?_
  refine fV.to (L' := [(0, .ref 18), (1, .int (nI j)), (2, .int (nI w)), (3, .ref 4), (4, .int (hAxI (gA S 5) w)), (5, .long (zPl (gA S 5) w (pA (gA S 21) j) (pA (gA S 20) j) (gB S 22 (j + 1)) (gB S 23 (j + 1))))]) (st' := [.long (gB S 22 (j)), .int (hAxI (gA S 5) w), .int (nI j), .ref 18]) rfl rfl (by rw [show (gB S 22 (nI j).toNatClampNeg : Int64) = gB S 22 (j) from by rw [(cj (j := j) (by omega)).1]]) rfl ?_
  refine fV.run iX3_overlaps_43_4 oX3_overlaps_43_4 (pc' := 49) (L' := [(0, .ref 18), (1, .int (nI j)), (2, .int (nI w)), (3, .ref 4), (4, .int (hAxI (gA S 5) w)), (5, .long (zPl (gA S 5) w (pA (gA S 21) j) (pA (gA S 20) j) (gB S 22 (j + 1)) (gB S 23 (j + 1))))]) (st' := [.long (gB S 23 (nI j).toNatClampNeg), .long (gB S 22 (j)), .int (hAxI (gA S 5) w), .int (nI j), .ref 18]) (S' := S) (P := vp_in (nI j) 5 ∧ True) rfl ⟨(vj (by omega) (by omega)).1, trivial⟩ ?_
  refine fV.to (L' := [(0, .ref 18), (1, .int (nI j)), (2, .int (nI w)), (3, .ref 4), (4, .int (hAxI (gA S 5) w)), (5, .long (zPl (gA S 5) w (pA (gA S 21) j) (pA (gA S 20) j) (gB S 22 (j + 1)) (gB S 23 (j + 1))))]) (st' := [.long (gB S 23 (j)), .long (gB S 22 (j)), .int (hAxI (gA S 5) w), .int (nI j), .ref 18]) rfl rfl (by rw [show (gB S 23 (nI j).toNatClampNeg : Int64) = gB S 23 (j) from by rw [(cj (j := j) (by omega)).1]]) rfl ?_
  refine fV.callV (M2 := mX3_sidewaysAt) (d := d) (o := 18) (av := [.int (nI j), .int (hAxI (gA S 5) w), .long (gB S 22 (j)), .long (gB S 23 (j))]) (rest := []) kX3_sidewaysAt dX3_overlaps_49 lX3_64 rfl rfl rfl (Nat.le_of_ble_eq_true rfl) (fRoom (by decide)) ⟨Nat.le_refl _, Nat.le_refl _⟩ (qX3_side _ _ hj) ?_
  rintro _ S9 ⟨rfl, h9⟩
  rw [h9]
  clear h9 S9
  refine fV.to (pc' := 52) (L' := [(0, .ref 18), (1, .int (nI j)), (2, .int (nI w)), (3, .ref 4), (4, .int (hAxI (gA S 5) w)), (5, .long (zPl (gA S 5) w (pA (gA S 21) j) (pA (gA S 20) j) (gB S 22 (j + 1)) (gB S 23 (j + 1))))]) (st' := [.long (zPl (gA S 5) w (pA (gA S 21) j) (pA (gA S 20) j) (gB S 22 (j)) (gB S 23 (j)))]) (S' := S) rfl rfl rfl rfl ?_
  refine fV.run iX3_overlaps_52_6 oX3_overlaps_52_6 (pc' := 61) (L' := [(0, .ref 18), (1, .int (nI j)), (2, .int (nI w)), (3, .ref 4), (4, .int (hAxI (gA S 5) w)), (5, .long (zPl (gA S 5) w (pA (gA S 21) j) (pA (gA S 20) j) (gB S 22 (j + 1)) (gB S 23 (j + 1)))), (7, .long (zPl (gA S 5) w (pA (gA S 21) j) (pA (gA S 20) j) (gB S 22 (j)) (gB S 23 (j))))]) (st' := [.long (Int32.toInt64 (gA S 9 (nI w).toNatClampNeg))]) (S' := S) (P := vp_in (nI w) 16 ∧ True) rfl ⟨(vp_in_nI (show w < 16 by omega) (by decide)), trivial⟩ ?_
  refine fV.to (L' := [(0, .ref 18), (1, .int (nI j)), (2, .int (nI w)), (3, .ref 4), (4, .int (hAxI (gA S 5) w)), (5, .long (zPl (gA S 5) w (pA (gA S 21) j) (pA (gA S 20) j) (gB S 22 (j + 1)) (gB S 23 (j + 1)))), (7, .long (zPl (gA S 5) w (pA (gA S 21) j) (pA (gA S 20) j) (gB S 22 (j)) (gB S 23 (j))))]) (st' := [.long (Int32.toInt64 (hLow (gA S 5) w))]) rfl rfl (by rw [show (Int32.toInt64 (gA S 9 (nI w).toNatClampNeg) : Int64) = Int32.toInt64 (hLow (gA S 5) w) from by rw [geo_lo HG hw hb]]) rfl ?_
  refine fV.run iX3_overlaps_61_6 oX3_overlaps_61_6 (pc' := 70) (L' := [(0, .ref 18), (1, .int (nI j)), (2, .int (nI w)), (3, .ref 4), (4, .int (hAxI (gA S 5) w)), (5, .long (zPl (gA S 5) w (pA (gA S 21) j) (pA (gA S 20) j) (gB S 22 (j + 1)) (gB S 23 (j + 1)))), (7, .long (zPl (gA S 5) w (pA (gA S 21) j) (pA (gA S 20) j) (gB S 22 (j)) (gB S 23 (j)))), (9, .long (Int32.toInt64 (hLow (gA S 5) w)))]) (st' := [.long (Int32.toInt64 (gA S 10 (nI w).toNatClampNeg))]) (S' := S) (P := vp_in (nI w) 16 ∧ True) rfl ⟨(vp_in_nI (show w < 16 by omega) (by decide)), trivial⟩ ?_
  refine fV.to (L' := [(0, .ref 18), (1, .int (nI j)), (2, .int (nI w)), (3, .ref 4), (4, .int (hAxI (gA S 5) w)), (5, .long (zPl (gA S 5) w (pA (gA S 21) j) (pA (gA S 20) j) (gB S 22 (j + 1)) (gB S 23 (j + 1)))), (7, .long (zPl (gA S 5) w (pA (gA S 21) j) (pA (gA S 20) j) (gB S 22 (j)) (gB S 23 (j)))), (9, .long (Int32.toInt64 (hLow (gA S 5) w)))]) (st' := [.long (Int32.toInt64 (hHigh (gA S 5) w))]) rfl rfl (by rw [show (Int32.toInt64 (gA S 10 (nI w).toNatClampNeg) : Int64) = Int32.toInt64 (hHigh (gA S 5) w) from by rw [geo_hi HG hw hb]]) rfl ?_
  refine fV.run iX3_overlaps_70_9 oX3_overlaps_70_9 (pc' := 84) (L' := [(0, .ref 18), (1, .int (nI j)), (2, .int (nI w)), (3, .ref 4), (4, .int (hAxI (gA S 5) w)), (5, .long (zPl (gA S 5) w (pA (gA S 21) j) (pA (gA S 20) j) (gB S 22 (j + 1)) (gB S 23 (j + 1)))), (7, .long (zPl (gA S 5) w (pA (gA S 21) j) (pA (gA S 20) j) (gB S 22 (j)) (gB S 23 (j)))), (9, .long (Int32.toInt64 (hLow (gA S 5) w))), (11, .long (Int32.toInt64 (hHigh (gA S 5) w)))]) (st' := [.long (gB S 23 ((nI j) + 1).toNatClampNeg), .long (Int32.toInt64 (hLow (gA S 5) w)), .long (zPl (gA S 5) w (pA (gA S 21) j) (pA (gA S 20) j) (gB S 22 (j + 1)) (gB S 23 (j + 1)))]) (S' := S) (P := vp_in ((nI j) + 1) 5 ∧ True) rfl ⟨(vj (by omega) (by omega)).2, trivial⟩ ?_
  refine fV.to (L' := [(0, .ref 18), (1, .int (nI j)), (2, .int (nI w)), (3, .ref 4), (4, .int (hAxI (gA S 5) w)), (5, .long (zPl (gA S 5) w (pA (gA S 21) j) (pA (gA S 20) j) (gB S 22 (j + 1)) (gB S 23 (j + 1)))), (7, .long (zPl (gA S 5) w (pA (gA S 21) j) (pA (gA S 20) j) (gB S 22 (j)) (gB S 23 (j)))), (9, .long (Int32.toInt64 (hLow (gA S 5) w))), (11, .long (Int32.toInt64 (hHigh (gA S 5) w)))]) (st' := [.long (gB S 23 (j + 1)), .long (Int32.toInt64 (hLow (gA S 5) w)), .long (zPl (gA S 5) w (pA (gA S 21) j) (pA (gA S 20) j) (gB S 22 (j + 1)) (gB S 23 (j + 1)))]) rfl rfl (by rw [show (gB S 23 ((nI j) + 1).toNatClampNeg : Int64) = gB S 23 (j + 1) from by rw [(cj (j := j) (by omega)).2]]) rfl ?_
  refine fV.run iX3_overlaps_84_2 oX3_overlaps_84_2 (pc' := 86) (L' := [(0, .ref 18), (1, .int (nI j)), (2, .int (nI w)), (3, .ref 4), (4, .int (hAxI (gA S 5) w)), (5, .long (zPl (gA S 5) w (pA (gA S 21) j) (pA (gA S 20) j) (gB S 22 (j + 1)) (gB S 23 (j + 1)))), (7, .long (zPl (gA S 5) w (pA (gA S 21) j) (pA (gA S 20) j) (gB S 22 (j)) (gB S 23 (j)))), (9, .long (Int32.toInt64 (hLow (gA S 5) w))), (11, .long (Int32.toInt64 (hHigh (gA S 5) w)))]) (st' := [.int (lg_cmp (zPl (gA S 5) w (pA (gA S 21) j) (pA (gA S 20) j) (gB S 22 (j + 1)) (gB S 23 (j + 1))) ((Int32.toInt64 (hLow (gA S 5) w)) * (gB S 23 (j + 1))))]) (S' := S) rfl trivial ?_
  refine fV.lif_ge bX3_overlaps_86 (fun c86 => ?_) (fun c86 => ?_)
  · refine fV.run iX3_overlaps_108_10 oX3_overlaps_108_10 (pc' := 123) (L' := [(0, .ref 18), (1, .int (nI j)), (2, .int (nI w)), (3, .ref 4), (4, .int (hAxI (gA S 5) w)), (5, .long (zPl (gA S 5) w (pA (gA S 21) j) (pA (gA S 20) j) (gB S 22 (j + 1)) (gB S 23 (j + 1)))), (7, .long (zPl (gA S 5) w (pA (gA S 21) j) (pA (gA S 20) j) (gB S 22 (j)) (gB S 23 (j)))), (9, .long (Int32.toInt64 (hLow (gA S 5) w))), (11, .long (Int32.toInt64 (hHigh (gA S 5) w))), (13, .int 0)]) (st' := [.long (gB S 23 ((nI j) + 1).toNatClampNeg), .long (Int32.toInt64 (hHigh (gA S 5) w)), .long (zPl (gA S 5) w (pA (gA S 21) j) (pA (gA S 20) j) (gB S 22 (j + 1)) (gB S 23 (j + 1)))]) (S' := S) (P := vp_in ((nI j) + 1) 5 ∧ True) rfl ⟨(vj (by omega) (by omega)).2, trivial⟩ ?_
    refine fV.to (L' := [(0, .ref 18), (1, .int (nI j)), (2, .int (nI w)), (3, .ref 4), (4, .int (hAxI (gA S 5) w)), (5, .long (zPl (gA S 5) w (pA (gA S 21) j) (pA (gA S 20) j) (gB S 22 (j + 1)) (gB S 23 (j + 1)))), (7, .long (zPl (gA S 5) w (pA (gA S 21) j) (pA (gA S 20) j) (gB S 22 (j)) (gB S 23 (j)))), (9, .long (Int32.toInt64 (hLow (gA S 5) w))), (11, .long (Int32.toInt64 (hHigh (gA S 5) w))), (13, .int 0)]) (st' := [.long (gB S 23 (j + 1)), .long (Int32.toInt64 (hHigh (gA S 5) w)), .long (zPl (gA S 5) w (pA (gA S 21) j) (pA (gA S 20) j) (gB S 22 (j + 1)) (gB S 23 (j + 1)))]) rfl rfl (by rw [show (gB S 23 ((nI j) + 1).toNatClampNeg : Int64) = gB S 23 (j + 1) from by rw [(cj (j := j) (by omega)).2]]) rfl ?_
    refine fV.run iX3_overlaps_123_2 oX3_overlaps_123_2 (pc' := 125) (L' := [(0, .ref 18), (1, .int (nI j)), (2, .int (nI w)), (3, .ref 4), (4, .int (hAxI (gA S 5) w)), (5, .long (zPl (gA S 5) w (pA (gA S 21) j) (pA (gA S 20) j) (gB S 22 (j + 1)) (gB S 23 (j + 1)))), (7, .long (zPl (gA S 5) w (pA (gA S 21) j) (pA (gA S 20) j) (gB S 22 (j)) (gB S 23 (j)))), (9, .long (Int32.toInt64 (hLow (gA S 5) w))), (11, .long (Int32.toInt64 (hHigh (gA S 5) w))), (13, .int 0)]) (st' := [.int (lg_cmp (zPl (gA S 5) w (pA (gA S 21) j) (pA (gA S 20) j) (gB S 22 (j + 1)) (gB S 23 (j + 1))) ((Int32.toInt64 (hHigh (gA S 5) w)) * (gB S 23 (j + 1))))]) (S' := S) rfl trivial ?_
    refine fV.lif_le bX3_overlaps_125 (fun c125 => ?_) (fun c125 => ?_)
    · refine fV.run iX3_overlaps_147_3 oX3_overlaps_147_3 (pc' := 152) (L' := [(0, .ref 18), (1, .int (nI j)), (2, .int (nI w)), (3, .ref 4), (4, .int (hAxI (gA S 5) w)), (5, .long (zPl (gA S 5) w (pA (gA S 21) j) (pA (gA S 20) j) (gB S 22 (j + 1)) (gB S 23 (j + 1)))), (7, .long (zPl (gA S 5) w (pA (gA S 21) j) (pA (gA S 20) j) (gB S 22 (j)) (gB S 23 (j)))), (9, .long (Int32.toInt64 (hLow (gA S 5) w))), (11, .long (Int32.toInt64 (hHigh (gA S 5) w))), (13, .int 0), (14, .int 0)]) (st' := [.int 0]) (S' := S) rfl trivial ?_
      refine fV.if_ne bX3_overlaps_152 (fun c152 => ?_) (fun c152 => ?_)
      · exact absurd c152 (by decide)
      · refine fV.run iX3_overlaps_155_1 oX3_overlaps_155_1 (pc' := 157) (L' := [(0, .ref 18), (1, .int (nI j)), (2, .int (nI w)), (3, .ref 4), (4, .int (hAxI (gA S 5) w)), (5, .long (zPl (gA S 5) w (pA (gA S 21) j) (pA (gA S 20) j) (gB S 22 (j + 1)) (gB S 23 (j + 1)))), (7, .long (zPl (gA S 5) w (pA (gA S 21) j) (pA (gA S 20) j) (gB S 22 (j)) (gB S 23 (j)))), (9, .long (Int32.toInt64 (hLow (gA S 5) w))), (11, .long (Int32.toInt64 (hHigh (gA S 5) w))), (13, .int 0), (14, .int 0)]) (st' := [.int 0]) (S' := S) rfl trivial ?_
        refine fV.if_ne bX3_overlaps_157 (fun c157 => ?_) (fun c157 => ?_)
        · exact absurd c157 (by decide)
        · refine fV.run iX3_overlaps_160_2 oX3_overlaps_160_2 (pc' := 165) (L' := [(0, .ref 18), (1, .int (nI j)), (2, .int (nI w)), (3, .ref 4), (4, .int (hAxI (gA S 5) w)), (5, .long (zPl (gA S 5) w (pA (gA S 21) j) (pA (gA S 20) j) (gB S 22 (j + 1)) (gB S 23 (j + 1)))), (7, .long (zPl (gA S 5) w (pA (gA S 21) j) (pA (gA S 20) j) (gB S 22 (j)) (gB S 23 (j)))), (9, .long (Int32.toInt64 (hLow (gA S 5) w))), (11, .long (Int32.toInt64 (hHigh (gA S 5) w))), (13, .int 0), (14, .int 0)]) (st' := [.int 1]) (S' := S) rfl trivial ?_
          exact fV.zret rfl dX3_overlaps_165 (by decide) (Or.inl ⟨by unfold zOv; grind, rfl, rfl⟩)
    · refine fV.run iX3_overlaps_128_6 oX3_overlaps_128_6 (pc' := 138) (L' := [(0, .ref 18), (1, .int (nI j)), (2, .int (nI w)), (3, .ref 4), (4, .int (hAxI (gA S 5) w)), (5, .long (zPl (gA S 5) w (pA (gA S 21) j) (pA (gA S 20) j) (gB S 22 (j + 1)) (gB S 23 (j + 1)))), (7, .long (zPl (gA S 5) w (pA (gA S 21) j) (pA (gA S 20) j) (gB S 22 (j)) (gB S 23 (j)))), (9, .long (Int32.toInt64 (hLow (gA S 5) w))), (11, .long (Int32.toInt64 (hHigh (gA S 5) w))), (13, .int 0)]) (st' := [.long (gB S 23 (nI j).toNatClampNeg), .long (Int32.toInt64 (hHigh (gA S 5) w)), .long (zPl (gA S 5) w (pA (gA S 21) j) (pA (gA S 20) j) (gB S 22 (j)) (gB S 23 (j)))]) (S' := S) (P := vp_in (nI j) 5 ∧ True) rfl ⟨(vj (by omega) (by omega)).1, trivial⟩ ?_
      refine fV.to (L' := [(0, .ref 18), (1, .int (nI j)), (2, .int (nI w)), (3, .ref 4), (4, .int (hAxI (gA S 5) w)), (5, .long (zPl (gA S 5) w (pA (gA S 21) j) (pA (gA S 20) j) (gB S 22 (j + 1)) (gB S 23 (j + 1)))), (7, .long (zPl (gA S 5) w (pA (gA S 21) j) (pA (gA S 20) j) (gB S 22 (j)) (gB S 23 (j)))), (9, .long (Int32.toInt64 (hLow (gA S 5) w))), (11, .long (Int32.toInt64 (hHigh (gA S 5) w))), (13, .int 0)]) (st' := [.long (gB S 23 (j)), .long (Int32.toInt64 (hHigh (gA S 5) w)), .long (zPl (gA S 5) w (pA (gA S 21) j) (pA (gA S 20) j) (gB S 22 (j)) (gB S 23 (j)))]) rfl rfl (by rw [show (gB S 23 (nI j).toNatClampNeg : Int64) = gB S 23 (j) from by rw [(cj (j := j) (by omega)).1]]) rfl ?_
      refine fV.run iX3_overlaps_138_2 oX3_overlaps_138_2 (pc' := 140) (L' := [(0, .ref 18), (1, .int (nI j)), (2, .int (nI w)), (3, .ref 4), (4, .int (hAxI (gA S 5) w)), (5, .long (zPl (gA S 5) w (pA (gA S 21) j) (pA (gA S 20) j) (gB S 22 (j + 1)) (gB S 23 (j + 1)))), (7, .long (zPl (gA S 5) w (pA (gA S 21) j) (pA (gA S 20) j) (gB S 22 (j)) (gB S 23 (j)))), (9, .long (Int32.toInt64 (hLow (gA S 5) w))), (11, .long (Int32.toInt64 (hHigh (gA S 5) w))), (13, .int 0)]) (st' := [.int (lg_cmp (zPl (gA S 5) w (pA (gA S 21) j) (pA (gA S 20) j) (gB S 22 (j)) (gB S 23 (j))) ((Int32.toInt64 (hHigh (gA S 5) w)) * (gB S 23 (j))))]) (S' := S) rfl trivial ?_
      refine fV.lif_le bX3_overlaps_140 (fun c140 => ?_) (fun c140 => ?_)
      · refine fV.run iX3_overlaps_147_3 oX3_overlaps_147_3 (pc' := 152) (L' := [(0, .ref 18), (1, .int (nI j)), (2, .int (nI w)), (3, .ref 4), (4, .int (hAxI (gA S 5) w)), (5, .long (zPl (gA S 5) w (pA (gA S 21) j) (pA (gA S 20) j) (gB S 22 (j + 1)) (gB S 23 (j + 1)))), (7, .long (zPl (gA S 5) w (pA (gA S 21) j) (pA (gA S 20) j) (gB S 22 (j)) (gB S 23 (j)))), (9, .long (Int32.toInt64 (hLow (gA S 5) w))), (11, .long (Int32.toInt64 (hHigh (gA S 5) w))), (13, .int 0), (14, .int 0)]) (st' := [.int 0]) (S' := S) rfl trivial ?_
        refine fV.if_ne bX3_overlaps_152 (fun c152 => ?_) (fun c152 => ?_)
        · exact absurd c152 (by decide)
        · refine fV.run iX3_overlaps_155_1 oX3_overlaps_155_1 (pc' := 157) (L' := [(0, .ref 18), (1, .int (nI j)), (2, .int (nI w)), (3, .ref 4), (4, .int (hAxI (gA S 5) w)), (5, .long (zPl (gA S 5) w (pA (gA S 21) j) (pA (gA S 20) j) (gB S 22 (j + 1)) (gB S 23 (j + 1)))), (7, .long (zPl (gA S 5) w (pA (gA S 21) j) (pA (gA S 20) j) (gB S 22 (j)) (gB S 23 (j)))), (9, .long (Int32.toInt64 (hLow (gA S 5) w))), (11, .long (Int32.toInt64 (hHigh (gA S 5) w))), (13, .int 0), (14, .int 0)]) (st' := [.int 0]) (S' := S) rfl trivial ?_
          refine fV.if_ne bX3_overlaps_157 (fun c157 => ?_) (fun c157 => ?_)
          · exact absurd c157 (by decide)
          · refine fV.run iX3_overlaps_160_2 oX3_overlaps_160_2 (pc' := 165) (L' := [(0, .ref 18), (1, .int (nI j)), (2, .int (nI w)), (3, .ref 4), (4, .int (hAxI (gA S 5) w)), (5, .long (zPl (gA S 5) w (pA (gA S 21) j) (pA (gA S 20) j) (gB S 22 (j + 1)) (gB S 23 (j + 1)))), (7, .long (zPl (gA S 5) w (pA (gA S 21) j) (pA (gA S 20) j) (gB S 22 (j)) (gB S 23 (j)))), (9, .long (Int32.toInt64 (hLow (gA S 5) w))), (11, .long (Int32.toInt64 (hHigh (gA S 5) w))), (13, .int 0), (14, .int 0)]) (st' := [.int 1]) (S' := S) rfl trivial ?_
            exact fV.zret rfl dX3_overlaps_165 (by decide) (Or.inl ⟨by unfold zOv; grind, rfl, rfl⟩)
      · refine fV.run iX3_overlaps_143_4 oX3_overlaps_143_4 (pc' := 152) (L' := [(0, .ref 18), (1, .int (nI j)), (2, .int (nI w)), (3, .ref 4), (4, .int (hAxI (gA S 5) w)), (5, .long (zPl (gA S 5) w (pA (gA S 21) j) (pA (gA S 20) j) (gB S 22 (j + 1)) (gB S 23 (j + 1)))), (7, .long (zPl (gA S 5) w (pA (gA S 21) j) (pA (gA S 20) j) (gB S 22 (j)) (gB S 23 (j)))), (9, .long (Int32.toInt64 (hLow (gA S 5) w))), (11, .long (Int32.toInt64 (hHigh (gA S 5) w))), (13, .int 0), (14, .int 1)]) (st' := [.int 0]) (S' := S) rfl trivial ?_
        refine fV.if_ne bX3_overlaps_152 (fun c152 => ?_) (fun c152 => ?_)
        · exact absurd c152 (by decide)
        · refine fV.run iX3_overlaps_155_1 oX3_overlaps_155_1 (pc' := 157) (L' := [(0, .ref 18), (1, .int (nI j)), (2, .int (nI w)), (3, .ref 4), (4, .int (hAxI (gA S 5) w)), (5, .long (zPl (gA S 5) w (pA (gA S 21) j) (pA (gA S 20) j) (gB S 22 (j + 1)) (gB S 23 (j + 1)))), (7, .long (zPl (gA S 5) w (pA (gA S 21) j) (pA (gA S 20) j) (gB S 22 (j)) (gB S 23 (j)))), (9, .long (Int32.toInt64 (hLow (gA S 5) w))), (11, .long (Int32.toInt64 (hHigh (gA S 5) w))), (13, .int 0), (14, .int 1)]) (st' := [.int 1]) (S' := S) rfl trivial ?_
          refine fV.if_ne bX3_overlaps_157 (fun c157 => ?_) (fun c157 => ?_)
          · refine fV.run iX3_overlaps_164_1 oX3_overlaps_164_1 (pc' := 165) (L' := [(0, .ref 18), (1, .int (nI j)), (2, .int (nI w)), (3, .ref 4), (4, .int (hAxI (gA S 5) w)), (5, .long (zPl (gA S 5) w (pA (gA S 21) j) (pA (gA S 20) j) (gB S 22 (j + 1)) (gB S 23 (j + 1)))), (7, .long (zPl (gA S 5) w (pA (gA S 21) j) (pA (gA S 20) j) (gB S 22 (j)) (gB S 23 (j)))), (9, .long (Int32.toInt64 (hLow (gA S 5) w))), (11, .long (Int32.toInt64 (hHigh (gA S 5) w))), (13, .int 0), (14, .int 1)]) (st' := [.int 0]) (S' := S) rfl trivial ?_
            exact fV.zret rfl dX3_overlaps_165 (by decide) (Or.inr ⟨by unfold zOv; grind, rfl, rfl⟩)
          · exact absurd c157 (by decide)
  · refine fV.run iX3_overlaps_89_6 oX3_overlaps_89_6 (pc' := 99) (L' := [(0, .ref 18), (1, .int (nI j)), (2, .int (nI w)), (3, .ref 4), (4, .int (hAxI (gA S 5) w)), (5, .long (zPl (gA S 5) w (pA (gA S 21) j) (pA (gA S 20) j) (gB S 22 (j + 1)) (gB S 23 (j + 1)))), (7, .long (zPl (gA S 5) w (pA (gA S 21) j) (pA (gA S 20) j) (gB S 22 (j)) (gB S 23 (j)))), (9, .long (Int32.toInt64 (hLow (gA S 5) w))), (11, .long (Int32.toInt64 (hHigh (gA S 5) w)))]) (st' := [.long (gB S 23 (nI j).toNatClampNeg), .long (Int32.toInt64 (hLow (gA S 5) w)), .long (zPl (gA S 5) w (pA (gA S 21) j) (pA (gA S 20) j) (gB S 22 (j)) (gB S 23 (j)))]) (S' := S) (P := vp_in (nI j) 5 ∧ True) rfl ⟨(vj (by omega) (by omega)).1, trivial⟩ ?_
    refine fV.to (L' := [(0, .ref 18), (1, .int (nI j)), (2, .int (nI w)), (3, .ref 4), (4, .int (hAxI (gA S 5) w)), (5, .long (zPl (gA S 5) w (pA (gA S 21) j) (pA (gA S 20) j) (gB S 22 (j + 1)) (gB S 23 (j + 1)))), (7, .long (zPl (gA S 5) w (pA (gA S 21) j) (pA (gA S 20) j) (gB S 22 (j)) (gB S 23 (j)))), (9, .long (Int32.toInt64 (hLow (gA S 5) w))), (11, .long (Int32.toInt64 (hHigh (gA S 5) w)))]) (st' := [.long (gB S 23 (j)), .long (Int32.toInt64 (hLow (gA S 5) w)), .long (zPl (gA S 5) w (pA (gA S 21) j) (pA (gA S 20) j) (gB S 22 (j)) (gB S 23 (j)))]) rfl rfl (by rw [show (gB S 23 (nI j).toNatClampNeg : Int64) = gB S 23 (j) from by rw [(cj (j := j) (by omega)).1]]) rfl ?_
    refine fV.run iX3_overlaps_99_2 oX3_overlaps_99_2 (pc' := 101) (L' := [(0, .ref 18), (1, .int (nI j)), (2, .int (nI w)), (3, .ref 4), (4, .int (hAxI (gA S 5) w)), (5, .long (zPl (gA S 5) w (pA (gA S 21) j) (pA (gA S 20) j) (gB S 22 (j + 1)) (gB S 23 (j + 1)))), (7, .long (zPl (gA S 5) w (pA (gA S 21) j) (pA (gA S 20) j) (gB S 22 (j)) (gB S 23 (j)))), (9, .long (Int32.toInt64 (hLow (gA S 5) w))), (11, .long (Int32.toInt64 (hHigh (gA S 5) w)))]) (st' := [.int (lg_cmp (zPl (gA S 5) w (pA (gA S 21) j) (pA (gA S 20) j) (gB S 22 (j)) (gB S 23 (j))) ((Int32.toInt64 (hLow (gA S 5) w)) * (gB S 23 (j))))]) (S' := S) rfl trivial ?_
    refine fV.lif_ge bX3_overlaps_101 (fun c101 => ?_) (fun c101 => ?_)
    · refine fV.run iX3_overlaps_108_10 oX3_overlaps_108_10 (pc' := 123) (L' := [(0, .ref 18), (1, .int (nI j)), (2, .int (nI w)), (3, .ref 4), (4, .int (hAxI (gA S 5) w)), (5, .long (zPl (gA S 5) w (pA (gA S 21) j) (pA (gA S 20) j) (gB S 22 (j + 1)) (gB S 23 (j + 1)))), (7, .long (zPl (gA S 5) w (pA (gA S 21) j) (pA (gA S 20) j) (gB S 22 (j)) (gB S 23 (j)))), (9, .long (Int32.toInt64 (hLow (gA S 5) w))), (11, .long (Int32.toInt64 (hHigh (gA S 5) w))), (13, .int 0)]) (st' := [.long (gB S 23 ((nI j) + 1).toNatClampNeg), .long (Int32.toInt64 (hHigh (gA S 5) w)), .long (zPl (gA S 5) w (pA (gA S 21) j) (pA (gA S 20) j) (gB S 22 (j + 1)) (gB S 23 (j + 1)))]) (S' := S) (P := vp_in ((nI j) + 1) 5 ∧ True) rfl ⟨(vj (by omega) (by omega)).2, trivial⟩ ?_
      refine fV.to (L' := [(0, .ref 18), (1, .int (nI j)), (2, .int (nI w)), (3, .ref 4), (4, .int (hAxI (gA S 5) w)), (5, .long (zPl (gA S 5) w (pA (gA S 21) j) (pA (gA S 20) j) (gB S 22 (j + 1)) (gB S 23 (j + 1)))), (7, .long (zPl (gA S 5) w (pA (gA S 21) j) (pA (gA S 20) j) (gB S 22 (j)) (gB S 23 (j)))), (9, .long (Int32.toInt64 (hLow (gA S 5) w))), (11, .long (Int32.toInt64 (hHigh (gA S 5) w))), (13, .int 0)]) (st' := [.long (gB S 23 (j + 1)), .long (Int32.toInt64 (hHigh (gA S 5) w)), .long (zPl (gA S 5) w (pA (gA S 21) j) (pA (gA S 20) j) (gB S 22 (j + 1)) (gB S 23 (j + 1)))]) rfl rfl (by rw [show (gB S 23 ((nI j) + 1).toNatClampNeg : Int64) = gB S 23 (j + 1) from by rw [(cj (j := j) (by omega)).2]]) rfl ?_
      refine fV.run iX3_overlaps_123_2 oX3_overlaps_123_2 (pc' := 125) (L' := [(0, .ref 18), (1, .int (nI j)), (2, .int (nI w)), (3, .ref 4), (4, .int (hAxI (gA S 5) w)), (5, .long (zPl (gA S 5) w (pA (gA S 21) j) (pA (gA S 20) j) (gB S 22 (j + 1)) (gB S 23 (j + 1)))), (7, .long (zPl (gA S 5) w (pA (gA S 21) j) (pA (gA S 20) j) (gB S 22 (j)) (gB S 23 (j)))), (9, .long (Int32.toInt64 (hLow (gA S 5) w))), (11, .long (Int32.toInt64 (hHigh (gA S 5) w))), (13, .int 0)]) (st' := [.int (lg_cmp (zPl (gA S 5) w (pA (gA S 21) j) (pA (gA S 20) j) (gB S 22 (j + 1)) (gB S 23 (j + 1))) ((Int32.toInt64 (hHigh (gA S 5) w)) * (gB S 23 (j + 1))))]) (S' := S) rfl trivial ?_
      refine fV.lif_le bX3_overlaps_125 (fun c125 => ?_) (fun c125 => ?_)
      · refine fV.run iX3_overlaps_147_3 oX3_overlaps_147_3 (pc' := 152) (L' := [(0, .ref 18), (1, .int (nI j)), (2, .int (nI w)), (3, .ref 4), (4, .int (hAxI (gA S 5) w)), (5, .long (zPl (gA S 5) w (pA (gA S 21) j) (pA (gA S 20) j) (gB S 22 (j + 1)) (gB S 23 (j + 1)))), (7, .long (zPl (gA S 5) w (pA (gA S 21) j) (pA (gA S 20) j) (gB S 22 (j)) (gB S 23 (j)))), (9, .long (Int32.toInt64 (hLow (gA S 5) w))), (11, .long (Int32.toInt64 (hHigh (gA S 5) w))), (13, .int 0), (14, .int 0)]) (st' := [.int 0]) (S' := S) rfl trivial ?_
        refine fV.if_ne bX3_overlaps_152 (fun c152 => ?_) (fun c152 => ?_)
        · exact absurd c152 (by decide)
        · refine fV.run iX3_overlaps_155_1 oX3_overlaps_155_1 (pc' := 157) (L' := [(0, .ref 18), (1, .int (nI j)), (2, .int (nI w)), (3, .ref 4), (4, .int (hAxI (gA S 5) w)), (5, .long (zPl (gA S 5) w (pA (gA S 21) j) (pA (gA S 20) j) (gB S 22 (j + 1)) (gB S 23 (j + 1)))), (7, .long (zPl (gA S 5) w (pA (gA S 21) j) (pA (gA S 20) j) (gB S 22 (j)) (gB S 23 (j)))), (9, .long (Int32.toInt64 (hLow (gA S 5) w))), (11, .long (Int32.toInt64 (hHigh (gA S 5) w))), (13, .int 0), (14, .int 0)]) (st' := [.int 0]) (S' := S) rfl trivial ?_
          refine fV.if_ne bX3_overlaps_157 (fun c157 => ?_) (fun c157 => ?_)
          · exact absurd c157 (by decide)
          · refine fV.run iX3_overlaps_160_2 oX3_overlaps_160_2 (pc' := 165) (L' := [(0, .ref 18), (1, .int (nI j)), (2, .int (nI w)), (3, .ref 4), (4, .int (hAxI (gA S 5) w)), (5, .long (zPl (gA S 5) w (pA (gA S 21) j) (pA (gA S 20) j) (gB S 22 (j + 1)) (gB S 23 (j + 1)))), (7, .long (zPl (gA S 5) w (pA (gA S 21) j) (pA (gA S 20) j) (gB S 22 (j)) (gB S 23 (j)))), (9, .long (Int32.toInt64 (hLow (gA S 5) w))), (11, .long (Int32.toInt64 (hHigh (gA S 5) w))), (13, .int 0), (14, .int 0)]) (st' := [.int 1]) (S' := S) rfl trivial ?_
            exact fV.zret rfl dX3_overlaps_165 (by decide) (Or.inl ⟨by unfold zOv; grind, rfl, rfl⟩)
      · refine fV.run iX3_overlaps_128_6 oX3_overlaps_128_6 (pc' := 138) (L' := [(0, .ref 18), (1, .int (nI j)), (2, .int (nI w)), (3, .ref 4), (4, .int (hAxI (gA S 5) w)), (5, .long (zPl (gA S 5) w (pA (gA S 21) j) (pA (gA S 20) j) (gB S 22 (j + 1)) (gB S 23 (j + 1)))), (7, .long (zPl (gA S 5) w (pA (gA S 21) j) (pA (gA S 20) j) (gB S 22 (j)) (gB S 23 (j)))), (9, .long (Int32.toInt64 (hLow (gA S 5) w))), (11, .long (Int32.toInt64 (hHigh (gA S 5) w))), (13, .int 0)]) (st' := [.long (gB S 23 (nI j).toNatClampNeg), .long (Int32.toInt64 (hHigh (gA S 5) w)), .long (zPl (gA S 5) w (pA (gA S 21) j) (pA (gA S 20) j) (gB S 22 (j)) (gB S 23 (j)))]) (S' := S) (P := vp_in (nI j) 5 ∧ True) rfl ⟨(vj (by omega) (by omega)).1, trivial⟩ ?_
        refine fV.to (L' := [(0, .ref 18), (1, .int (nI j)), (2, .int (nI w)), (3, .ref 4), (4, .int (hAxI (gA S 5) w)), (5, .long (zPl (gA S 5) w (pA (gA S 21) j) (pA (gA S 20) j) (gB S 22 (j + 1)) (gB S 23 (j + 1)))), (7, .long (zPl (gA S 5) w (pA (gA S 21) j) (pA (gA S 20) j) (gB S 22 (j)) (gB S 23 (j)))), (9, .long (Int32.toInt64 (hLow (gA S 5) w))), (11, .long (Int32.toInt64 (hHigh (gA S 5) w))), (13, .int 0)]) (st' := [.long (gB S 23 (j)), .long (Int32.toInt64 (hHigh (gA S 5) w)), .long (zPl (gA S 5) w (pA (gA S 21) j) (pA (gA S 20) j) (gB S 22 (j)) (gB S 23 (j)))]) rfl rfl (by rw [show (gB S 23 (nI j).toNatClampNeg : Int64) = gB S 23 (j) from by rw [(cj (j := j) (by omega)).1]]) rfl ?_
        refine fV.run iX3_overlaps_138_2 oX3_overlaps_138_2 (pc' := 140) (L' := [(0, .ref 18), (1, .int (nI j)), (2, .int (nI w)), (3, .ref 4), (4, .int (hAxI (gA S 5) w)), (5, .long (zPl (gA S 5) w (pA (gA S 21) j) (pA (gA S 20) j) (gB S 22 (j + 1)) (gB S 23 (j + 1)))), (7, .long (zPl (gA S 5) w (pA (gA S 21) j) (pA (gA S 20) j) (gB S 22 (j)) (gB S 23 (j)))), (9, .long (Int32.toInt64 (hLow (gA S 5) w))), (11, .long (Int32.toInt64 (hHigh (gA S 5) w))), (13, .int 0)]) (st' := [.int (lg_cmp (zPl (gA S 5) w (pA (gA S 21) j) (pA (gA S 20) j) (gB S 22 (j)) (gB S 23 (j))) ((Int32.toInt64 (hHigh (gA S 5) w)) * (gB S 23 (j))))]) (S' := S) rfl trivial ?_
        refine fV.lif_le bX3_overlaps_140 (fun c140 => ?_) (fun c140 => ?_)
        · refine fV.run iX3_overlaps_147_3 oX3_overlaps_147_3 (pc' := 152) (L' := [(0, .ref 18), (1, .int (nI j)), (2, .int (nI w)), (3, .ref 4), (4, .int (hAxI (gA S 5) w)), (5, .long (zPl (gA S 5) w (pA (gA S 21) j) (pA (gA S 20) j) (gB S 22 (j + 1)) (gB S 23 (j + 1)))), (7, .long (zPl (gA S 5) w (pA (gA S 21) j) (pA (gA S 20) j) (gB S 22 (j)) (gB S 23 (j)))), (9, .long (Int32.toInt64 (hLow (gA S 5) w))), (11, .long (Int32.toInt64 (hHigh (gA S 5) w))), (13, .int 0), (14, .int 0)]) (st' := [.int 0]) (S' := S) rfl trivial ?_
          refine fV.if_ne bX3_overlaps_152 (fun c152 => ?_) (fun c152 => ?_)
          · exact absurd c152 (by decide)
          · refine fV.run iX3_overlaps_155_1 oX3_overlaps_155_1 (pc' := 157) (L' := [(0, .ref 18), (1, .int (nI j)), (2, .int (nI w)), (3, .ref 4), (4, .int (hAxI (gA S 5) w)), (5, .long (zPl (gA S 5) w (pA (gA S 21) j) (pA (gA S 20) j) (gB S 22 (j + 1)) (gB S 23 (j + 1)))), (7, .long (zPl (gA S 5) w (pA (gA S 21) j) (pA (gA S 20) j) (gB S 22 (j)) (gB S 23 (j)))), (9, .long (Int32.toInt64 (hLow (gA S 5) w))), (11, .long (Int32.toInt64 (hHigh (gA S 5) w))), (13, .int 0), (14, .int 0)]) (st' := [.int 0]) (S' := S) rfl trivial ?_
            refine fV.if_ne bX3_overlaps_157 (fun c157 => ?_) (fun c157 => ?_)
            · exact absurd c157 (by decide)
            · refine fV.run iX3_overlaps_160_2 oX3_overlaps_160_2 (pc' := 165) (L' := [(0, .ref 18), (1, .int (nI j)), (2, .int (nI w)), (3, .ref 4), (4, .int (hAxI (gA S 5) w)), (5, .long (zPl (gA S 5) w (pA (gA S 21) j) (pA (gA S 20) j) (gB S 22 (j + 1)) (gB S 23 (j + 1)))), (7, .long (zPl (gA S 5) w (pA (gA S 21) j) (pA (gA S 20) j) (gB S 22 (j)) (gB S 23 (j)))), (9, .long (Int32.toInt64 (hLow (gA S 5) w))), (11, .long (Int32.toInt64 (hHigh (gA S 5) w))), (13, .int 0), (14, .int 0)]) (st' := [.int 1]) (S' := S) rfl trivial ?_
              exact fV.zret rfl dX3_overlaps_165 (by decide) (Or.inl ⟨by unfold zOv; grind, rfl, rfl⟩)
        · refine fV.run iX3_overlaps_143_4 oX3_overlaps_143_4 (pc' := 152) (L' := [(0, .ref 18), (1, .int (nI j)), (2, .int (nI w)), (3, .ref 4), (4, .int (hAxI (gA S 5) w)), (5, .long (zPl (gA S 5) w (pA (gA S 21) j) (pA (gA S 20) j) (gB S 22 (j + 1)) (gB S 23 (j + 1)))), (7, .long (zPl (gA S 5) w (pA (gA S 21) j) (pA (gA S 20) j) (gB S 22 (j)) (gB S 23 (j)))), (9, .long (Int32.toInt64 (hLow (gA S 5) w))), (11, .long (Int32.toInt64 (hHigh (gA S 5) w))), (13, .int 0), (14, .int 1)]) (st' := [.int 0]) (S' := S) rfl trivial ?_
          refine fV.if_ne bX3_overlaps_152 (fun c152 => ?_) (fun c152 => ?_)
          · exact absurd c152 (by decide)
          · refine fV.run iX3_overlaps_155_1 oX3_overlaps_155_1 (pc' := 157) (L' := [(0, .ref 18), (1, .int (nI j)), (2, .int (nI w)), (3, .ref 4), (4, .int (hAxI (gA S 5) w)), (5, .long (zPl (gA S 5) w (pA (gA S 21) j) (pA (gA S 20) j) (gB S 22 (j + 1)) (gB S 23 (j + 1)))), (7, .long (zPl (gA S 5) w (pA (gA S 21) j) (pA (gA S 20) j) (gB S 22 (j)) (gB S 23 (j)))), (9, .long (Int32.toInt64 (hLow (gA S 5) w))), (11, .long (Int32.toInt64 (hHigh (gA S 5) w))), (13, .int 0), (14, .int 1)]) (st' := [.int 1]) (S' := S) rfl trivial ?_
            refine fV.if_ne bX3_overlaps_157 (fun c157 => ?_) (fun c157 => ?_)
            · refine fV.run iX3_overlaps_164_1 oX3_overlaps_164_1 (pc' := 165) (L' := [(0, .ref 18), (1, .int (nI j)), (2, .int (nI w)), (3, .ref 4), (4, .int (hAxI (gA S 5) w)), (5, .long (zPl (gA S 5) w (pA (gA S 21) j) (pA (gA S 20) j) (gB S 22 (j + 1)) (gB S 23 (j + 1)))), (7, .long (zPl (gA S 5) w (pA (gA S 21) j) (pA (gA S 20) j) (gB S 22 (j)) (gB S 23 (j)))), (9, .long (Int32.toInt64 (hLow (gA S 5) w))), (11, .long (Int32.toInt64 (hHigh (gA S 5) w))), (13, .int 0), (14, .int 1)]) (st' := [.int 0]) (S' := S) rfl trivial ?_
              exact fV.zret rfl dX3_overlaps_165 (by decide) (Or.inr ⟨by unfold zOv; grind, rfl, rfl⟩)
            · exact absurd c157 (by decide)
    · refine fV.run iX3_overlaps_104_11 oX3_overlaps_104_11 (pc' := 123) (L' := [(0, .ref 18), (1, .int (nI j)), (2, .int (nI w)), (3, .ref 4), (4, .int (hAxI (gA S 5) w)), (5, .long (zPl (gA S 5) w (pA (gA S 21) j) (pA (gA S 20) j) (gB S 22 (j + 1)) (gB S 23 (j + 1)))), (7, .long (zPl (gA S 5) w (pA (gA S 21) j) (pA (gA S 20) j) (gB S 22 (j)) (gB S 23 (j)))), (9, .long (Int32.toInt64 (hLow (gA S 5) w))), (11, .long (Int32.toInt64 (hHigh (gA S 5) w))), (13, .int 1)]) (st' := [.long (gB S 23 ((nI j) + 1).toNatClampNeg), .long (Int32.toInt64 (hHigh (gA S 5) w)), .long (zPl (gA S 5) w (pA (gA S 21) j) (pA (gA S 20) j) (gB S 22 (j + 1)) (gB S 23 (j + 1)))]) (S' := S) (P := vp_in ((nI j) + 1) 5 ∧ True) rfl ⟨(vj (by omega) (by omega)).2, trivial⟩ ?_
      refine fV.to (L' := [(0, .ref 18), (1, .int (nI j)), (2, .int (nI w)), (3, .ref 4), (4, .int (hAxI (gA S 5) w)), (5, .long (zPl (gA S 5) w (pA (gA S 21) j) (pA (gA S 20) j) (gB S 22 (j + 1)) (gB S 23 (j + 1)))), (7, .long (zPl (gA S 5) w (pA (gA S 21) j) (pA (gA S 20) j) (gB S 22 (j)) (gB S 23 (j)))), (9, .long (Int32.toInt64 (hLow (gA S 5) w))), (11, .long (Int32.toInt64 (hHigh (gA S 5) w))), (13, .int 1)]) (st' := [.long (gB S 23 (j + 1)), .long (Int32.toInt64 (hHigh (gA S 5) w)), .long (zPl (gA S 5) w (pA (gA S 21) j) (pA (gA S 20) j) (gB S 22 (j + 1)) (gB S 23 (j + 1)))]) rfl rfl (by rw [show (gB S 23 ((nI j) + 1).toNatClampNeg : Int64) = gB S 23 (j + 1) from by rw [(cj (j := j) (by omega)).2]]) rfl ?_
      refine fV.run iX3_overlaps_123_2 oX3_overlaps_123_2 (pc' := 125) (L' := [(0, .ref 18), (1, .int (nI j)), (2, .int (nI w)), (3, .ref 4), (4, .int (hAxI (gA S 5) w)), (5, .long (zPl (gA S 5) w (pA (gA S 21) j) (pA (gA S 20) j) (gB S 22 (j + 1)) (gB S 23 (j + 1)))), (7, .long (zPl (gA S 5) w (pA (gA S 21) j) (pA (gA S 20) j) (gB S 22 (j)) (gB S 23 (j)))), (9, .long (Int32.toInt64 (hLow (gA S 5) w))), (11, .long (Int32.toInt64 (hHigh (gA S 5) w))), (13, .int 1)]) (st' := [.int (lg_cmp (zPl (gA S 5) w (pA (gA S 21) j) (pA (gA S 20) j) (gB S 22 (j + 1)) (gB S 23 (j + 1))) ((Int32.toInt64 (hHigh (gA S 5) w)) * (gB S 23 (j + 1))))]) (S' := S) rfl trivial ?_
      refine fV.lif_le bX3_overlaps_125 (fun c125 => ?_) (fun c125 => ?_)
      · refine fV.run iX3_overlaps_147_3 oX3_overlaps_147_3 (pc' := 152) (L' := [(0, .ref 18), (1, .int (nI j)), (2, .int (nI w)), (3, .ref 4), (4, .int (hAxI (gA S 5) w)), (5, .long (zPl (gA S 5) w (pA (gA S 21) j) (pA (gA S 20) j) (gB S 22 (j + 1)) (gB S 23 (j + 1)))), (7, .long (zPl (gA S 5) w (pA (gA S 21) j) (pA (gA S 20) j) (gB S 22 (j)) (gB S 23 (j)))), (9, .long (Int32.toInt64 (hLow (gA S 5) w))), (11, .long (Int32.toInt64 (hHigh (gA S 5) w))), (13, .int 1), (14, .int 0)]) (st' := [.int 1]) (S' := S) rfl trivial ?_
        refine fV.if_ne bX3_overlaps_152 (fun c152 => ?_) (fun c152 => ?_)
        · refine fV.run iX3_overlaps_164_1 oX3_overlaps_164_1 (pc' := 165) (L' := [(0, .ref 18), (1, .int (nI j)), (2, .int (nI w)), (3, .ref 4), (4, .int (hAxI (gA S 5) w)), (5, .long (zPl (gA S 5) w (pA (gA S 21) j) (pA (gA S 20) j) (gB S 22 (j + 1)) (gB S 23 (j + 1)))), (7, .long (zPl (gA S 5) w (pA (gA S 21) j) (pA (gA S 20) j) (gB S 22 (j)) (gB S 23 (j)))), (9, .long (Int32.toInt64 (hLow (gA S 5) w))), (11, .long (Int32.toInt64 (hHigh (gA S 5) w))), (13, .int 1), (14, .int 0)]) (st' := [.int 0]) (S' := S) rfl trivial ?_
          exact fV.zret rfl dX3_overlaps_165 (by decide) (Or.inr ⟨by unfold zOv; grind, rfl, rfl⟩)
        · exact absurd c152 (by decide)
      · refine fV.run iX3_overlaps_128_6 oX3_overlaps_128_6 (pc' := 138) (L' := [(0, .ref 18), (1, .int (nI j)), (2, .int (nI w)), (3, .ref 4), (4, .int (hAxI (gA S 5) w)), (5, .long (zPl (gA S 5) w (pA (gA S 21) j) (pA (gA S 20) j) (gB S 22 (j + 1)) (gB S 23 (j + 1)))), (7, .long (zPl (gA S 5) w (pA (gA S 21) j) (pA (gA S 20) j) (gB S 22 (j)) (gB S 23 (j)))), (9, .long (Int32.toInt64 (hLow (gA S 5) w))), (11, .long (Int32.toInt64 (hHigh (gA S 5) w))), (13, .int 1)]) (st' := [.long (gB S 23 (nI j).toNatClampNeg), .long (Int32.toInt64 (hHigh (gA S 5) w)), .long (zPl (gA S 5) w (pA (gA S 21) j) (pA (gA S 20) j) (gB S 22 (j)) (gB S 23 (j)))]) (S' := S) (P := vp_in (nI j) 5 ∧ True) rfl ⟨(vj (by omega) (by omega)).1, trivial⟩ ?_
        refine fV.to (L' := [(0, .ref 18), (1, .int (nI j)), (2, .int (nI w)), (3, .ref 4), (4, .int (hAxI (gA S 5) w)), (5, .long (zPl (gA S 5) w (pA (gA S 21) j) (pA (gA S 20) j) (gB S 22 (j + 1)) (gB S 23 (j + 1)))), (7, .long (zPl (gA S 5) w (pA (gA S 21) j) (pA (gA S 20) j) (gB S 22 (j)) (gB S 23 (j)))), (9, .long (Int32.toInt64 (hLow (gA S 5) w))), (11, .long (Int32.toInt64 (hHigh (gA S 5) w))), (13, .int 1)]) (st' := [.long (gB S 23 (j)), .long (Int32.toInt64 (hHigh (gA S 5) w)), .long (zPl (gA S 5) w (pA (gA S 21) j) (pA (gA S 20) j) (gB S 22 (j)) (gB S 23 (j)))]) rfl rfl (by rw [show (gB S 23 (nI j).toNatClampNeg : Int64) = gB S 23 (j) from by rw [(cj (j := j) (by omega)).1]]) rfl ?_
        refine fV.run iX3_overlaps_138_2 oX3_overlaps_138_2 (pc' := 140) (L' := [(0, .ref 18), (1, .int (nI j)), (2, .int (nI w)), (3, .ref 4), (4, .int (hAxI (gA S 5) w)), (5, .long (zPl (gA S 5) w (pA (gA S 21) j) (pA (gA S 20) j) (gB S 22 (j + 1)) (gB S 23 (j + 1)))), (7, .long (zPl (gA S 5) w (pA (gA S 21) j) (pA (gA S 20) j) (gB S 22 (j)) (gB S 23 (j)))), (9, .long (Int32.toInt64 (hLow (gA S 5) w))), (11, .long (Int32.toInt64 (hHigh (gA S 5) w))), (13, .int 1)]) (st' := [.int (lg_cmp (zPl (gA S 5) w (pA (gA S 21) j) (pA (gA S 20) j) (gB S 22 (j)) (gB S 23 (j))) ((Int32.toInt64 (hHigh (gA S 5) w)) * (gB S 23 (j))))]) (S' := S) rfl trivial ?_
        refine fV.lif_le bX3_overlaps_140 (fun c140 => ?_) (fun c140 => ?_)
        · refine fV.run iX3_overlaps_147_3 oX3_overlaps_147_3 (pc' := 152) (L' := [(0, .ref 18), (1, .int (nI j)), (2, .int (nI w)), (3, .ref 4), (4, .int (hAxI (gA S 5) w)), (5, .long (zPl (gA S 5) w (pA (gA S 21) j) (pA (gA S 20) j) (gB S 22 (j + 1)) (gB S 23 (j + 1)))), (7, .long (zPl (gA S 5) w (pA (gA S 21) j) (pA (gA S 20) j) (gB S 22 (j)) (gB S 23 (j)))), (9, .long (Int32.toInt64 (hLow (gA S 5) w))), (11, .long (Int32.toInt64 (hHigh (gA S 5) w))), (13, .int 1), (14, .int 0)]) (st' := [.int 1]) (S' := S) rfl trivial ?_
          refine fV.if_ne bX3_overlaps_152 (fun c152 => ?_) (fun c152 => ?_)
          · refine fV.run iX3_overlaps_164_1 oX3_overlaps_164_1 (pc' := 165) (L' := [(0, .ref 18), (1, .int (nI j)), (2, .int (nI w)), (3, .ref 4), (4, .int (hAxI (gA S 5) w)), (5, .long (zPl (gA S 5) w (pA (gA S 21) j) (pA (gA S 20) j) (gB S 22 (j + 1)) (gB S 23 (j + 1)))), (7, .long (zPl (gA S 5) w (pA (gA S 21) j) (pA (gA S 20) j) (gB S 22 (j)) (gB S 23 (j)))), (9, .long (Int32.toInt64 (hLow (gA S 5) w))), (11, .long (Int32.toInt64 (hHigh (gA S 5) w))), (13, .int 1), (14, .int 0)]) (st' := [.int 0]) (S' := S) rfl trivial ?_
            exact fV.zret rfl dX3_overlaps_165 (by decide) (Or.inr ⟨by unfold zOv; grind, rfl, rfl⟩)
          · exact absurd c152 (by decide)
        · refine fV.run iX3_overlaps_143_4 oX3_overlaps_143_4 (pc' := 152) (L' := [(0, .ref 18), (1, .int (nI j)), (2, .int (nI w)), (3, .ref 4), (4, .int (hAxI (gA S 5) w)), (5, .long (zPl (gA S 5) w (pA (gA S 21) j) (pA (gA S 20) j) (gB S 22 (j + 1)) (gB S 23 (j + 1)))), (7, .long (zPl (gA S 5) w (pA (gA S 21) j) (pA (gA S 20) j) (gB S 22 (j)) (gB S 23 (j)))), (9, .long (Int32.toInt64 (hLow (gA S 5) w))), (11, .long (Int32.toInt64 (hHigh (gA S 5) w))), (13, .int 1), (14, .int 1)]) (st' := [.int 1]) (S' := S) rfl trivial ?_
          refine fV.if_ne bX3_overlaps_152 (fun c152 => ?_) (fun c152 => ?_)
          · refine fV.run iX3_overlaps_164_1 oX3_overlaps_164_1 (pc' := 165) (L' := [(0, .ref 18), (1, .int (nI j)), (2, .int (nI w)), (3, .ref 4), (4, .int (hAxI (gA S 5) w)), (5, .long (zPl (gA S 5) w (pA (gA S 21) j) (pA (gA S 20) j) (gB S 22 (j + 1)) (gB S 23 (j + 1)))), (7, .long (zPl (gA S 5) w (pA (gA S 21) j) (pA (gA S 20) j) (gB S 22 (j)) (gB S 23 (j)))), (9, .long (Int32.toInt64 (hLow (gA S 5) w))), (11, .long (Int32.toInt64 (hHigh (gA S 5) w))), (13, .int 1), (14, .int 1)]) (st' := [.int 0]) (S' := S) rfl trivial ?_
            exact fV.zret rfl dX3_overlaps_165 (by decide) (Or.inr ⟨by unfold zOv; grind, rfl, rfl⟩)
          · exact absurd c152 (by decide)
def iX3_meets_0_5 : List Instr := [.aload_n 3, .getfield 42, .iload_n 2, .iaload, .istore 4]
theorem oX3_meets_0_5 : fOkB cX3_meets 0 iX3_meets_0_5 = true := by decide +kernel
def iX3_meets_8_19 : List Instr := [.aload_n 0, .getfield 15, .iconst 2, .iload_n 1, .imul, .iload 4, .iadd, .iaload, .aload_n 0, .getfield 18, .iconst 2, .iload_n 1, .imul, .iload 4, .iadd, .iaload, .isub, .i2l, .lstore 5]
theorem oX3_meets_8_19 : fOkB cX3_meets 8 iX3_meets_8_19 = true := by decide +kernel
def iX3_meets_34_15 : List Instr := [.aload_n 3, .getfield 47, .iload_n 2, .iaload, .aload_n 0, .getfield 18, .iconst 2, .iload_n 1, .imul, .iload 4, .iadd, .iaload, .isub, .i2l, .lstore 7]
theorem oX3_meets_34_15 : fOkB cX3_meets 34 iX3_meets_34_15 = true := by decide +kernel
def iX3_meets_55_3 : List Instr := [.lload 5, .lconst 0, .lcmp]
theorem oX3_meets_55_3 : fOkB cX3_meets 55 iX3_meets_55_3 = true := by decide +kernel
theorem bX3_meets_59 : fBk cX3_meets 59 (.ifCond .ne) 85 := ⟨26, by decide +kernel, by decide⟩
def iX3_meets_85_1 : List Instr := [.lload 5]
theorem oX3_meets_85_1 : fOkB cX3_meets 85 iX3_meets_85_1 = true := by decide +kernel
theorem dX3_meets_87 : decode cX3_meets 87 = .ok (.invokestatic 54, 3) := by decide +kernel
def iX3_meets_90_1 : List Instr := [.lstore 9]
theorem oX3_meets_90_1 : fOkB cX3_meets 90 iX3_meets_90_1 = true := by decide +kernel
def iX3_meets_92_3 : List Instr := [.lload 5, .lconst 0, .lcmp]
theorem oX3_meets_92_3 : fOkB cX3_meets 92 iX3_meets_92_3 = true := by decide +kernel
theorem bX3_meets_96 : fBk cX3_meets 96 (.ifCond .ge) 105 := ⟨9, by decide +kernel, by decide⟩
def iX3_meets_105_2 : List Instr := [.lload 7, .lstore 11]
theorem oX3_meets_105_2 : fOkB cX3_meets 105 iX3_meets_105_2 = true := by decide +kernel
def iX3_meets_109_7 : List Instr := [.lload 11, .aload_n 0, .getfield 25, .iload_n 1, .iconst 1, .iadd, .laload]
theorem oX3_meets_109_7 : fOkB cX3_meets 109 iX3_meets_109_7 = true := by decide +kernel
def iX3_meets_119_7 : List Instr := [.lmul, .aload_n 0, .getfield 21, .iload_n 1, .iconst 1, .iadd, .laload]
theorem oX3_meets_119_7 : fOkB cX3_meets 119 iX3_meets_119_7 = true := by decide +kernel
def iX3_meets_128_3 : List Instr := [.lload 9, .lmul, .lcmp]
theorem oX3_meets_128_3 : fOkB cX3_meets 128 iX3_meets_128_3 = true := by decide +kernel
theorem bX3_meets_132 : fBk cX3_meets 132 (.ifCond .lt) 157 := ⟨25, by decide +kernel, by decide⟩
def iX3_meets_157_1 : List Instr := [.iconst 0]
theorem oX3_meets_157_1 : fOkB cX3_meets 157 iX3_meets_157_1 = true := by decide +kernel
theorem dX3_meets_158 : decode cX3_meets 158 = .ok (.ireturn, 1) := by decide +kernel
def iX3_meets_135_5 : List Instr := [.lload 11, .aload_n 0, .getfield 25, .iload_n 1, .laload]
theorem oX3_meets_135_5 : fOkB cX3_meets 135 iX3_meets_135_5 = true := by decide +kernel
def iX3_meets_143_5 : List Instr := [.lmul, .aload_n 0, .getfield 21, .iload_n 1, .laload]
theorem oX3_meets_143_5 : fOkB cX3_meets 143 iX3_meets_143_5 = true := by decide +kernel
def iX3_meets_150_3 : List Instr := [.lload 9, .lmul, .lcmp]
theorem oX3_meets_150_3 : fOkB cX3_meets 150 iX3_meets_150_3 = true := by decide +kernel
theorem bX3_meets_154 : fBk cX3_meets 154 (.ifCond .le) 159 := ⟨5, by decide +kernel, by decide⟩
def iX3_meets_159_6 : List Instr := [.aload_n 0, .iload_n 1, .iload_n 2, .lload 11, .lload 9, .aload_n 3]
theorem oX3_meets_159_6 : fOkB cX3_meets 159 iX3_meets_159_6 = true := by decide +kernel
theorem dX3_meets_167 : decode cX3_meets 167 = .ok (.invokevirtual 60, 3) := by decide +kernel
theorem dX3_meets_170 : decode cX3_meets 170 = .ok (.ireturn, 1) := by decide +kernel
def iX3_meets_99_4 : List Instr := [.lload 7, .lneg, .goto 5, .lstore 11]
theorem oX3_meets_99_4 : fOkB cX3_meets 99 iX3_meets_99_4 = true := by decide +kernel
def iX3_meets_62_3 : List Instr := [.lload 7, .lconst 0, .lcmp]
theorem oX3_meets_62_3 : fOkB cX3_meets 62 iX3_meets_62_3 = true := by decide +kernel
theorem bX3_meets_66 : fBk cX3_meets 66 (.ifCond .ne) 83 := ⟨17, by decide +kernel, by decide⟩
def iX3_meets_83_1 : List Instr := [.iconst 0]
theorem oX3_meets_83_1 : fOkB cX3_meets 83 iX3_meets_83_1 = true := by decide +kernel
theorem dX3_meets_84 : decode cX3_meets 84 = .ok (.ireturn, 1) := by decide +kernel
def iX3_meets_69_4 : List Instr := [.aload_n 0, .iload_n 1, .iload_n 2, .aload_n 3]
theorem oX3_meets_69_4 : fOkB cX3_meets 69 iX3_meets_69_4 = true := by decide +kernel
set_option maxRecDepth 100000 in
theorem lX3_84 : Cond.methodLink RX3 84 yX3_overlaps ∈ fTB := fTB_at 480 rfl rfl
theorem dX3_meets_73 : decode cX3_meets 73 = .ok (.invokevirtual 84, 3) := by decide +kernel
theorem bX3_meets_76 : fBk cX3_meets 76 (.ifCond .eq) 83 := ⟨7, by decide +kernel, by decide⟩
def iX3_meets_79_2 : List Instr := [.iconst 1, .goto 4]
theorem oX3_meets_79_2 : fOkB cX3_meets 79 iX3_meets_79_2 = true := by decide +kernel
set_option maxRecDepth 100000 in
theorem qX3_meets {G : fG} {d : Nat} {S : fS} {b w j : Nat} (HG : hGeo S b) (hw : w < b) (hb : b ≤ 16) (hj : j ≤ 3)  : fCtr G (d + 2) mX3_meets [.ref 18, .int (nI j), .int (nI w), .ref 4] S (fun r S' => (zM (gA S 5) w (pA (gA S 21) j) (pA (gA S 20) j) (gB S 22 (j + 1)) (gB S 23 (j + 1)) (gB S 22 j) (gB S 23 j) ∧ r = some (.int 1) ∧ S' = S) ∨ (¬ zM (gA S 5) w (pA (gA S 21) j) (pA (gA S 20) j) (gB S 22 (j + 1)) (gB S 23 (j + 1)) (gB S 22 j) (gB S 23 j) ∧ r = some (.int 0) ∧ S' = S)) := by
  refine fCtr.of bXX3_meets (Nat.le_of_ble_eq_true rfl) rfl ?_
  refine fV.run iX3_meets_0_5 oX3_meets_0_5 (pc' := 8) (L' := [(0, .ref 18), (1, .int (nI j)), (2, .int (nI w)), (3, .ref 4), (4, .int (gA S 7 (nI w).toNatClampNeg))]) (st' := []) (S' := S) (P := vp_in (nI w) 16 ∧ True) rfl ⟨(vp_in_nI (show w < 16 by omega) (by decide)), trivial⟩ ?_
  refine fV.to (L' := [(0, .ref 18), (1, .int (nI j)), (2, .int (nI w)), (3, .ref 4), (4, .int (hAxI (gA S 5) w))]) (st' := []) rfl (by rw [show (gA S 7 (nI w).toNatClampNeg : Int32) = hAxI (gA S 5) w from geo_ax HG hw hb]) rfl rfl ?_
  refine fV.run iX3_meets_8_19 oX3_meets_8_19 (pc' := 34) (L' := [(0, .ref 18), (1, .int (nI j)), (2, .int (nI w)), (3, .ref 4), (4, .int (hAxI (gA S 5) w)), (5, .long (Int32.toInt64 ((gA S 20 ((2 * (nI j)) + (hAxI (gA S 5) w)).toNatClampNeg) - (gA S 21 ((2 * (nI j)) + (hAxI (gA S 5) w)).toNatClampNeg))))]) (st' := []) (S' := S) (P := vp_in ((2 * (nI j)) + (hAxI (gA S 5) w)) 8 ∧ vp_in ((2 * (nI j)) + (hAxI (gA S 5) w)) 8 ∧ True) rfl ⟨(ix_s hj (gA S 20)).2, (ix_s hj (gA S 20)).2, trivial⟩ ?_
  refine fV.to (L' := [(0, .ref 18), (1, .int (nI j)), (2, .int (nI w)), (3, .ref 4), (4, .int (hAxI (gA S 5) w)), (5, .long (zWy (gA S 5) w (pA (gA S 21) j) (pA (gA S 20) j)))]) (st' := []) rfl (by rw [show (Int32.toInt64 ((gA S 20 ((2 * (nI j)) + (hAxI (gA S 5) w)).toNatClampNeg) - (gA S 21 ((2 * (nI j)) + (hAxI (gA S 5) w)).toNatClampNeg)) : Int64) = zWy (gA S 5) w (pA (gA S 21) j) (pA (gA S 20) j) from by rw [(ix_s hj (gA S 20)).1, (ix_s hj (gA S 21)).1]; rfl]) rfl rfl ?_
  refine fV.run iX3_meets_34_15 oX3_meets_34_15 (pc' := 55) (L' := [(0, .ref 18), (1, .int (nI j)), (2, .int (nI w)), (3, .ref 4), (4, .int (hAxI (gA S 5) w)), (5, .long (zWy (gA S 5) w (pA (gA S 21) j) (pA (gA S 20) j))), (7, .long (Int32.toInt64 ((gA S 8 (nI w).toNatClampNeg) - (gA S 21 ((2 * (nI j)) + (hAxI (gA S 5) w)).toNatClampNeg))))]) (st' := []) (S' := S) (P := vp_in (nI w) 16 ∧ vp_in ((2 * (nI j)) + (hAxI (gA S 5) w)) 8 ∧ True) rfl ⟨(vp_in_nI (show w < 16 by omega) (by decide)), (ix_s hj (gA S 20)).2, trivial⟩ ?_
  refine fV.to (L' := [(0, .ref 18), (1, .int (nI j)), (2, .int (nI w)), (3, .ref 4), (4, .int (hAxI (gA S 5) w)), (5, .long (zWy (gA S 5) w (pA (gA S 21) j) (pA (gA S 20) j))), (7, .long (zTw (gA S 5) w (pA (gA S 21) j)))]) (st' := []) rfl (by rw [show (Int32.toInt64 ((gA S 8 (nI w).toNatClampNeg) - (gA S 21 ((2 * (nI j)) + (hAxI (gA S 5) w)).toNatClampNeg)) : Int64) = zTw (gA S 5) w (pA (gA S 21) j) from by rw [geo_ln HG hw hb, (ix_s hj (gA S 21)).1]; rfl]) rfl rfl ?_
  refine fV.run iX3_meets_55_3 oX3_meets_55_3 (pc' := 59) (L' := [(0, .ref 18), (1, .int (nI j)), (2, .int (nI w)), (3, .ref 4), (4, .int (hAxI (gA S 5) w)), (5, .long (zWy (gA S 5) w (pA (gA S 21) j) (pA (gA S 20) j))), (7, .long (zTw (gA S 5) w (pA (gA S 21) j)))]) (st' := [.int (lg_cmp (zWy (gA S 5) w (pA (gA S 21) j) (pA (gA S 20) j)) 0)]) (S' := S) rfl trivial ?_
  refine fV.lif_ne bX3_meets_59 (fun c59 => ?_) (fun c59 => ?_)
  · refine fV.run iX3_meets_85_1 oX3_meets_85_1 (pc' := 87) (L' := [(0, .ref 18), (1, .int (nI j)), (2, .int (nI w)), (3, .ref 4), (4, .int (hAxI (gA S 5) w)), (5, .long (zWy (gA S 5) w (pA (gA S 21) j) (pA (gA S 20) j))), (7, .long (zTw (gA S 5) w (pA (gA S 21) j)))]) (st' := [.long (zWy (gA S 5) w (pA (gA S 21) j) (pA (gA S 20) j))]) (S' := S) rfl trivial ?_
    refine fV.mabs dX3_meets_87 lX3_54 (fRoomM (Nat.le_of_ble_eq_true rfl)) ?_
    refine fV.run iX3_meets_90_1 oX3_meets_90_1 (pc' := 92) (L' := [(0, .ref 18), (1, .int (nI j)), (2, .int (nI w)), (3, .ref 4), (4, .int (hAxI (gA S 5) w)), (5, .long (zWy (gA S 5) w (pA (gA S 21) j) (pA (gA S 20) j))), (7, .long (zTw (gA S 5) w (pA (gA S 21) j))), (9, .long (if 0 < (zWy (gA S 5) w (pA (gA S 21) j) (pA (gA S 20) j)) then (zWy (gA S 5) w (pA (gA S 21) j) (pA (gA S 20) j)) else -(zWy (gA S 5) w (pA (gA S 21) j) (pA (gA S 20) j))))]) (st' := []) (S' := S) rfl trivial ?_
    refine fV.to (L' := [(0, .ref 18), (1, .int (nI j)), (2, .int (nI w)), (3, .ref 4), (4, .int (hAxI (gA S 5) w)), (5, .long (zWy (gA S 5) w (pA (gA S 21) j) (pA (gA S 20) j))), (7, .long (zTw (gA S 5) w (pA (gA S 21) j))), (9, .long (zWh (gA S 5) w (pA (gA S 21) j) (pA (gA S 20) j)))]) (st' := []) rfl (by rw [show (if 0 < (zWy (gA S 5) w (pA (gA S 21) j) (pA (gA S 20) j)) then (zWy (gA S 5) w (pA (gA S 21) j) (pA (gA S 20) j)) else -(zWy (gA S 5) w (pA (gA S 21) j) (pA (gA S 20) j)) : Int64) = zWh (gA S 5) w (pA (gA S 21) j) (pA (gA S 20) j) from rfl]) rfl rfl ?_
    refine fV.run iX3_meets_92_3 oX3_meets_92_3 (pc' := 96) (L' := [(0, .ref 18), (1, .int (nI j)), (2, .int (nI w)), (3, .ref 4), (4, .int (hAxI (gA S 5) w)), (5, .long (zWy (gA S 5) w (pA (gA S 21) j) (pA (gA S 20) j))), (7, .long (zTw (gA S 5) w (pA (gA S 21) j))), (9, .long (zWh (gA S 5) w (pA (gA S 21) j) (pA (gA S 20) j)))]) (st' := [.int (lg_cmp (zWy (gA S 5) w (pA (gA S 21) j) (pA (gA S 20) j)) 0)]) (S' := S) rfl trivial ?_
    refine fV.lif_ge bX3_meets_96 (fun c96 => ?_) (fun c96 => ?_)
    · refine fV.run iX3_meets_105_2 oX3_meets_105_2 (pc' := 109) (L' := [(0, .ref 18), (1, .int (nI j)), (2, .int (nI w)), (3, .ref 4), (4, .int (hAxI (gA S 5) w)), (5, .long (zWy (gA S 5) w (pA (gA S 21) j) (pA (gA S 20) j))), (7, .long (zTw (gA S 5) w (pA (gA S 21) j))), (9, .long (zWh (gA S 5) w (pA (gA S 21) j) (pA (gA S 20) j))), (11, .long (zTw (gA S 5) w (pA (gA S 21) j)))]) (st' := []) (S' := S) rfl trivial ?_
      refine fV.to (L' := [(0, .ref 18), (1, .int (nI j)), (2, .int (nI w)), (3, .ref 4), (4, .int (hAxI (gA S 5) w)), (5, .long (zWy (gA S 5) w (pA (gA S 21) j) (pA (gA S 20) j))), (7, .long (zTw (gA S 5) w (pA (gA S 21) j))), (9, .long (zWh (gA S 5) w (pA (gA S 21) j) (pA (gA S 20) j))), (11, .long (zPt (gA S 5) w (pA (gA S 21) j) (pA (gA S 20) j)))]) (st' := []) rfl (by rw [show (zTw (gA S 5) w (pA (gA S 21) j) : Int64) = zPt (gA S 5) w (pA (gA S 21) j) (pA (gA S 20) j) from by unfold zPt; rw [if_neg (by grind)]]) rfl rfl ?_
      refine fV.run iX3_meets_109_7 oX3_meets_109_7 (pc' := 119) (L' := [(0, .ref 18), (1, .int (nI j)), (2, .int (nI w)), (3, .ref 4), (4, .int (hAxI (gA S 5) w)), (5, .long (zWy (gA S 5) w (pA (gA S 21) j) (pA (gA S 20) j))), (7, .long (zTw (gA S 5) w (pA (gA S 21) j))), (9, .long (zWh (gA S 5) w (pA (gA S 21) j) (pA (gA S 20) j))), (11, .long (zPt (gA S 5) w (pA (gA S 21) j) (pA (gA S 20) j)))]) (st' := [.long (gB S 23 ((nI j) + 1).toNatClampNeg), .long (zPt (gA S 5) w (pA (gA S 21) j) (pA (gA S 20) j))]) (S' := S) (P := vp_in ((nI j) + 1) 5 ∧ True) rfl ⟨(vj (by omega) (by omega)).2, trivial⟩ ?_
      refine fV.to (L' := [(0, .ref 18), (1, .int (nI j)), (2, .int (nI w)), (3, .ref 4), (4, .int (hAxI (gA S 5) w)), (5, .long (zWy (gA S 5) w (pA (gA S 21) j) (pA (gA S 20) j))), (7, .long (zTw (gA S 5) w (pA (gA S 21) j))), (9, .long (zWh (gA S 5) w (pA (gA S 21) j) (pA (gA S 20) j))), (11, .long (zPt (gA S 5) w (pA (gA S 21) j) (pA (gA S 20) j)))]) (st' := [.long (gB S 23 (j + 1)), .long (zPt (gA S 5) w (pA (gA S 21) j) (pA (gA S 20) j))]) rfl rfl (by rw [show (gB S 23 ((nI j) + 1).toNatClampNeg : Int64) = gB S 23 (j + 1) from by rw [(cj (j := j) (by omega)).2]]) rfl ?_
      refine fV.run iX3_meets_119_7 oX3_meets_119_7 (pc' := 128) (L' := [(0, .ref 18), (1, .int (nI j)), (2, .int (nI w)), (3, .ref 4), (4, .int (hAxI (gA S 5) w)), (5, .long (zWy (gA S 5) w (pA (gA S 21) j) (pA (gA S 20) j))), (7, .long (zTw (gA S 5) w (pA (gA S 21) j))), (9, .long (zWh (gA S 5) w (pA (gA S 21) j) (pA (gA S 20) j))), (11, .long (zPt (gA S 5) w (pA (gA S 21) j) (pA (gA S 20) j)))]) (st' := [.long (gB S 22 ((nI j) + 1).toNatClampNeg), .long ((zPt (gA S 5) w (pA (gA S 21) j) (pA (gA S 20) j)) * (gB S 23 (j + 1)))]) (S' := S) (P := vp_in ((nI j) + 1) 5 ∧ True) rfl ⟨(vj (by omega) (by omega)).2, trivial⟩ ?_
      refine fV.to (L' := [(0, .ref 18), (1, .int (nI j)), (2, .int (nI w)), (3, .ref 4), (4, .int (hAxI (gA S 5) w)), (5, .long (zWy (gA S 5) w (pA (gA S 21) j) (pA (gA S 20) j))), (7, .long (zTw (gA S 5) w (pA (gA S 21) j))), (9, .long (zWh (gA S 5) w (pA (gA S 21) j) (pA (gA S 20) j))), (11, .long (zPt (gA S 5) w (pA (gA S 21) j) (pA (gA S 20) j)))]) (st' := [.long (gB S 22 (j + 1)), .long ((zPt (gA S 5) w (pA (gA S 21) j) (pA (gA S 20) j)) * (gB S 23 (j + 1)))]) rfl rfl (by rw [show (gB S 22 ((nI j) + 1).toNatClampNeg : Int64) = gB S 22 (j + 1) from by rw [(cj (j := j) (by omega)).2]]) rfl ?_
      refine fV.run iX3_meets_128_3 oX3_meets_128_3 (pc' := 132) (L' := [(0, .ref 18), (1, .int (nI j)), (2, .int (nI w)), (3, .ref 4), (4, .int (hAxI (gA S 5) w)), (5, .long (zWy (gA S 5) w (pA (gA S 21) j) (pA (gA S 20) j))), (7, .long (zTw (gA S 5) w (pA (gA S 21) j))), (9, .long (zWh (gA S 5) w (pA (gA S 21) j) (pA (gA S 20) j))), (11, .long (zPt (gA S 5) w (pA (gA S 21) j) (pA (gA S 20) j)))]) (st' := [.int (lg_cmp ((zPt (gA S 5) w (pA (gA S 21) j) (pA (gA S 20) j)) * (gB S 23 (j + 1))) ((gB S 22 (j + 1)) * (zWh (gA S 5) w (pA (gA S 21) j) (pA (gA S 20) j))))]) (S' := S) rfl trivial ?_
      refine fV.lif_lt bX3_meets_132 (fun c132 => ?_) (fun c132 => ?_)
      · refine fV.run iX3_meets_157_1 oX3_meets_157_1 (pc' := 158) (L' := [(0, .ref 18), (1, .int (nI j)), (2, .int (nI w)), (3, .ref 4), (4, .int (hAxI (gA S 5) w)), (5, .long (zWy (gA S 5) w (pA (gA S 21) j) (pA (gA S 20) j))), (7, .long (zTw (gA S 5) w (pA (gA S 21) j))), (9, .long (zWh (gA S 5) w (pA (gA S 21) j) (pA (gA S 20) j))), (11, .long (zPt (gA S 5) w (pA (gA S 21) j) (pA (gA S 20) j)))]) (st' := [.int 0]) (S' := S) rfl trivial ?_
        exact fV.zret rfl dX3_meets_158 (by decide) (Or.inr ⟨fun z => by unfold zM at z; rcases z with ⟨z1, z2, z3⟩ | ⟨z1, z2, z3, z4⟩ <;> first | (exact hz z3) | (exact hz z4) | grind, rfl, rfl⟩)
      · refine fV.run iX3_meets_135_5 oX3_meets_135_5 (pc' := 143) (L' := [(0, .ref 18), (1, .int (nI j)), (2, .int (nI w)), (3, .ref 4), (4, .int (hAxI (gA S 5) w)), (5, .long (zWy (gA S 5) w (pA (gA S 21) j) (pA (gA S 20) j))), (7, .long (zTw (gA S 5) w (pA (gA S 21) j))), (9, .long (zWh (gA S 5) w (pA (gA S 21) j) (pA (gA S 20) j))), (11, .long (zPt (gA S 5) w (pA (gA S 21) j) (pA (gA S 20) j)))]) (st' := [.long (gB S 23 (nI j).toNatClampNeg), .long (zPt (gA S 5) w (pA (gA S 21) j) (pA (gA S 20) j))]) (S' := S) (P := vp_in (nI j) 5 ∧ True) rfl ⟨(vj (by omega) (by omega)).1, trivial⟩ ?_
        refine fV.to (L' := [(0, .ref 18), (1, .int (nI j)), (2, .int (nI w)), (3, .ref 4), (4, .int (hAxI (gA S 5) w)), (5, .long (zWy (gA S 5) w (pA (gA S 21) j) (pA (gA S 20) j))), (7, .long (zTw (gA S 5) w (pA (gA S 21) j))), (9, .long (zWh (gA S 5) w (pA (gA S 21) j) (pA (gA S 20) j))), (11, .long (zPt (gA S 5) w (pA (gA S 21) j) (pA (gA S 20) j)))]) (st' := [.long (gB S 23 (j)), .long (zPt (gA S 5) w (pA (gA S 21) j) (pA (gA S 20) j))]) rfl rfl (by rw [show (gB S 23 (nI j).toNatClampNeg : Int64) = gB S 23 (j) from by rw [(cj (j := j) (by omega)).1]]) rfl ?_
        refine fV.run iX3_meets_143_5 oX3_meets_143_5 (pc' := 150) (L' := [(0, .ref 18), (1, .int (nI j)), (2, .int (nI w)), (3, .ref 4), (4, .int (hAxI (gA S 5) w)), (5, .long (zWy (gA S 5) w (pA (gA S 21) j) (pA (gA S 20) j))), (7, .long (zTw (gA S 5) w (pA (gA S 21) j))), (9, .long (zWh (gA S 5) w (pA (gA S 21) j) (pA (gA S 20) j))), (11, .long (zPt (gA S 5) w (pA (gA S 21) j) (pA (gA S 20) j)))]) (st' := [.long (gB S 22 (nI j).toNatClampNeg), .long ((zPt (gA S 5) w (pA (gA S 21) j) (pA (gA S 20) j)) * (gB S 23 (j)))]) (S' := S) (P := vp_in (nI j) 5 ∧ True) rfl ⟨(vj (by omega) (by omega)).1, trivial⟩ ?_
        refine fV.to (L' := [(0, .ref 18), (1, .int (nI j)), (2, .int (nI w)), (3, .ref 4), (4, .int (hAxI (gA S 5) w)), (5, .long (zWy (gA S 5) w (pA (gA S 21) j) (pA (gA S 20) j))), (7, .long (zTw (gA S 5) w (pA (gA S 21) j))), (9, .long (zWh (gA S 5) w (pA (gA S 21) j) (pA (gA S 20) j))), (11, .long (zPt (gA S 5) w (pA (gA S 21) j) (pA (gA S 20) j)))]) (st' := [.long (gB S 22 (j)), .long ((zPt (gA S 5) w (pA (gA S 21) j) (pA (gA S 20) j)) * (gB S 23 (j)))]) rfl rfl (by rw [show (gB S 22 (nI j).toNatClampNeg : Int64) = gB S 22 (j) from by rw [(cj (j := j) (by omega)).1]]) rfl ?_
        refine fV.run iX3_meets_150_3 oX3_meets_150_3 (pc' := 154) (L' := [(0, .ref 18), (1, .int (nI j)), (2, .int (nI w)), (3, .ref 4), (4, .int (hAxI (gA S 5) w)), (5, .long (zWy (gA S 5) w (pA (gA S 21) j) (pA (gA S 20) j))), (7, .long (zTw (gA S 5) w (pA (gA S 21) j))), (9, .long (zWh (gA S 5) w (pA (gA S 21) j) (pA (gA S 20) j))), (11, .long (zPt (gA S 5) w (pA (gA S 21) j) (pA (gA S 20) j)))]) (st' := [.int (lg_cmp ((zPt (gA S 5) w (pA (gA S 21) j) (pA (gA S 20) j)) * (gB S 23 (j))) ((gB S 22 (j)) * (zWh (gA S 5) w (pA (gA S 21) j) (pA (gA S 20) j))))]) (S' := S) rfl trivial ?_
        refine fV.lif_le bX3_meets_154 (fun c154 => ?_) (fun c154 => ?_)
        · refine fV.run iX3_meets_159_6 oX3_meets_159_6 (pc' := 167) (L' := [(0, .ref 18), (1, .int (nI j)), (2, .int (nI w)), (3, .ref 4), (4, .int (hAxI (gA S 5) w)), (5, .long (zWy (gA S 5) w (pA (gA S 21) j) (pA (gA S 20) j))), (7, .long (zTw (gA S 5) w (pA (gA S 21) j))), (9, .long (zWh (gA S 5) w (pA (gA S 21) j) (pA (gA S 20) j))), (11, .long (zPt (gA S 5) w (pA (gA S 21) j) (pA (gA S 20) j)))]) (st' := [.ref 4, .long (zWh (gA S 5) w (pA (gA S 21) j) (pA (gA S 20) j)), .long (zPt (gA S 5) w (pA (gA S 21) j) (pA (gA S 20) j)), .int (nI w), .int (nI j), .ref 18]) (S' := S) rfl trivial ?_
          refine fV.callV (M2 := mX3_isOnWall) (d := d + 1) (o := 18) (av := [.int (nI j), .int (nI w), .long (zPt (gA S 5) w (pA (gA S 21) j) (pA (gA S 20) j)), .long (zWh (gA S 5) w (pA (gA S 21) j) (pA (gA S 20) j)), .ref 4]) (rest := []) kX3_isOnWall dX3_meets_167 lX3_60 rfl rfl rfl (Nat.le_of_ble_eq_true rfl) (fRoom (by decide)) ⟨Nat.le_refl _, Nat.le_refl _⟩ (qX3_on (S := S) HG hw hb hj _ _) ?_
          rintro r9 S9 h9
          rcases h9 with ⟨hz, rfl, h9⟩ | ⟨hz, rfl, h9⟩
          · rw [h9]
            clear h9 S9
            have hz : zOn (gA S 5) w (pA (gA S 21) j) (pA (gA S 20) j) (zPt (gA S 5) w (pA (gA S 21) j) (pA (gA S 20) j)) (zWh (gA S 5) w (pA (gA S 21) j) (pA (gA S 20) j)) := hz
            refine fV.to (pc' := 170) (L' := [(0, .ref 18), (1, .int (nI j)), (2, .int (nI w)), (3, .ref 4), (4, .int (hAxI (gA S 5) w)), (5, .long (zWy (gA S 5) w (pA (gA S 21) j) (pA (gA S 20) j))), (7, .long (zTw (gA S 5) w (pA (gA S 21) j))), (9, .long (zWh (gA S 5) w (pA (gA S 21) j) (pA (gA S 20) j))), (11, .long (zPt (gA S 5) w (pA (gA S 21) j) (pA (gA S 20) j)))]) (st' := [.int 1]) (S' := S) rfl rfl rfl rfl ?_
            exact fV.zret rfl dX3_meets_170 (by decide) (Or.inl ⟨by first | exact Or.inl ⟨by grind, by grind, hz⟩ | exact Or.inr ⟨by grind, by grind, by grind, hz⟩, rfl, rfl⟩)
          · rw [h9]
            clear h9 S9
            have hz : ¬ zOn (gA S 5) w (pA (gA S 21) j) (pA (gA S 20) j) (zPt (gA S 5) w (pA (gA S 21) j) (pA (gA S 20) j)) (zWh (gA S 5) w (pA (gA S 21) j) (pA (gA S 20) j)) := hz
            refine fV.to (pc' := 170) (L' := [(0, .ref 18), (1, .int (nI j)), (2, .int (nI w)), (3, .ref 4), (4, .int (hAxI (gA S 5) w)), (5, .long (zWy (gA S 5) w (pA (gA S 21) j) (pA (gA S 20) j))), (7, .long (zTw (gA S 5) w (pA (gA S 21) j))), (9, .long (zWh (gA S 5) w (pA (gA S 21) j) (pA (gA S 20) j))), (11, .long (zPt (gA S 5) w (pA (gA S 21) j) (pA (gA S 20) j)))]) (st' := [.int 0]) (S' := S) rfl rfl rfl rfl ?_
            exact fV.zret rfl dX3_meets_170 (by decide) (Or.inr ⟨fun z => by unfold zM at z; rcases z with ⟨z1, z2, z3⟩ | ⟨z1, z2, z3, z4⟩ <;> first | (exact hz z3) | (exact hz z4) | grind, rfl, rfl⟩)
        · refine fV.run iX3_meets_157_1 oX3_meets_157_1 (pc' := 158) (L' := [(0, .ref 18), (1, .int (nI j)), (2, .int (nI w)), (3, .ref 4), (4, .int (hAxI (gA S 5) w)), (5, .long (zWy (gA S 5) w (pA (gA S 21) j) (pA (gA S 20) j))), (7, .long (zTw (gA S 5) w (pA (gA S 21) j))), (9, .long (zWh (gA S 5) w (pA (gA S 21) j) (pA (gA S 20) j))), (11, .long (zPt (gA S 5) w (pA (gA S 21) j) (pA (gA S 20) j)))]) (st' := [.int 0]) (S' := S) rfl trivial ?_
          exact fV.zret rfl dX3_meets_158 (by decide) (Or.inr ⟨fun z => by unfold zM at z; rcases z with ⟨z1, z2, z3⟩ | ⟨z1, z2, z3, z4⟩ <;> first | (exact hz z3) | (exact hz z4) | grind, rfl, rfl⟩)
    · refine fV.run iX3_meets_99_4 oX3_meets_99_4 (pc' := 109) (L' := [(0, .ref 18), (1, .int (nI j)), (2, .int (nI w)), (3, .ref 4), (4, .int (hAxI (gA S 5) w)), (5, .long (zWy (gA S 5) w (pA (gA S 21) j) (pA (gA S 20) j))), (7, .long (zTw (gA S 5) w (pA (gA S 21) j))), (9, .long (zWh (gA S 5) w (pA (gA S 21) j) (pA (gA S 20) j))), (11, .long (-(zTw (gA S 5) w (pA (gA S 21) j))))]) (st' := []) (S' := S) rfl trivial ?_
      refine fV.to (L' := [(0, .ref 18), (1, .int (nI j)), (2, .int (nI w)), (3, .ref 4), (4, .int (hAxI (gA S 5) w)), (5, .long (zWy (gA S 5) w (pA (gA S 21) j) (pA (gA S 20) j))), (7, .long (zTw (gA S 5) w (pA (gA S 21) j))), (9, .long (zWh (gA S 5) w (pA (gA S 21) j) (pA (gA S 20) j))), (11, .long (zPt (gA S 5) w (pA (gA S 21) j) (pA (gA S 20) j)))]) (st' := []) rfl (by rw [show (-(zTw (gA S 5) w (pA (gA S 21) j)) : Int64) = zPt (gA S 5) w (pA (gA S 21) j) (pA (gA S 20) j) from by unfold zPt; rw [if_pos (by grind)]]) rfl rfl ?_
      refine fV.run iX3_meets_109_7 oX3_meets_109_7 (pc' := 119) (L' := [(0, .ref 18), (1, .int (nI j)), (2, .int (nI w)), (3, .ref 4), (4, .int (hAxI (gA S 5) w)), (5, .long (zWy (gA S 5) w (pA (gA S 21) j) (pA (gA S 20) j))), (7, .long (zTw (gA S 5) w (pA (gA S 21) j))), (9, .long (zWh (gA S 5) w (pA (gA S 21) j) (pA (gA S 20) j))), (11, .long (zPt (gA S 5) w (pA (gA S 21) j) (pA (gA S 20) j)))]) (st' := [.long (gB S 23 ((nI j) + 1).toNatClampNeg), .long (zPt (gA S 5) w (pA (gA S 21) j) (pA (gA S 20) j))]) (S' := S) (P := vp_in ((nI j) + 1) 5 ∧ True) rfl ⟨(vj (by omega) (by omega)).2, trivial⟩ ?_
      refine fV.to (L' := [(0, .ref 18), (1, .int (nI j)), (2, .int (nI w)), (3, .ref 4), (4, .int (hAxI (gA S 5) w)), (5, .long (zWy (gA S 5) w (pA (gA S 21) j) (pA (gA S 20) j))), (7, .long (zTw (gA S 5) w (pA (gA S 21) j))), (9, .long (zWh (gA S 5) w (pA (gA S 21) j) (pA (gA S 20) j))), (11, .long (zPt (gA S 5) w (pA (gA S 21) j) (pA (gA S 20) j)))]) (st' := [.long (gB S 23 (j + 1)), .long (zPt (gA S 5) w (pA (gA S 21) j) (pA (gA S 20) j))]) rfl rfl (by rw [show (gB S 23 ((nI j) + 1).toNatClampNeg : Int64) = gB S 23 (j + 1) from by rw [(cj (j := j) (by omega)).2]]) rfl ?_
      refine fV.run iX3_meets_119_7 oX3_meets_119_7 (pc' := 128) (L' := [(0, .ref 18), (1, .int (nI j)), (2, .int (nI w)), (3, .ref 4), (4, .int (hAxI (gA S 5) w)), (5, .long (zWy (gA S 5) w (pA (gA S 21) j) (pA (gA S 20) j))), (7, .long (zTw (gA S 5) w (pA (gA S 21) j))), (9, .long (zWh (gA S 5) w (pA (gA S 21) j) (pA (gA S 20) j))), (11, .long (zPt (gA S 5) w (pA (gA S 21) j) (pA (gA S 20) j)))]) (st' := [.long (gB S 22 ((nI j) + 1).toNatClampNeg), .long ((zPt (gA S 5) w (pA (gA S 21) j) (pA (gA S 20) j)) * (gB S 23 (j + 1)))]) (S' := S) (P := vp_in ((nI j) + 1) 5 ∧ True) rfl ⟨(vj (by omega) (by omega)).2, trivial⟩ ?_
      refine fV.to (L' := [(0, .ref 18), (1, .int (nI j)), (2, .int (nI w)), (3, .ref 4), (4, .int (hAxI (gA S 5) w)), (5, .long (zWy (gA S 5) w (pA (gA S 21) j) (pA (gA S 20) j))), (7, .long (zTw (gA S 5) w (pA (gA S 21) j))), (9, .long (zWh (gA S 5) w (pA (gA S 21) j) (pA (gA S 20) j))), (11, .long (zPt (gA S 5) w (pA (gA S 21) j) (pA (gA S 20) j)))]) (st' := [.long (gB S 22 (j + 1)), .long ((zPt (gA S 5) w (pA (gA S 21) j) (pA (gA S 20) j)) * (gB S 23 (j + 1)))]) rfl rfl (by rw [show (gB S 22 ((nI j) + 1).toNatClampNeg : Int64) = gB S 22 (j + 1) from by rw [(cj (j := j) (by omega)).2]]) rfl ?_
      refine fV.run iX3_meets_128_3 oX3_meets_128_3 (pc' := 132) (L' := [(0, .ref 18), (1, .int (nI j)), (2, .int (nI w)), (3, .ref 4), (4, .int (hAxI (gA S 5) w)), (5, .long (zWy (gA S 5) w (pA (gA S 21) j) (pA (gA S 20) j))), (7, .long (zTw (gA S 5) w (pA (gA S 21) j))), (9, .long (zWh (gA S 5) w (pA (gA S 21) j) (pA (gA S 20) j))), (11, .long (zPt (gA S 5) w (pA (gA S 21) j) (pA (gA S 20) j)))]) (st' := [.int (lg_cmp ((zPt (gA S 5) w (pA (gA S 21) j) (pA (gA S 20) j)) * (gB S 23 (j + 1))) ((gB S 22 (j + 1)) * (zWh (gA S 5) w (pA (gA S 21) j) (pA (gA S 20) j))))]) (S' := S) rfl trivial ?_
      refine fV.lif_lt bX3_meets_132 (fun c132 => ?_) (fun c132 => ?_)
      · refine fV.run iX3_meets_157_1 oX3_meets_157_1 (pc' := 158) (L' := [(0, .ref 18), (1, .int (nI j)), (2, .int (nI w)), (3, .ref 4), (4, .int (hAxI (gA S 5) w)), (5, .long (zWy (gA S 5) w (pA (gA S 21) j) (pA (gA S 20) j))), (7, .long (zTw (gA S 5) w (pA (gA S 21) j))), (9, .long (zWh (gA S 5) w (pA (gA S 21) j) (pA (gA S 20) j))), (11, .long (zPt (gA S 5) w (pA (gA S 21) j) (pA (gA S 20) j)))]) (st' := [.int 0]) (S' := S) rfl trivial ?_
        exact fV.zret rfl dX3_meets_158 (by decide) (Or.inr ⟨fun z => by unfold zM at z; rcases z with ⟨z1, z2, z3⟩ | ⟨z1, z2, z3, z4⟩ <;> first | (exact hz z3) | (exact hz z4) | grind, rfl, rfl⟩)
      · refine fV.run iX3_meets_135_5 oX3_meets_135_5 (pc' := 143) (L' := [(0, .ref 18), (1, .int (nI j)), (2, .int (nI w)), (3, .ref 4), (4, .int (hAxI (gA S 5) w)), (5, .long (zWy (gA S 5) w (pA (gA S 21) j) (pA (gA S 20) j))), (7, .long (zTw (gA S 5) w (pA (gA S 21) j))), (9, .long (zWh (gA S 5) w (pA (gA S 21) j) (pA (gA S 20) j))), (11, .long (zPt (gA S 5) w (pA (gA S 21) j) (pA (gA S 20) j)))]) (st' := [.long (gB S 23 (nI j).toNatClampNeg), .long (zPt (gA S 5) w (pA (gA S 21) j) (pA (gA S 20) j))]) (S' := S) (P := vp_in (nI j) 5 ∧ True) rfl ⟨(vj (by omega) (by omega)).1, trivial⟩ ?_
        refine fV.to (L' := [(0, .ref 18), (1, .int (nI j)), (2, .int (nI w)), (3, .ref 4), (4, .int (hAxI (gA S 5) w)), (5, .long (zWy (gA S 5) w (pA (gA S 21) j) (pA (gA S 20) j))), (7, .long (zTw (gA S 5) w (pA (gA S 21) j))), (9, .long (zWh (gA S 5) w (pA (gA S 21) j) (pA (gA S 20) j))), (11, .long (zPt (gA S 5) w (pA (gA S 21) j) (pA (gA S 20) j)))]) (st' := [.long (gB S 23 (j)), .long (zPt (gA S 5) w (pA (gA S 21) j) (pA (gA S 20) j))]) rfl rfl (by rw [show (gB S 23 (nI j).toNatClampNeg : Int64) = gB S 23 (j) from by rw [(cj (j := j) (by omega)).1]]) rfl ?_
        refine fV.run iX3_meets_143_5 oX3_meets_143_5 (pc' := 150) (L' := [(0, .ref 18), (1, .int (nI j)), (2, .int (nI w)), (3, .ref 4), (4, .int (hAxI (gA S 5) w)), (5, .long (zWy (gA S 5) w (pA (gA S 21) j) (pA (gA S 20) j))), (7, .long (zTw (gA S 5) w (pA (gA S 21) j))), (9, .long (zWh (gA S 5) w (pA (gA S 21) j) (pA (gA S 20) j))), (11, .long (zPt (gA S 5) w (pA (gA S 21) j) (pA (gA S 20) j)))]) (st' := [.long (gB S 22 (nI j).toNatClampNeg), .long ((zPt (gA S 5) w (pA (gA S 21) j) (pA (gA S 20) j)) * (gB S 23 (j)))]) (S' := S) (P := vp_in (nI j) 5 ∧ True) rfl ⟨(vj (by omega) (by omega)).1, trivial⟩ ?_
        refine fV.to (L' := [(0, .ref 18), (1, .int (nI j)), (2, .int (nI w)), (3, .ref 4), (4, .int (hAxI (gA S 5) w)), (5, .long (zWy (gA S 5) w (pA (gA S 21) j) (pA (gA S 20) j))), (7, .long (zTw (gA S 5) w (pA (gA S 21) j))), (9, .long (zWh (gA S 5) w (pA (gA S 21) j) (pA (gA S 20) j))), (11, .long (zPt (gA S 5) w (pA (gA S 21) j) (pA (gA S 20) j)))]) (st' := [.long (gB S 22 (j)), .long ((zPt (gA S 5) w (pA (gA S 21) j) (pA (gA S 20) j)) * (gB S 23 (j)))]) rfl rfl (by rw [show (gB S 22 (nI j).toNatClampNeg : Int64) = gB S 22 (j) from by rw [(cj (j := j) (by omega)).1]]) rfl ?_
        refine fV.run iX3_meets_150_3 oX3_meets_150_3 (pc' := 154) (L' := [(0, .ref 18), (1, .int (nI j)), (2, .int (nI w)), (3, .ref 4), (4, .int (hAxI (gA S 5) w)), (5, .long (zWy (gA S 5) w (pA (gA S 21) j) (pA (gA S 20) j))), (7, .long (zTw (gA S 5) w (pA (gA S 21) j))), (9, .long (zWh (gA S 5) w (pA (gA S 21) j) (pA (gA S 20) j))), (11, .long (zPt (gA S 5) w (pA (gA S 21) j) (pA (gA S 20) j)))]) (st' := [.int (lg_cmp ((zPt (gA S 5) w (pA (gA S 21) j) (pA (gA S 20) j)) * (gB S 23 (j))) ((gB S 22 (j)) * (zWh (gA S 5) w (pA (gA S 21) j) (pA (gA S 20) j))))]) (S' := S) rfl trivial ?_
        refine fV.lif_le bX3_meets_154 (fun c154 => ?_) (fun c154 => ?_)
        · refine fV.run iX3_meets_159_6 oX3_meets_159_6 (pc' := 167) (L' := [(0, .ref 18), (1, .int (nI j)), (2, .int (nI w)), (3, .ref 4), (4, .int (hAxI (gA S 5) w)), (5, .long (zWy (gA S 5) w (pA (gA S 21) j) (pA (gA S 20) j))), (7, .long (zTw (gA S 5) w (pA (gA S 21) j))), (9, .long (zWh (gA S 5) w (pA (gA S 21) j) (pA (gA S 20) j))), (11, .long (zPt (gA S 5) w (pA (gA S 21) j) (pA (gA S 20) j)))]) (st' := [.ref 4, .long (zWh (gA S 5) w (pA (gA S 21) j) (pA (gA S 20) j)), .long (zPt (gA S 5) w (pA (gA S 21) j) (pA (gA S 20) j)), .int (nI w), .int (nI j), .ref 18]) (S' := S) rfl trivial ?_
          refine fV.callV (M2 := mX3_isOnWall) (d := d + 1) (o := 18) (av := [.int (nI j), .int (nI w), .long (zPt (gA S 5) w (pA (gA S 21) j) (pA (gA S 20) j)), .long (zWh (gA S 5) w (pA (gA S 21) j) (pA (gA S 20) j)), .ref 4]) (rest := []) kX3_isOnWall dX3_meets_167 lX3_60 rfl rfl rfl (Nat.le_of_ble_eq_true rfl) (fRoom (by decide)) ⟨Nat.le_refl _, Nat.le_refl _⟩ (qX3_on (S := S) HG hw hb hj _ _) ?_
          rintro r9 S9 h9
          rcases h9 with ⟨hz, rfl, h9⟩ | ⟨hz, rfl, h9⟩
          · rw [h9]
            clear h9 S9
            have hz : zOn (gA S 5) w (pA (gA S 21) j) (pA (gA S 20) j) (zPt (gA S 5) w (pA (gA S 21) j) (pA (gA S 20) j)) (zWh (gA S 5) w (pA (gA S 21) j) (pA (gA S 20) j)) := hz
            refine fV.to (pc' := 170) (L' := [(0, .ref 18), (1, .int (nI j)), (2, .int (nI w)), (3, .ref 4), (4, .int (hAxI (gA S 5) w)), (5, .long (zWy (gA S 5) w (pA (gA S 21) j) (pA (gA S 20) j))), (7, .long (zTw (gA S 5) w (pA (gA S 21) j))), (9, .long (zWh (gA S 5) w (pA (gA S 21) j) (pA (gA S 20) j))), (11, .long (zPt (gA S 5) w (pA (gA S 21) j) (pA (gA S 20) j)))]) (st' := [.int 1]) (S' := S) rfl rfl rfl rfl ?_
            exact fV.zret rfl dX3_meets_170 (by decide) (Or.inl ⟨by first | exact Or.inl ⟨by grind, by grind, hz⟩ | exact Or.inr ⟨by grind, by grind, by grind, hz⟩, rfl, rfl⟩)
          · rw [h9]
            clear h9 S9
            have hz : ¬ zOn (gA S 5) w (pA (gA S 21) j) (pA (gA S 20) j) (zPt (gA S 5) w (pA (gA S 21) j) (pA (gA S 20) j)) (zWh (gA S 5) w (pA (gA S 21) j) (pA (gA S 20) j)) := hz
            refine fV.to (pc' := 170) (L' := [(0, .ref 18), (1, .int (nI j)), (2, .int (nI w)), (3, .ref 4), (4, .int (hAxI (gA S 5) w)), (5, .long (zWy (gA S 5) w (pA (gA S 21) j) (pA (gA S 20) j))), (7, .long (zTw (gA S 5) w (pA (gA S 21) j))), (9, .long (zWh (gA S 5) w (pA (gA S 21) j) (pA (gA S 20) j))), (11, .long (zPt (gA S 5) w (pA (gA S 21) j) (pA (gA S 20) j)))]) (st' := [.int 0]) (S' := S) rfl rfl rfl rfl ?_
            exact fV.zret rfl dX3_meets_170 (by decide) (Or.inr ⟨fun z => by unfold zM at z; rcases z with ⟨z1, z2, z3⟩ | ⟨z1, z2, z3, z4⟩ <;> first | (exact hz z3) | (exact hz z4) | grind, rfl, rfl⟩)
        · refine fV.run iX3_meets_157_1 oX3_meets_157_1 (pc' := 158) (L' := [(0, .ref 18), (1, .int (nI j)), (2, .int (nI w)), (3, .ref 4), (4, .int (hAxI (gA S 5) w)), (5, .long (zWy (gA S 5) w (pA (gA S 21) j) (pA (gA S 20) j))), (7, .long (zTw (gA S 5) w (pA (gA S 21) j))), (9, .long (zWh (gA S 5) w (pA (gA S 21) j) (pA (gA S 20) j))), (11, .long (zPt (gA S 5) w (pA (gA S 21) j) (pA (gA S 20) j)))]) (st' := [.int 0]) (S' := S) rfl trivial ?_
          exact fV.zret rfl dX3_meets_158 (by decide) (Or.inr ⟨fun z => by unfold zM at z; rcases z with ⟨z1, z2, z3⟩ | ⟨z1, z2, z3, z4⟩ <;> first | (exact hz z3) | (exact hz z4) | grind, rfl, rfl⟩)
  · refine fV.run iX3_meets_62_3 oX3_meets_62_3 (pc' := 66) (L' := [(0, .ref 18), (1, .int (nI j)), (2, .int (nI w)), (3, .ref 4), (4, .int (hAxI (gA S 5) w)), (5, .long (zWy (gA S 5) w (pA (gA S 21) j) (pA (gA S 20) j))), (7, .long (zTw (gA S 5) w (pA (gA S 21) j)))]) (st' := [.int (lg_cmp (zTw (gA S 5) w (pA (gA S 21) j)) 0)]) (S' := S) rfl trivial ?_
    refine fV.lif_ne bX3_meets_66 (fun c66 => ?_) (fun c66 => ?_)
    · refine fV.run iX3_meets_83_1 oX3_meets_83_1 (pc' := 84) (L' := [(0, .ref 18), (1, .int (nI j)), (2, .int (nI w)), (3, .ref 4), (4, .int (hAxI (gA S 5) w)), (5, .long (zWy (gA S 5) w (pA (gA S 21) j) (pA (gA S 20) j))), (7, .long (zTw (gA S 5) w (pA (gA S 21) j)))]) (st' := [.int 0]) (S' := S) rfl trivial ?_
      exact fV.zret rfl dX3_meets_84 (by decide) (Or.inr ⟨fun z => by unfold zM at z; rcases z with ⟨z1, z2, z3⟩ | ⟨z1, z2, z3, z4⟩ <;> first | (exact hz z3) | (exact hz z4) | grind, rfl, rfl⟩)
    · refine fV.run iX3_meets_69_4 oX3_meets_69_4 (pc' := 73) (L' := [(0, .ref 18), (1, .int (nI j)), (2, .int (nI w)), (3, .ref 4), (4, .int (hAxI (gA S 5) w)), (5, .long (zWy (gA S 5) w (pA (gA S 21) j) (pA (gA S 20) j))), (7, .long (zTw (gA S 5) w (pA (gA S 21) j)))]) (st' := [.ref 4, .int (nI w), .int (nI j), .ref 18]) (S' := S) rfl trivial ?_
      refine fV.callV (M2 := mX3_overlaps) (d := d + 1) (o := 18) (av := [.int (nI j), .int (nI w), .ref 4]) (rest := []) kX3_overlaps dX3_meets_73 lX3_84 rfl rfl rfl (Nat.le_of_ble_eq_true rfl) (fRoom (by decide)) ⟨Nat.le_refl _, Nat.le_refl _⟩ (qX3_ov HG hw hb hj) ?_
      rintro r9 S9 h9
      rcases h9 with ⟨hz, rfl, h9⟩ | ⟨hz, rfl, h9⟩
      · rw [h9]
        clear h9 S9
        refine fV.to (pc' := 76) (L' := [(0, .ref 18), (1, .int (nI j)), (2, .int (nI w)), (3, .ref 4), (4, .int (hAxI (gA S 5) w)), (5, .long (zWy (gA S 5) w (pA (gA S 21) j) (pA (gA S 20) j))), (7, .long (zTw (gA S 5) w (pA (gA S 21) j)))]) (st' := [.int 1]) (S' := S) rfl rfl rfl rfl ?_
        refine fV.if_eq bX3_meets_76 (fun c76 => ?_) (fun c76 => ?_)
        · exact absurd c76 (by decide)
        · refine fV.run iX3_meets_79_2 oX3_meets_79_2 (pc' := 84) (L' := [(0, .ref 18), (1, .int (nI j)), (2, .int (nI w)), (3, .ref 4), (4, .int (hAxI (gA S 5) w)), (5, .long (zWy (gA S 5) w (pA (gA S 21) j) (pA (gA S 20) j))), (7, .long (zTw (gA S 5) w (pA (gA S 21) j)))]) (st' := [.int 1]) (S' := S) rfl trivial ?_
          exact fV.zret rfl dX3_meets_84 (by decide) (Or.inl ⟨by first | exact Or.inl ⟨by grind, by grind, hz⟩ | exact Or.inr ⟨by grind, by grind, by grind, hz⟩, rfl, rfl⟩)
      · rw [h9]
        clear h9 S9
        refine fV.to (pc' := 76) (L' := [(0, .ref 18), (1, .int (nI j)), (2, .int (nI w)), (3, .ref 4), (4, .int (hAxI (gA S 5) w)), (5, .long (zWy (gA S 5) w (pA (gA S 21) j) (pA (gA S 20) j))), (7, .long (zTw (gA S 5) w (pA (gA S 21) j)))]) (st' := [.int 0]) (S' := S) rfl rfl rfl rfl ?_
        refine fV.if_eq bX3_meets_76 (fun c76 => ?_) (fun c76 => ?_)
        · refine fV.run iX3_meets_83_1 oX3_meets_83_1 (pc' := 84) (L' := [(0, .ref 18), (1, .int (nI j)), (2, .int (nI w)), (3, .ref 4), (4, .int (hAxI (gA S 5) w)), (5, .long (zWy (gA S 5) w (pA (gA S 21) j) (pA (gA S 20) j))), (7, .long (zTw (gA S 5) w (pA (gA S 21) j)))]) (st' := [.int 0]) (S' := S) rfl trivial ?_
          exact fV.zret rfl dX3_meets_84 (by decide) (Or.inr ⟨fun z => by unfold zM at z; rcases z with ⟨z1, z2, z3⟩ | ⟨z1, z2, z3, z4⟩ <;> first | (exact hz z3) | (exact hz z4) | grind, rfl, rfl⟩)
        · exact absurd c76 (by decide)
end
section
/-! a row of walls: images, eyes, fractions; whether it has bounces, whether it is seen -/
theorem cm1 {j : Nat} (h : ¬ nI j < 1) (hj : j ≤ 100) : (nI j - 1).toNatClampNeg = j - 1 ∧ 1 ≤ j := by
  have h1 : 1 ≤ j := by
    rcases Nat.lt_or_ge j 1 with q | q
    · exact absurd ((nI_ltI (b := 1) (by omega) (by decide)).mpr q) h
    · exact q
  obtain ⟨i, rfl⟩ : ∃ i, j = i + 1 := ⟨j - 1, by omega⟩
  rw [nI_pred, nI_clamp (by omega)]
  exact ⟨by omega, by omega⟩
theorem jl1 {j : Nat} (h : nI j < 1) (hj : j ≤ 100) : ¬ 1 ≤ j := by
  have := (nI_ltI (b := 1) (by omega) (by decide)).mp h
  omega
theorem kl_n {x : Int32} {j k : Nat} (hk : x = nI k) (h : x ≤ nI j) (hj : j ≤ 100) (hk3 : k ≤ 100) : ¬ j < k := by
  rw [hk, nI_leI (by omega) (by omega)] at h; omega
theorem kl_p {x : Int32} {j k : Nat} (hk : x = nI k) (h : ¬ x ≤ nI j) (hj : j ≤ 100) (hk3 : k ≤ 100) : j < k := by
  rw [hk, nI_leI (by omega) (by omega)] at h; omega
def eyeD (en : Nat → Int32) (seat : zP) (r : Nat → Nat) (k : Nat) : Nat → zP
  | 0 => seat
  | m + 1 => mirP en (r (k - 1 - m)) (eyeD en seat r k m)
def imgD (en : Nat → Int32) (src : zP) (r : Nat → Nat) : Nat → zP
  | 0 => src
  | j + 1 => mirP en (r j) (imgD en src r j)
def frD (en : Nat → Int32) (src seat : zP) (r : Nat → Nat) (k : Nat) : Nat → Int64 × Int64
  | 0 => (0, 1)
  | m + 1 => if m = k then (1, 1) else (zPt en (r (k - 1 - m)) (eyeD en seat r k m) (imgD en src r (k - m)), zWh en (r (k - 1 - m)) (eyeD en seat r k m) (imgD en src r (k - m)))
def bOkD (en : Nat → Int32) (src seat : zP) (r : Nat → Nat) (k m : Nat) : Prop := zB en (r (k - 1 - m)) (eyeD en seat r k m) (imgD en src r (k - m)) (frD en src seat r k m).1 (frD en src seat r k m).2
def hasD (en : Nat → Int32) (src seat : zP) (r : Nat → Nat) (k : Nat) : Prop := ∀ m, m < k → bOkD en src seat r k m
def endsD (r : Nat → Nat) (k m w : Nat) : Prop := (m < k ∧ r (k - 1 - m) = w) ∨ (0 < m ∧ r (k - m) = w)
def mtD (en : Nat → Int32) (src seat : zP) (r : Nat → Nat) (k m w : Nat) : Prop := zM en w (eyeD en seat r k m) (imgD en src r (k - m)) (frD en src seat r k m).1 (frD en src seat r k m).2 (frD en src seat r k (m + 1)).1 (frD en src seat r k (m + 1)).2
def seenD (en : Nat → Int32) (b : Nat) (src seat : zP) (r : Nat → Nat) (k : Nat) : Prop := ∀ m, m ≤ k → ∀ w, w < b → ¬ endsD r k m w → ¬ mtD en src seat r k m w
/-- a row stands in the route, with its images -/
def rtRow (S : fS) (b : Nat) (src seat : zP) (r : Nat → Nat) (k : Nat) : Prop := gI S 18 7 = nI k ∧ k ≤ 3 ∧ (∀ i, i < k → gA S 19 i = nI (r i) ∧ r i < b) ∧ (∀ j, j ≤ k → pA (gA S 20) j = imgD (gA S 5) src r j) ∧ (gI S 18 5, gI S 18 6) = seat
/-- its eyes and fractions stand there too -/
def rtEye (en : Nat → Int32) (seat : zP) (r : Nat → Nat) (k m : Nat) (g : Nat → Int32) : Prop := ∀ i, i ≤ m → pA g (k - i) = eyeD en seat r k i
def rtFr (en : Nat → Int32) (src seat : zP) (r : Nat → Nat) (k m : Nat) (p q : Nat → Int64) : Prop := ∀ i, i ≤ m → p (k + 1 - i) = (frD en src seat r k i).1 ∧ q (k + 1 - i) = (frD en src seat r k i).2
def iX3_bouncesAtEnd_0_2 : List Instr := [.iload_n 1, .iconst 1]
theorem oX3_bouncesAtEnd_0_2 : fOkB cX3_bouncesAtEnd 0 iX3_bouncesAtEnd_0_2 = true := by decide +kernel
theorem bX3_bouncesAtEnd_2 : fBk cX3_bouncesAtEnd 2 (.if_icmp .lt) 17 := ⟨15, by decide +kernel, by decide⟩
def iX3_bouncesAtEnd_17_3 : List Instr := [.iload_n 1, .aload_n 0, .getfield 35]
theorem oX3_bouncesAtEnd_17_3 : fOkB cX3_bouncesAtEnd 17 iX3_bouncesAtEnd_17_3 = true := by decide +kernel
theorem bX3_bouncesAtEnd_22 : fBk cX3_bouncesAtEnd 22 (.if_icmp .ge) 39 := ⟨17, by decide +kernel, by decide⟩
def iX3_bouncesAtEnd_39_1 : List Instr := [.iconst 0]
theorem oX3_bouncesAtEnd_39_1 : fOkB cX3_bouncesAtEnd 39 iX3_bouncesAtEnd_39_1 = true := by decide +kernel
theorem dX3_bouncesAtEnd_40 : decode cX3_bouncesAtEnd 40 = .ok (.ireturn, 1) := by decide +kernel
def iX3_bouncesAtEnd_25_4 : List Instr := [.aload_n 0, .getfield 9, .iload_n 1, .iaload]
theorem oX3_bouncesAtEnd_25_4 : fOkB cX3_bouncesAtEnd 25 iX3_bouncesAtEnd_25_4 = true := by decide +kernel
def iX3_bouncesAtEnd_31_1 : List Instr := [.iload_n 2]
theorem oX3_bouncesAtEnd_31_1 : fOkB cX3_bouncesAtEnd 31 iX3_bouncesAtEnd_31_1 = true := by decide +kernel
theorem bX3_bouncesAtEnd_32 : fBk cX3_bouncesAtEnd 32 (.if_icmp .ne) 39 := ⟨7, by decide +kernel, by decide⟩
def iX3_bouncesAtEnd_35_2 : List Instr := [.iconst 1, .goto 4]
theorem oX3_bouncesAtEnd_35_2 : fOkB cX3_bouncesAtEnd 35 iX3_bouncesAtEnd_35_2 = true := by decide +kernel
def iX3_bouncesAtEnd_5_6 : List Instr := [.aload_n 0, .getfield 9, .iload_n 1, .iconst 1, .isub, .iaload]
theorem oX3_bouncesAtEnd_5_6 : fOkB cX3_bouncesAtEnd 5 iX3_bouncesAtEnd_5_6 = true := by decide +kernel
def iX3_bouncesAtEnd_13_1 : List Instr := [.iload_n 2]
theorem oX3_bouncesAtEnd_13_1 : fOkB cX3_bouncesAtEnd 13 iX3_bouncesAtEnd_13_1 = true := by decide +kernel
theorem bX3_bouncesAtEnd_14 : fBk cX3_bouncesAtEnd 14 (.if_icmp .eq) 35 := ⟨21, by decide +kernel, by decide⟩
set_option maxRecDepth 100000 in
theorem qX3_ends {G : fG} {d : Nat} {S : fS} {j w k : Nat} (hk : gI S 18 7 = nI k) (hk3 : k ≤ 3) (hj : j ≤ k) (hw : w < 16)  : fCtr G (d) mX3_bouncesAtEnd [.ref 18, .int (nI j), .int (nI w)] S (fun r S' => (((1 ≤ j ∧ gA S 19 (j - 1) = nI w) ∨ (j < k ∧ gA S 19 j = nI w)) ∧ r = some (.int 1) ∧ S' = S) ∨ (¬ ((1 ≤ j ∧ gA S 19 (j - 1) = nI w) ∨ (j < k ∧ gA S 19 j = nI w)) ∧ r = some (.int 0) ∧ S' = S)) := by
  refine fCtr.of bXX3_bouncesAtEnd (Nat.le_of_ble_eq_true rfl) rfl ?_
  refine fV.run iX3_bouncesAtEnd_0_2 oX3_bouncesAtEnd_0_2 (pc' := 2) (L' := [(0, .ref 18), (1, .int (nI j)), (2, .int (nI w))]) (st' := [.int 1, .int (nI j)]) (S' := S) rfl trivial ?_
  refine fV.icmp_lt bX3_bouncesAtEnd_2 (fun c2 => ?_) (fun c2 => ?_)
  · refine fV.run iX3_bouncesAtEnd_17_3 oX3_bouncesAtEnd_17_3 (pc' := 22) (L' := [(0, .ref 18), (1, .int (nI j)), (2, .int (nI w))]) (st' := [.int (gI S 18 7), .int (nI j)]) (S' := S) rfl trivial ?_
    refine fV.icmp_ge bX3_bouncesAtEnd_22 (fun c22 => ?_) (fun c22 => ?_)
    · refine fV.run iX3_bouncesAtEnd_39_1 oX3_bouncesAtEnd_39_1 (pc' := 40) (L' := [(0, .ref 18), (1, .int (nI j)), (2, .int (nI w))]) (st' := [.int 0]) (S' := S) rfl trivial ?_
      exact fV.zret rfl dX3_bouncesAtEnd_40 (by decide) (Or.inr ⟨fun z => by rcases z with ⟨z1, z2⟩ | ⟨z1, z2⟩ <;> first | exact c14 z2 | exact c32 z2 | exact jl1 c2 (by omega) z1 | exact kl_n hk c22 (by omega) (by omega) z1, rfl, rfl⟩)
    · refine fV.run iX3_bouncesAtEnd_25_4 oX3_bouncesAtEnd_25_4 (pc' := 31) (L' := [(0, .ref 18), (1, .int (nI j)), (2, .int (nI w))]) (st' := [.int (gA S 19 (nI j).toNatClampNeg)]) (S' := S) (P := vp_in (nI j) 3 ∧ True) rfl ⟨(vp_in_nI (show j < 3 by have := kl_p hk c22 (by omega) (by omega); omega) (by decide)), trivial⟩ ?_
      refine fV.to (L' := [(0, .ref 18), (1, .int (nI j)), (2, .int (nI w))]) (st' := [.int (gA S 19 j)]) rfl rfl (by rw [show (gA S 19 (nI j).toNatClampNeg : Int32) = gA S 19 j from by rw [nI_clamp (by omega)]]) rfl ?_
      refine fV.run iX3_bouncesAtEnd_31_1 oX3_bouncesAtEnd_31_1 (pc' := 32) (L' := [(0, .ref 18), (1, .int (nI j)), (2, .int (nI w))]) (st' := [.int (nI w), .int (gA S 19 j)]) (S' := S) rfl trivial ?_
      refine fV.icmp_ne bX3_bouncesAtEnd_32 (fun c32 => ?_) (fun c32 => ?_)
      · refine fV.run iX3_bouncesAtEnd_39_1 oX3_bouncesAtEnd_39_1 (pc' := 40) (L' := [(0, .ref 18), (1, .int (nI j)), (2, .int (nI w))]) (st' := [.int 0]) (S' := S) rfl trivial ?_
        exact fV.zret rfl dX3_bouncesAtEnd_40 (by decide) (Or.inr ⟨fun z => by rcases z with ⟨z1, z2⟩ | ⟨z1, z2⟩ <;> first | exact c14 z2 | exact c32 z2 | exact jl1 c2 (by omega) z1 | exact kl_n hk c22 (by omega) (by omega) z1, rfl, rfl⟩)
      · refine fV.run iX3_bouncesAtEnd_35_2 oX3_bouncesAtEnd_35_2 (pc' := 40) (L' := [(0, .ref 18), (1, .int (nI j)), (2, .int (nI w))]) (st' := [.int 1]) (S' := S) rfl trivial ?_
        exact fV.zret rfl dX3_bouncesAtEnd_40 (by decide) (by first | exact Or.inl ⟨Or.inl ⟨(cm1 c2 (by omega)).2, c14⟩, rfl, rfl⟩ | exact Or.inl ⟨Or.inr ⟨kl_p hk c22 (by omega) (by omega), c32⟩, rfl, rfl⟩)
  · refine fV.run iX3_bouncesAtEnd_5_6 oX3_bouncesAtEnd_5_6 (pc' := 13) (L' := [(0, .ref 18), (1, .int (nI j)), (2, .int (nI w))]) (st' := [.int (gA S 19 ((nI j) - 1).toNatClampNeg)]) (S' := S) (P := vp_in ((nI j) - 1) 3 ∧ True) rfl ⟨(vinN (w := j - 1) (by have := (cm1 c2 (by omega)).2; omega) (by decide) (by obtain ⟨i, rfl⟩ : ∃ i, j = i + 1 := ⟨j - 1, by have := (cm1 c2 (by omega)).2; omega⟩; rw [nI_pred]; rfl)), trivial⟩ ?_
    refine fV.to (L' := [(0, .ref 18), (1, .int (nI j)), (2, .int (nI w))]) (st' := [.int (gA S 19 (j - 1))]) rfl rfl (by rw [show (gA S 19 ((nI j) - 1).toNatClampNeg : Int32) = gA S 19 (j - 1) from by rw [(cm1 c2 (by omega)).1]]) rfl ?_
    refine fV.run iX3_bouncesAtEnd_13_1 oX3_bouncesAtEnd_13_1 (pc' := 14) (L' := [(0, .ref 18), (1, .int (nI j)), (2, .int (nI w))]) (st' := [.int (nI w), .int (gA S 19 (j - 1))]) (S' := S) rfl trivial ?_
    refine fV.icmp_eq bX3_bouncesAtEnd_14 (fun c14 => ?_) (fun c14 => ?_)
    · refine fV.run iX3_bouncesAtEnd_35_2 oX3_bouncesAtEnd_35_2 (pc' := 40) (L' := [(0, .ref 18), (1, .int (nI j)), (2, .int (nI w))]) (st' := [.int 1]) (S' := S) rfl trivial ?_
      exact fV.zret rfl dX3_bouncesAtEnd_40 (by decide) (by first | exact Or.inl ⟨Or.inl ⟨(cm1 c2 (by omega)).2, c14⟩, rfl, rfl⟩ | exact Or.inl ⟨Or.inr ⟨kl_p hk c22 (by omega) (by omega), c32⟩, rfl, rfl⟩)
    · refine fV.run iX3_bouncesAtEnd_17_3 oX3_bouncesAtEnd_17_3 (pc' := 22) (L' := [(0, .ref 18), (1, .int (nI j)), (2, .int (nI w))]) (st' := [.int (gI S 18 7), .int (nI j)]) (S' := S) rfl trivial ?_
      refine fV.icmp_ge bX3_bouncesAtEnd_22 (fun c22 => ?_) (fun c22 => ?_)
      · refine fV.run iX3_bouncesAtEnd_39_1 oX3_bouncesAtEnd_39_1 (pc' := 40) (L' := [(0, .ref 18), (1, .int (nI j)), (2, .int (nI w))]) (st' := [.int 0]) (S' := S) rfl trivial ?_
        exact fV.zret rfl dX3_bouncesAtEnd_40 (by decide) (Or.inr ⟨fun z => by rcases z with ⟨z1, z2⟩ | ⟨z1, z2⟩ <;> first | exact c14 z2 | exact c32 z2 | exact jl1 c2 (by omega) z1 | exact kl_n hk c22 (by omega) (by omega) z1, rfl, rfl⟩)
      · refine fV.run iX3_bouncesAtEnd_25_4 oX3_bouncesAtEnd_25_4 (pc' := 31) (L' := [(0, .ref 18), (1, .int (nI j)), (2, .int (nI w))]) (st' := [.int (gA S 19 (nI j).toNatClampNeg)]) (S' := S) (P := vp_in (nI j) 3 ∧ True) rfl ⟨(vp_in_nI (show j < 3 by have := kl_p hk c22 (by omega) (by omega); omega) (by decide)), trivial⟩ ?_
        refine fV.to (L' := [(0, .ref 18), (1, .int (nI j)), (2, .int (nI w))]) (st' := [.int (gA S 19 j)]) rfl rfl (by rw [show (gA S 19 (nI j).toNatClampNeg : Int32) = gA S 19 j from by rw [nI_clamp (by omega)]]) rfl ?_
        refine fV.run iX3_bouncesAtEnd_31_1 oX3_bouncesAtEnd_31_1 (pc' := 32) (L' := [(0, .ref 18), (1, .int (nI j)), (2, .int (nI w))]) (st' := [.int (nI w), .int (gA S 19 j)]) (S' := S) rfl trivial ?_
        refine fV.icmp_ne bX3_bouncesAtEnd_32 (fun c32 => ?_) (fun c32 => ?_)
        · refine fV.run iX3_bouncesAtEnd_39_1 oX3_bouncesAtEnd_39_1 (pc' := 40) (L' := [(0, .ref 18), (1, .int (nI j)), (2, .int (nI w))]) (st' := [.int 0]) (S' := S) rfl trivial ?_
          exact fV.zret rfl dX3_bouncesAtEnd_40 (by decide) (Or.inr ⟨fun z => by rcases z with ⟨z1, z2⟩ | ⟨z1, z2⟩ <;> first | exact c14 z2 | exact c32 z2 | exact jl1 c2 (by omega) z1 | exact kl_n hk c22 (by omega) (by omega) z1, rfl, rfl⟩)
        · refine fV.run iX3_bouncesAtEnd_35_2 oX3_bouncesAtEnd_35_2 (pc' := 40) (L' := [(0, .ref 18), (1, .int (nI j)), (2, .int (nI w))]) (st' := [.int 1]) (S' := S) rfl trivial ?_
          exact fV.zret rfl dX3_bouncesAtEnd_40 (by decide) (by first | exact Or.inl ⟨Or.inl ⟨(cm1 c2 (by omega)).2, c14⟩, rfl, rfl⟩ | exact Or.inl ⟨Or.inr ⟨kl_p hk c22 (by omega) (by omega), c32⟩, rfl, rfl⟩)
def iX3_start_0_16 : List Instr := [.aload_n 0, .getfield 15, .iconst 0, .iload_n 1, .iastore, .aload_n 0, .getfield 15, .iconst 1, .iload_n 2, .iastore, .aload_n 0, .iload_n 3, .putfield 28, .aload_n 0, .iload 4, .putfield 32]
theorem oX3_start_0_16 : fOkB cX3_start 0 iX3_start_0_16 = true := by decide +kernel
theorem dX3_start_25 : decode cX3_start 25 = .ok (.return_, 1) := by decide +kernel
set_option maxRecDepth 100000 in
theorem qX3_start {G : fG} {d : Nat} {S : fS} (x y p q : Int32)  : fCtr G (d) mX3_start [.ref 18, .int x, .int y, .int p, .int q] S (fun r S' => r = none ∧ S' = wI (wI (wA S 20 (upd (upd (gA S 20) 0 x) 1 y)) 18 5 p) 18 6 q) := by
  refine fCtr.of bXX3_start (Nat.le_of_ble_eq_true rfl) rfl ?_
  refine fV.run iX3_start_0_16 oX3_start_0_16 (pc' := 25) (L' := [(0, .ref 18), (1, .int x), (2, .int y), (3, .int p), (4, .int q)]) (st' := []) (S' := (wI (wI (wA (wA S 20 (upd (gA S 20) (0 : Int32).toNatClampNeg x)) 20 (upd (upd (gA S 20) (0 : Int32).toNatClampNeg x) (1 : Int32).toNatClampNeg y)) 18 5 p) 18 6 q)) (P := vp_in 0 8 ∧ vp_in 1 8 ∧ True) rfl ⟨(by unfold vp_in; decide), (by unfold vp_in; decide), trivial⟩ ?_
  exact fV.vret rfl dX3_start_25 ⟨rfl, by rw [wA_wA]; rfl⟩
def iX3_put_0_13 : List Instr := [.aload_n 0, .getfield 9, .iload_n 1, .iload_n 2, .iastore, .aload_n 0, .getfield 15, .iload_n 1, .iload_n 1, .iconst 1, .iadd, .iload_n 2, .aload_n 3]
theorem oX3_put_0_13 : fOkB cX3_put 0 iX3_put_0_13 = true := by decide +kernel
set_option maxRecDepth 100000 in
theorem lX3_38 : Cond.methodLink RX3 38 yX3_mirror ∈ fTB := fTB_at 465 rfl rfl
theorem dX3_put_17 : decode cX3_put 17 = .ok (.invokestatic 38, 3) := by decide +kernel
theorem dX3_put_20 : decode cX3_put 20 = .ok (.return_, 1) := by decide +kernel
set_option maxRecDepth 100000 in
theorem qX3_put {G : fG} {d : Nat} {S : fS} {b w i : Nat} (HG : hGeo S b) (hw : w < b) (hb : b ≤ 16) (hi : i < 3)  : fCtr G (d + 1) mX3_put [.ref 18, .int (nI i), .int (nI w), .ref 4] S (fun r S' => r = none ∧ S' = wA (wA S 19 (upd (gA S 19) i (nI w))) 20 (mirA (gA S 5) w i (i + 1) (gA S 20))) := by
  refine fCtr.of bXX3_put (Nat.le_of_ble_eq_true rfl) rfl ?_
  refine fV.run iX3_put_0_13 oX3_put_0_13 (pc' := 17) (L' := [(0, .ref 18), (1, .int (nI i)), (2, .int (nI w)), (3, .ref 4)]) (st' := [.ref 4, .int (nI w), .int ((nI i) + 1), .int (nI i), .ref 20]) (S' := (wA S 19 (upd (gA S 19) (nI i).toNatClampNeg (nI w)))) (P := vp_in (nI i) 3 ∧ True) rfl ⟨(vp_in_nI hi (by decide)), trivial⟩ ?_
  refine fV.callS (M2 := mX3_mirror) (d := d) (av := [.ref 20, .int (nI i), .int ((nI i) + 1), .int (nI w), .ref 4]) (rest := []) kX3_mirror dX3_put_17 lX3_38 rfl rfl (Nat.le_of_ble_eq_true rfl) (fRoom (by decide)) ⟨Nat.le_refl _, Nat.le_refl _⟩ (qMirE_20 (S := (wA S 19 (upd (gA S 19) (nI i).toNatClampNeg (nI w)))) (f := i) (t := i + 1) (geo_wA (by decide) HG) hw hb (by omega) (by omega) rfl (nI_1 i) rfl) ?_
  rintro _ S9 ⟨rfl, h9⟩
  rw [h9]
  clear h9 S9
  refine fV.to (pc' := 20) (L' := [(0, .ref 18), (1, .int (nI i)), (2, .int (nI w)), (3, .ref 4)]) (st' := []) (S' := (wA (wA S 19 (upd (gA S 19) (nI i).toNatClampNeg (nI w))) 20 (mirA (gA S 5) w i (i + 1) (gA S 20)))) rfl rfl rfl rfl ?_
  exact fV.vret rfl dX3_put_20 ⟨rfl, by rw [nI_clamp (by omega)]⟩
def iX3_lengthSquared_0_11 : List Instr := [.aload_n 0, .getfield 15, .iconst 2, .aload_n 0, .getfield 35, .imul, .iaload, .aload_n 0, .getfield 28, .isub, .i2l]
theorem oX3_lengthSquared_0_11 : fOkB cX3_lengthSquared 0 iX3_lengthSquared_0_11 = true := by decide +kernel
def iX3_lengthSquared_17_14 : List Instr := [.lstore_n 1, .aload_n 0, .getfield 15, .iconst 2, .aload_n 0, .getfield 35, .imul, .iconst 1, .iadd, .iaload, .aload_n 0, .getfield 32, .isub, .i2l]
theorem oX3_lengthSquared_17_14 : fOkB cX3_lengthSquared 17 iX3_lengthSquared_17_14 = true := by decide +kernel
def iX3_lengthSquared_37_8 : List Instr := [.lstore_n 3, .lload_n 1, .lload_n 1, .lmul, .lload_n 3, .lload_n 3, .lmul, .ladd]
theorem oX3_lengthSquared_37_8 : fOkB cX3_lengthSquared 37 iX3_lengthSquared_37_8 = true := by decide +kernel
theorem dX3_lengthSquared_45 : decode cX3_lengthSquared 45 = .ok (.lreturn, 1) := by decide +kernel
set_option maxRecDepth 100000 in
theorem qX3_len2 {G : fG} {d : Nat} {S : fS} {k : Nat} (hk : gI S 18 7 = nI k) (hk3 : k ≤ 3)  : fCtr G (d) mX3_lengthSquared [.ref 18] S (fun r S' => r = some (.long ((gA S 20 (2 * k) - gI S 18 5).toInt64 * (gA S 20 (2 * k) - gI S 18 5).toInt64 + (gA S 20 (2 * k + 1) - gI S 18 6).toInt64 * (gA S 20 (2 * k + 1) - gI S 18 6).toInt64)) ∧ S' = S) := by
  refine fCtr.of bXX3_lengthSquared (Nat.le_of_ble_eq_true rfl) rfl ?_
  refine fV.run iX3_lengthSquared_0_11 oX3_lengthSquared_0_11 (pc' := 17) (L' := [(0, .ref 18)]) (st' := [.long (Int32.toInt64 ((gA S 20 (2 * (gI S 18 7)).toNatClampNeg) - (gI S 18 5)))]) (S' := S) (P := vp_in (2 * (gI S 18 7)) 8 ∧ True) rfl ⟨(vinN (w := 2 * k) (by omega) (by decide) (by rw [hk]; exact nI2)), trivial⟩ ?_
  refine fV.to (L' := [(0, .ref 18)]) (st' := [.long (Int32.toInt64 (gA S 20 (2 * k) - gI S 18 5))]) rfl rfl (by rw [show (Int32.toInt64 ((gA S 20 (2 * (gI S 18 7)).toNatClampNeg) - (gI S 18 5)) : Int64) = Int32.toInt64 (gA S 20 (2 * k) - gI S 18 5) from by rw [hk, nI2, nI_clamp (by omega)]]) rfl ?_
  refine fV.run iX3_lengthSquared_17_14 oX3_lengthSquared_17_14 (pc' := 37) (L' := [(0, .ref 18), (1, .long (Int32.toInt64 (gA S 20 (2 * k) - gI S 18 5)))]) (st' := [.long (Int32.toInt64 ((gA S 20 ((2 * (gI S 18 7)) + 1).toNatClampNeg) - (gI S 18 6)))]) (S' := S) (P := vp_in ((2 * (gI S 18 7)) + 1) 8 ∧ True) rfl ⟨(vinN (w := 2 * k + 1) (by omega) (by decide) (by rw [hk, nI2]; exact nI_1 _)), trivial⟩ ?_
  refine fV.to (L' := [(0, .ref 18), (1, .long (Int32.toInt64 (gA S 20 (2 * k) - gI S 18 5)))]) (st' := [.long (Int32.toInt64 (gA S 20 (2 * k + 1) - gI S 18 6))]) rfl rfl (by rw [show (Int32.toInt64 ((gA S 20 ((2 * (gI S 18 7)) + 1).toNatClampNeg) - (gI S 18 6)) : Int64) = Int32.toInt64 (gA S 20 (2 * k + 1) - gI S 18 6) from by rw [hk, nI2, nI_1, nI_clamp (by omega)]]) rfl ?_
  refine fV.run iX3_lengthSquared_37_8 oX3_lengthSquared_37_8 (pc' := 45) (L' := [(0, .ref 18), (1, .long (Int32.toInt64 (gA S 20 (2 * k) - gI S 18 5))), (3, .long (Int32.toInt64 (gA S 20 (2 * k + 1) - gI S 18 6)))]) (st' := [.long (((Int32.toInt64 (gA S 20 (2 * k) - gI S 18 5)) * (Int32.toInt64 (gA S 20 (2 * k) - gI S 18 5))) + ((Int32.toInt64 (gA S 20 (2 * k + 1) - gI S 18 6)) * (Int32.toInt64 (gA S 20 (2 * k + 1) - gI S 18 6))))]) (S' := S) rfl trivial ?_
  exact fV.lret rfl dX3_lengthSquared_45 ⟨rfl, rfl⟩
end
section
/-! whether a row has bounces -/
def sE (S : fS) (e : Nat → Int32) (p q : Nat → Int64) : fS := wB (wB (wA S 21 e) 22 p) 23 q
theorem fup2 {α : Type} (h : Nat → α) (o : Nat) (f g : α) : fup (fup h o f) o g = fup h o g := by funext a; unfold fup; by_cases e : a = o <;> simp [e]
theorem fupc {α : Type} (h : Nat → α) {o o2 : Nat} (ho : o ≠ o2) (f g : α) : fup (fup h o f) o2 g = fup (fup h o2 g) o f := by
  funext a; unfold fup; by_cases e : a = o <;> by_cases e2 : a = o2 <;> simp_all
theorem sE_next (S : fS) (e e2 : Nat → Int32) (p q p2 q2 : Nat → Int64) : wA (wB (wB (wB (wB (wA S 21 e) 22 p) 23 q) 22 p2) 23 q2) 21 e2 = wB (wB (wA S 21 e2) 22 p2) 23 q2 := by
  show ((S.1.1, S.1.2.1, fup (fup S.1.2.2.1 21 e) 21 e2, fup (fup (fup (fup S.1.2.2.2 22 p) 23 q) 22 p2) 23 q2), S.2) = ((S.1.1, S.1.2.1, fup S.1.2.2.1 21 e2, fup (fup S.1.2.2.2 22 p2) 23 q2), S.2)
  rw [fup2, fupc (fup S.1.2.2.2 22 p) (by decide) q p2, fup2, fup2]
theorem sE_end (S : fS) (e : Nat → Int32) (p q p2 q2 : Nat → Int64) : wB (wB (wB (wB (wA S 21 e) 22 p) 23 q) 22 p2) 23 q2 = wB (wB (wA S 21 e) 22 p2) 23 q2 := by
  show ((S.1.1, S.1.2.1, fup S.1.2.2.1 21 e, fup (fup (fup (fup S.1.2.2.2 22 p) 23 q) 22 p2) 23 q2), S.2) = ((S.1.1, S.1.2.1, fup S.1.2.2.1 21 e, fup (fup S.1.2.2.2 22 p2) 23 q2), S.2)
  rw [fupc (fup S.1.2.2.2 22 p) (by decide) q p2, fup2, fup2]
section Has
variable {en : Nat → Int32} {src seat : zP} {r : Nat → Nat} {k n : Nat} {e im : Nat → Int32} {p q : Nat → Int64}
theorem frD_s {m : Nat} : frD en src seat r k (m + 1) = if m = k then (1, 1) else (zPt en (r (k - 1 - m)) (eyeD en seat r k m) (imgD en src r (k - m)), zWh en (r (k - 1 - m)) (eyeD en seat r k m) (imgD en src r (k - m))) := rfl
theorem has_iff (hn : n + 1 ≤ k) (him : ∀ j, j ≤ k → pA im j = imgD en src r j) (he : rtEye en seat r k (k - (n + 1)) e) (hf : rtFr en src seat r k (k - (n + 1)) p q) : zB en (r n) (pA e (n + 1)) (pA im (n + 1)) (p (n + 2)) (q (n + 2)) ↔ bOkD en src seat r k (k - (n + 1)) := by
  have h1 := he (k - (n + 1)) (Nat.le_refl _)
  obtain ⟨h2, h3⟩ := hf (k - (n + 1)) (Nat.le_refl _)
  have h4 := him (n + 1) hn
  unfold bOkD
  rw [show k - 1 - (k - (n + 1)) = n by omega, ← h1, ← h2, ← h3, show k - (k - (n + 1)) = n + 1 by omega, show k + 1 - (k - (n + 1)) = n + 2 by omega, h4]
theorem eye_next (hk : k ≤ 3) (hn : n + 1 ≤ k) (he : rtEye en seat r k (k - (n + 1)) e) : rtEye en seat r k (k - n) (mirA en (r n) (n + 1) n e) := by
  intro i hi
  by_cases h : i = k - n
  · subst h
    rw [show k - (k - n) = n by omega, mirA_at (by omega)]
    have h1 := he (k - (n + 1)) (Nat.le_refl _)
    rw [show k - (k - (n + 1)) = n + 1 by omega] at h1
    rw [h1, show k - n = (k - (n + 1)) + 1 by omega]
    show _ = mirP en (r (k - 1 - (k - (n + 1)))) _
    rw [show k - 1 - (k - (n + 1)) = n by omega]
  · rw [mirA_ne (by omega) (by omega)]
    exact he i (by omega)
theorem fr_next (hn : n + 1 ≤ k) (him : ∀ j, j ≤ k → pA im j = imgD en src r j) (he : rtEye en seat r k (k - (n + 1)) e) (hf : rtFr en src seat r k (k - (n + 1)) p q) : rtFr en src seat r k (k - n) (vp_updL p (n + 1) (zPt en (r n) (pA e (n + 1)) (pA im (n + 1)))) (vp_updL q (n + 1) (zWh en (r n) (pA e (n + 1)) (pA im (n + 1)))) := by
  intro i hi
  by_cases h : i = k - n
  · subst h
    rw [show k + 1 - (k - n) = n + 1 by omega, show k - n = (k - (n + 1)) + 1 by omega, pk_uLs, pk_uLs]
    have h1 := he (k - (n + 1)) (Nat.le_refl _)
    rw [show k - (k - (n + 1)) = n + 1 by omega] at h1
    rw [frD_s, if_neg (by omega), show k - 1 - (k - (n + 1)) = n by omega, show k - (k - (n + 1)) = n + 1 by omega, h1, him (n + 1) hn]
    exact ⟨rfl, rfl⟩
  · rw [pk_uLn (by omega), pk_uLn (by omega)]
    exact hf i (by omega)
theorem fr_end (hf : rtFr en src seat r k k p q) : rtFr en src seat r k (k + 1) (vp_updL p 0 1) (vp_updL q 0 1) := by
  intro i hi
  by_cases h : i = k + 1
  · subst h
    rw [Nat.sub_self, pk_uLs, pk_uLs]
    rw [frD_s, if_pos rfl]
    exact ⟨rfl, rfl⟩
  · rw [pk_uLn (by omega), pk_uLn (by omega)]
    exact hf i (by omega)
theorem eye_start {x y : Int32} {g : Nat → Int32} : rtEye en (x, y) r k 0 (upd (upd g (2 * k) x) (2 * k + 1) y) := by
  intro i hi
  obtain rfl : i = 0 := by omega
  unfold pA
  rw [Nat.sub_zero, upd_ne (by omega), upd_at, upd_at]
  rfl
theorem fr_start {f g : Nat → Int64} : rtFr en src seat r k 0 (vp_updL f (k + 1) 0) (vp_updL g (k + 1) 1) := by
  intro i hi
  obtain rfl : i = 0 := by omega
  rw [Nat.sub_zero, pk_uLs, pk_uLs]
  exact ⟨rfl, rfl⟩
end Has
def iX3_hasBounces_61_2 : List Instr := [.iload_n 2, .iconst 1]
theorem oX3_hasBounces_61_2 : fOkB cX3_hasBounces 61 iX3_hasBounces_61_2 = true := by decide +kernel
theorem bX3_hasBounces_63 : fBk cX3_hasBounces 63 (.if_icmp .lt) 106 := ⟨43, by decide +kernel, by decide⟩
def iX3_hasBounces_106_11 : List Instr := [.aload_n 0, .getfield 21, .iconst 0, .lconst 1, .lastore, .aload_n 0, .getfield 25, .iconst 0, .lconst 1, .lastore, .iconst 1]
theorem oX3_hasBounces_106_11 : fOkB cX3_hasBounces 106 iX3_hasBounces_106_11 = true := by decide +kernel
theorem dX3_hasBounces_121 : decode cX3_hasBounces 121 = .ok (.ireturn, 1) := by decide +kernel
def iX3_hasBounces_66_6 : List Instr := [.aload_n 0, .getfield 9, .iload_n 2, .iconst 1, .isub, .iaload]
theorem oX3_hasBounces_66_6 : fOkB cX3_hasBounces 66 iX3_hasBounces_66_6 = true := by decide +kernel
def iX3_hasBounces_74_5 : List Instr := [.istore_n 3, .aload_n 0, .iload_n 2, .iload_n 3, .aload_n 1]
theorem oX3_hasBounces_74_5 : fOkB cX3_hasBounces 74 iX3_hasBounces_74_5 = true := by decide +kernel
set_option maxRecDepth 100000 in
theorem lX3_50 : Cond.methodLink RX3 50 yX3_setBounce ∈ fTB := fTB_at 450 rfl rfl
theorem dX3_hasBounces_79 : decode cX3_hasBounces 79 = .ok (.invokevirtual 50, 3) := by decide +kernel
theorem bX3_hasBounces_82 : fBk cX3_hasBounces 82 (.ifCond .ne) 87 := ⟨5, by decide +kernel, by decide⟩
def iX3_hasBounces_87_8 : List Instr := [.aload_n 0, .getfield 18, .iload_n 2, .iload_n 2, .iconst 1, .isub, .iload_n 3, .aload_n 1]
theorem oX3_hasBounces_87_8 : fOkB cX3_hasBounces 87 iX3_hasBounces_87_8 = true := by decide +kernel
theorem dX3_hasBounces_97 : decode cX3_hasBounces 97 = .ok (.invokestatic 38, 3) := by decide +kernel
def iX3_hasBounces_100_2 : List Instr := [.iinc 2 (-1), .goto (-42)]
theorem oX3_hasBounces_100_2 : fOkB cX3_hasBounces 100 iX3_hasBounces_100_2 = true := by decide +kernel
def iX3_hasBounces_85_1 : List Instr := [.iconst 0]
theorem oX3_hasBounces_85_1 : fOkB cX3_hasBounces 85 iX3_hasBounces_85_1 = true := by decide +kernel
theorem dX3_hasBounces_86 : decode cX3_hasBounces 86 = .ok (.ireturn, 1) := by decide +kernel
set_option maxRecDepth 100000 in
theorem lpX3_has {G : fG} {d : Nat} {S : fS} {b k : Nat} {src seat : zP} {r : Nat → Nat} (HG : hGeo S b) (hb : b ≤ 16) (R : rtRow S b src seat r k) : ∀ (n m : Nat) (e : Nat → Int32) (p q : Nat → Int64), m + n = k → rtEye (gA S 5) seat r k m e → rtFr (gA S 5) src seat r k m p q → (∀ i, i < m → bOkD (gA S 5) src seat r k i) →
    fV G mX3_hasBounces (fZm G (d + 3) (fun z S' => ∃ (e : Nat → Int32) (p q : Nat → Int64), S' = wB (wB (wA S 21 e) 22 p) 23 q ∧ ((hasD (gA S 5) src seat r k ∧ z = some (.int 1) ∧ rtEye (gA S 5) seat r k k e ∧ rtFr (gA S 5) src seat r k (k + 1) p q) ∨ (¬ hasD (gA S 5) src seat r k ∧ z = some (.int 0))))) 61 [(0, .ref 18), (1, .ref 4), (2, .int (nI n))] [] (wB (wB (wA S 21 e) 22 p) 23 q) := by
  have hk3 : k ≤ 3 := R.2.1
  intro n
  induction n with
  | zero =>
    intro m e p q hm he hf hall
    refine fV.run iX3_hasBounces_61_2 oX3_hasBounces_61_2 (pc' := 63) (L' := [(0, .ref 18), (1, .ref 4), (2, .int (nI 0))]) (st' := [.int 1, .int (nI 0)]) (S' := (wB (wB (wA S 21 e) 22 p) 23 q)) rfl trivial ?_
    refine fV.icmp_lt bX3_hasBounces_63 (fun c63 => ?_) (fun c63 => ?_)
    · refine fV.run iX3_hasBounces_106_11 oX3_hasBounces_106_11 (pc' := 121) (L' := [(0, .ref 18), (1, .ref 4), (2, .int (nI 0))]) (st' := [.int 1]) (S' := (wB (wB (wB (wB (wA S 21 e) 22 p) 23 q) 22 (vp_updL p (0 : Int32).toNatClampNeg 1)) 23 (vp_updL q (0 : Int32).toNatClampNeg 1))) (P := vp_in 0 5 ∧ vp_in 0 5 ∧ True) rfl ⟨(by unfold vp_in; decide), (by unfold vp_in; decide), trivial⟩ ?_
      exact fV.zret rfl dX3_hasBounces_121 (by decide) ⟨e, vp_updL p 0 1, vp_updL q 0 1, sE_end S e p q _ _, Or.inl ⟨fun i hi => hall i (by omega), rfl, by rw [show m = k by omega] at he; exact he, fr_end (by rw [show m = k by omega] at hf; exact hf)⟩⟩
    · exact absurd c63 (by decide)
  | succ n ih =>
    intro m e p q hm he hf hall
    obtain rfl : m = k - (n + 1) := by omega
    refine fV.run iX3_hasBounces_61_2 oX3_hasBounces_61_2 (pc' := 63) (L' := [(0, .ref 18), (1, .ref 4), (2, .int (nI (n + 1)))]) (st' := [.int 1, .int (nI (n + 1))]) (S' := (wB (wB (wA S 21 e) 22 p) 23 q)) rfl trivial ?_
    refine fV.icmp_lt bX3_hasBounces_63 (fun c63 => ?_) (fun c63 => ?_)
    · exact absurd c63 (fun z => jl1 z (by omega) (by omega))
    · refine fV.run iX3_hasBounces_66_6 oX3_hasBounces_66_6 (pc' := 74) (L' := [(0, .ref 18), (1, .ref 4), (2, .int (nI (n + 1)))]) (st' := [.int (gA S 19 ((nI (n + 1)) - 1).toNatClampNeg)]) (S' := (wB (wB (wA S 21 e) 22 p) 23 q)) (P := vp_in ((nI (n + 1)) - 1) 3 ∧ True) rfl ⟨(vinN (w := n) (by omega) (by decide) (nI_pred n)), trivial⟩ ?_
      refine fV.to (L' := [(0, .ref 18), (1, .ref 4), (2, .int (nI (n + 1)))]) (st' := [.int (nI (r n))]) rfl rfl (by rw [show (gA S 19 ((nI (n + 1)) - 1).toNatClampNeg : Int32) = nI (r n) from by rw [nI_pred, nI_clamp (by omega)]; exact (R.2.2.1 n (by omega)).1]) rfl ?_
      refine fV.run iX3_hasBounces_74_5 oX3_hasBounces_74_5 (pc' := 79) (L' := [(0, .ref 18), (1, .ref 4), (2, .int (nI (n + 1))), (3, .int (nI (r n)))]) (st' := [.ref 4, .int (nI (r n)), .int (nI (n + 1)), .ref 18]) (S' := (wB (wB (wA S 21 e) 22 p) 23 q)) rfl trivial ?_
      refine fV.callV (M2 := mX3_setBounce) (d := d + 2) (o := 18) (av := [.int (nI (n + 1)), .int (nI (r n)), .ref 4]) (rest := []) kX3_setBounce dX3_hasBounces_79 lX3_50 rfl rfl rfl (Nat.le_of_ble_eq_true rfl) (fRoom (by decide)) ⟨Nat.le_refl _, Nat.le_refl _⟩ (qX3_setB (S := (wB (wB (wA S 21 e) 22 p) 23 q)) (w := r n) (j := n + 1) (geo_wB (geo_wB (geo_wA (by decide) HG))) (R.2.2.1 n (by omega)).2 hb (by omega)) ?_
      rintro r9 S9 h9
      rcases h9 with ⟨hz, rfl, h9⟩ | ⟨hz, rfl, h9⟩
      · rw [h9]
        clear h9 S9
        have hz : bOkD (gA S 5) src seat r k (k - (n + 1)) := (has_iff (by omega) R.2.2.2.1 he hf).mp hz
        refine fV.to (pc' := 82) (L' := [(0, .ref 18), (1, .ref 4), (2, .int (nI (n + 1))), (3, .int (nI (r n)))]) (st' := [.int 1]) (S' := (wB (wB (wB (wB (wA S 21 e) 22 p) 23 q) 22 (vp_updL p (n + 1) (zPt (gA S 5) (r n) (pA e (n + 1)) (pA (gA S 20) (n + 1))))) 23 (vp_updL q (n + 1) (zWh (gA S 5) (r n) (pA e (n + 1)) (pA (gA S 20) (n + 1)))))) rfl rfl rfl rfl ?_
        refine fV.if_ne bX3_hasBounces_82 (fun c82 => ?_) (fun c82 => ?_)
        · refine fV.run iX3_hasBounces_87_8 oX3_hasBounces_87_8 (pc' := 97) (L' := [(0, .ref 18), (1, .ref 4), (2, .int (nI (n + 1))), (3, .int (nI (r n)))]) (st' := [.ref 4, .int (nI (r n)), .int ((nI (n + 1)) - 1), .int (nI (n + 1)), .ref 21]) (S' := (wB (wB (wB (wB (wA S 21 e) 22 p) 23 q) 22 (vp_updL p (n + 1) (zPt (gA S 5) (r n) (pA e (n + 1)) (pA (gA S 20) (n + 1))))) 23 (vp_updL q (n + 1) (zWh (gA S 5) (r n) (pA e (n + 1)) (pA (gA S 20) (n + 1)))))) rfl trivial ?_
          refine fV.callS (M2 := mX3_mirror) (d := d + 2) (av := [.ref 21, .int (nI (n + 1)), .int ((nI (n + 1)) - 1), .int (nI (r n)), .ref 4]) (rest := []) kX3_mirror dX3_hasBounces_97 lX3_38 rfl rfl (Nat.le_of_ble_eq_true rfl) (fRoom (by decide)) ⟨Nat.le_refl _, Nat.le_refl _⟩ (qMirE_21 (S := (wB (wB (wB (wB (wA S 21 e) 22 p) 23 q) 22 (vp_updL p (n + 1) (zPt (gA S 5) (r n) (pA e (n + 1)) (pA (gA S 20) (n + 1))))) 23 (vp_updL q (n + 1) (zWh (gA S 5) (r n) (pA e (n + 1)) (pA (gA S 20) (n + 1)))))) (w := r n) (f := n + 1) (t := n) (geo_wB (geo_wB (geo_wB (geo_wB (geo_wA (by decide) HG))))) (R.2.2.1 n (by omega)).2 hb (by omega) (by omega) rfl (nI_pred n) rfl) ?_
          rintro _ S9 ⟨rfl, h9⟩
          rw [h9]
          clear h9 S9
          refine fV.to (pc' := 100) (L' := [(0, .ref 18), (1, .ref 4), (2, .int (nI (n + 1))), (3, .int (nI (r n)))]) (st' := []) (S' := (wA (wB (wB (wB (wB (wA S 21 e) 22 p) 23 q) 22 (vp_updL p (n + 1) (zPt (gA S 5) (r n) (pA e (n + 1)) (pA (gA S 20) (n + 1))))) 23 (vp_updL q (n + 1) (zWh (gA S 5) (r n) (pA e (n + 1)) (pA (gA S 20) (n + 1))))) 21 (mirA (gA S 5) (r n) (n + 1) n e))) rfl rfl rfl rfl ?_
          refine fV.run iX3_hasBounces_100_2 oX3_hasBounces_100_2 (pc' := 61) (L' := [(0, .ref 18), (1, .ref 4), (2, .int ((nI (n + 1)) + (-1))), (3, .int (nI (r n)))]) (st' := []) (S' := (wA (wB (wB (wB (wB (wA S 21 e) 22 p) 23 q) 22 (vp_updL p (n + 1) (zPt (gA S 5) (r n) (pA e (n + 1)) (pA (gA S 20) (n + 1))))) 23 (vp_updL q (n + 1) (zWh (gA S 5) (r n) (pA e (n + 1)) (pA (gA S 20) (n + 1))))) 21 (mirA (gA S 5) (r n) (n + 1) n e))) rfl trivial ?_
          refine fV.pick (L' := [(0, .ref 18), (1, .ref 4), (2, .int (nI (n + 1) + (-1)))]) [0, 1, 2] rfl ?_
          refine fV.to (L' := [(0, .ref 18), (1, .ref 4), (2, .int (nI n))]) rfl (by rw [show nI (n + 1) + (-1) = nI n from pk_m1 n]) rfl (sE_next S e _ p q _ _) ?_
          refine ih (k - n) _ _ _ (by omega) (eye_next (by omega) (by omega) he) (fr_next (by omega) R.2.2.2.1 he hf) (fun i hi => ?_)
          by_cases h : i = k - (n + 1)
          · rw [h]; exact hz
          · exact hall i (by omega)
        · exact absurd c82 (by decide)
      · have hz : ¬ bOkD (gA S 5) src seat r k (k - (n + 1)) := fun y => hz ((has_iff (by omega) R.2.2.2.1 he hf).mpr y)
        refine fV.to (pc' := 82) (L' := [(0, .ref 18), (1, .ref 4), (2, .int (nI (n + 1))), (3, .int (nI (r n)))]) (st' := [.int 0]) (S' := S9) rfl rfl rfl rfl ?_
        refine fV.if_ne bX3_hasBounces_82 (fun c82 => ?_) (fun c82 => ?_)
        · exact absurd c82 (by decide)
        · refine fV.run iX3_hasBounces_85_1 oX3_hasBounces_85_1 (pc' := 86) (L' := [(0, .ref 18), (1, .ref 4), (2, .int (nI (n + 1))), (3, .int (nI (r n)))]) (st' := [.int 0]) (S' := S9) rfl trivial ?_
          exact fV.zret rfl dX3_hasBounces_86 (by decide) (by rcases h9 with h9 | h9 <;> rw [h9]; exact ⟨e, p, q, rfl, Or.inr ⟨fun y => hz (y _ (by omega)), rfl⟩⟩; exact ⟨e, _, _, sE_end S e p q _ _, Or.inr ⟨fun y => hz (y _ (by omega)), rfl⟩⟩)
def iX3_hasBounces_0_39 : List Instr := [.aload_n 0, .getfield 18, .iconst 2, .aload_n 0, .getfield 35, .imul, .aload_n 0, .getfield 28, .iastore, .aload_n 0, .getfield 18, .iconst 2, .aload_n 0, .getfield 35, .imul, .iconst 1, .iadd, .aload_n 0, .getfield 32, .iastore, .aload_n 0, .getfield 21, .aload_n 0, .getfield 35, .iconst 1, .iadd, .lconst 0, .lastore, .aload_n 0, .getfield 25, .aload_n 0, .getfield 35, .iconst 1, .iadd, .lconst 1, .lastore, .aload_n 0, .getfield 35, .istore_n 2]
theorem oX3_hasBounces_0_39 : fOkB cX3_hasBounces 0 iX3_hasBounces_0_39 = true := by decide +kernel
set_option maxRecDepth 100000 in
theorem qX3_has {G : fG} {d : Nat} {S : fS} {b k : Nat} {src seat : zP} {r : Nat → Nat} (HG : hGeo S b) (hb : b ≤ 16) (R : rtRow S b src seat r k)  : fCtr G (d + 3) mX3_hasBounces [.ref 18, .ref 4] S (fun z S' => ∃ (e : Nat → Int32) (p q : Nat → Int64), S' = wB (wB (wA S 21 e) 22 p) 23 q ∧ ((hasD (gA S 5) src seat r k ∧ z = some (.int 1) ∧ rtEye (gA S 5) seat r k k e ∧ rtFr (gA S 5) src seat r k (k + 1) p q) ∨ (¬ hasD (gA S 5) src seat r k ∧ z = some (.int 0)))) := by
  refine fCtr.of bXX3_hasBounces (Nat.le_of_ble_eq_true rfl) rfl ?_
  have hk3 : k ≤ 3 := R.2.1
  refine fV.run iX3_hasBounces_0_39 oX3_hasBounces_0_39 (pc' := 61) (L' := [(0, .ref 18), (1, .ref 4), (2, .int (gI S 18 7))]) (st' := []) (S' := (wB (wB (wA (wA S 21 (upd (gA S 21) (2 * (gI S 18 7)).toNatClampNeg (gI S 18 5))) 21 (upd (upd (gA S 21) (2 * (gI S 18 7)).toNatClampNeg (gI S 18 5)) ((2 * (gI S 18 7)) + 1).toNatClampNeg (gI S 18 6))) 22 (vp_updL (gB S 22) ((gI S 18 7) + 1).toNatClampNeg 0)) 23 (vp_updL (gB S 23) ((gI S 18 7) + 1).toNatClampNeg 1))) (P := vp_in (2 * (gI S 18 7)) 8 ∧ vp_in ((2 * (gI S 18 7)) + 1) 8 ∧ vp_in ((gI S 18 7) + 1) 5 ∧ vp_in ((gI S 18 7) + 1) 5 ∧ True) rfl ⟨(vinN (w := 2 * k) (by omega) (by decide) (by rw [R.1]; exact nI2)), (vinN (w := 2 * k + 1) (by omega) (by decide) (by rw [R.1, nI2]; exact nI_1 _)), (vinN (w := k + 1) (by omega) (by decide) (by rw [R.1]; exact nI_1 _)), (vinN (w := k + 1) (by omega) (by decide) (by rw [R.1]; exact nI_1 _)), trivial⟩ ?_
  refine fV.to (L' := [(0, .ref 18), (1, .ref 4), (2, .int (nI k))]) (S' := wB (wB (wA S 21 (upd (upd (gA S 21) (2 * k) (gI S 18 5)) (2 * k + 1) (gI S 18 6))) 22 (vp_updL (gB S 22) (k + 1) 0)) 23 (vp_updL (gB S 23) (k + 1) 1)) rfl (by rw [R.1]) rfl (by rw [wA_wA, R.1, nI2, nI_1, nI_1, nI_clamp (by omega), nI_clamp (by omega), nI_clamp (by omega)]) ?_
  exact lpX3_has HG hb R k 0 _ _ _ (by omega) (by rw [← R.2.2.2.2]; exact eye_start) fr_start (fun i hi => absurd hi (by omega))
end
section
/-! whether a row is seen -/
section Seen
variable {S : fS} {b k n w : Nat} {src seat : zP} {r : Nat → Nat}
theorem ends_iff (hb : b ≤ 16) (R : rtRow S b src seat r k) (hn : n ≤ k) (hw : w < b) : ((1 ≤ n ∧ gA S 19 (n - 1) = nI w) ∨ (n < k ∧ gA S 19 n = nI w)) ↔ endsD r k (k - n) w := by
  have e : ∀ i, i < k → (gA S 19 i = nI w ↔ r i = w) := fun i hi => by
    obtain ⟨h1, h2⟩ := R.2.2.1 i hi
    rw [h1, nI_eq (by omega) (by omega)]
  unfold endsD
  constructor
  · rintro (⟨h1, h2⟩ | ⟨h1, h2⟩)
    · exact Or.inl ⟨by omega, by rw [show k - 1 - (k - n) = n - 1 by omega]; exact (e _ (by omega)).mp h2⟩
    · exact Or.inr ⟨by omega, by rw [show k - (k - n) = n by omega]; exact (e _ h1).mp h2⟩
  · rintro (⟨h1, h2⟩ | ⟨h1, h2⟩)
    · rw [show k - 1 - (k - n) = n - 1 by omega] at h2
      exact Or.inl ⟨by omega, (e _ (by omega)).mpr h2⟩
    · rw [show k - (k - n) = n by omega] at h2
      exact Or.inr ⟨by omega, (e _ (by omega)).mpr h2⟩
theorem mt_iff (R : rtRow S b src seat r k) (he : rtEye (gA S 5) seat r k k (gA S 21)) (hf : rtFr (gA S 5) src seat r k (k + 1) (gB S 22) (gB S 23)) (hn : n ≤ k) : zM (gA S 5) w (pA (gA S 21) n) (pA (gA S 20) n) (gB S 22 (n + 1)) (gB S 23 (n + 1)) (gB S 22 n) (gB S 23 n) ↔ mtD (gA S 5) src seat r k (k - n) w := by
  have h1 := he (k - n) (by omega)
  obtain ⟨h2, h3⟩ := hf (k - n) (by omega)
  obtain ⟨h4, h5⟩ := hf (k - n + 1) (by omega)
  have h6 := R.2.2.2.1 n hn
  unfold mtD
  rw [← h1, ← h2, ← h3, ← h4, ← h5, show k - (k - n) = n by omega, show k + 1 - (k - n) = n + 1 by omega, show k + 1 - (k - n + 1) = n by omega, h6]
end Seen
def legOk (en : Nat → Int32) (b : Nat) (src seat : zP) (r : Nat → Nat) (k m : Nat) : Prop := ∀ w, w < b → ¬ endsD r k m w → ¬ mtD en src seat r k m w
def iX3_isSeen_11_3 : List Instr := [.iload_n 3, .aload_n 1, .getfield 74]
theorem oX3_isSeen_11_3 : fOkB cX3_isSeen 11 iX3_isSeen_11_3 = true := by decide +kernel
theorem bX3_isSeen_16 : fBk cX3_isSeen 16 (.if_icmp .ge) 46 := ⟨30, by decide +kernel, by decide⟩
def iX3_isSeen_19_3 : List Instr := [.aload_n 0, .iload_n 2, .iload_n 3]
theorem oX3_isSeen_19_3 : fOkB cX3_isSeen 19 iX3_isSeen_19_3 = true := by decide +kernel
set_option maxRecDepth 100000 in
theorem lX3_77 : Cond.methodLink RX3 77 yX3_bouncesAtEnd ∈ fTB := fTB_at 472 rfl rfl
theorem dX3_isSeen_22 : decode cX3_isSeen 22 = .ok (.invokevirtual 77, 3) := by decide +kernel
theorem bX3_isSeen_25 : fBk cX3_isSeen 25 (.ifCond .ne) 40 := ⟨15, by decide +kernel, by decide⟩
def iX3_isSeen_40_2 : List Instr := [.iinc 3 1, .goto (-32)]
theorem oX3_isSeen_40_2 : fOkB cX3_isSeen 40 iX3_isSeen_40_2 = true := by decide +kernel
def iX3_isSeen_28_4 : List Instr := [.aload_n 0, .iload_n 2, .iload_n 3, .aload_n 1]
theorem oX3_isSeen_28_4 : fOkB cX3_isSeen 28 iX3_isSeen_28_4 = true := by decide +kernel
set_option maxRecDepth 100000 in
theorem lX3_81 : Cond.methodLink RX3 81 yX3_meets ∈ fTB := fTB_at 476 rfl rfl
theorem dX3_isSeen_32 : decode cX3_isSeen 32 = .ok (.invokevirtual 81, 3) := by decide +kernel
theorem bX3_isSeen_35 : fBk cX3_isSeen 35 (.ifCond .eq) 40 := ⟨5, by decide +kernel, by decide⟩
def iX3_isSeen_38_1 : List Instr := [.iconst 0]
theorem oX3_isSeen_38_1 : fOkB cX3_isSeen 38 iX3_isSeen_38_1 = true := by decide +kernel
theorem dX3_isSeen_39 : decode cX3_isSeen 39 = .ok (.ireturn, 1) := by decide +kernel
set_option maxRecDepth 100000 in
theorem lpX3_in {G : fG} {d : Nat} {S : fS} {b k : Nat} {src seat : zP} {r : Nat → Nat} (HG : hGeo S b) (hb : b ≤ 16) (hbn : gI S 4 6 = nI b) (R : rtRow S b src seat r k) (he : rtEye (gA S 5) seat r k k (gA S 21)) (hf : rtFr (gA S 5) src seat r k (k + 1) (gB S 22) (gB S 23)) {n : Nat} (hn : n ≤ k) (hK : legOk (gA S 5) b src seat r k (k - n) → fV G mX3_isSeen (fZm G (d + 3) (fun z S' => (seenD (gA S 5) b src seat r k ∧ z = some (.int 1) ∧ S' = S) ∨ (¬ seenD (gA S 5) b src seat r k ∧ z = some (.int 0) ∧ S' = S))) 46 [(0, .ref 18), (1, .ref 4), (2, .int (nI n))] [] S) : ∀ (j w : Nat), w + j = b → (∀ v, v < w → ¬ endsD r k (k - n) v → ¬ mtD (gA S 5) src seat r k (k - n) v) →
    fV G mX3_isSeen (fZm G (d + 3) (fun z S' => (seenD (gA S 5) b src seat r k ∧ z = some (.int 1) ∧ S' = S) ∨ (¬ seenD (gA S 5) b src seat r k ∧ z = some (.int 0) ∧ S' = S))) 11 [(0, .ref 18), (1, .ref 4), (2, .int (nI n)), (3, .int (nI w))] [] S := by
  have hk3 : k ≤ 3 := R.2.1
  intro j
  induction j with
  | zero =>
    intro w hwj hok
    refine fV.run iX3_isSeen_11_3 oX3_isSeen_11_3 (pc' := 16) (L' := [(0, .ref 18), (1, .ref 4), (2, .int (nI n)), (3, .int (nI w))]) (st' := [.int (gI S 4 6), .int (nI w)]) (S' := S) rfl trivial ?_
    refine fV.icmp_ge bX3_isSeen_16 (fun c16 => ?_) (fun c16 => ?_)
    · refine fV.pick (L' := [(0, .ref 18), (1, .ref 4), (2, .int (nI n))]) [0, 1, 2] rfl ?_
      exact hK (fun v hv => hok v (by omega))
    · exact absurd c16 (by rw [hbn, nI_leI (by omega) (by omega)]; omega)
  | succ j ih =>
    intro w hwj hok
    refine fV.run iX3_isSeen_11_3 oX3_isSeen_11_3 (pc' := 16) (L' := [(0, .ref 18), (1, .ref 4), (2, .int (nI n)), (3, .int (nI w))]) (st' := [.int (gI S 4 6), .int (nI w)]) (S' := S) rfl trivial ?_
    refine fV.icmp_ge bX3_isSeen_16 (fun c16 => ?_) (fun c16 => ?_)
    · exact absurd c16 (by rw [hbn, nI_leI (by omega) (by omega)]; omega)
    · refine fV.run iX3_isSeen_19_3 oX3_isSeen_19_3 (pc' := 22) (L' := [(0, .ref 18), (1, .ref 4), (2, .int (nI n)), (3, .int (nI w))]) (st' := [.int (nI w), .int (nI n), .ref 18]) (S' := S) rfl trivial ?_
      refine fV.callV (M2 := mX3_bouncesAtEnd) (d := d + 2) (o := 18) (av := [.int (nI n), .int (nI w)]) (rest := []) kX3_bouncesAtEnd dX3_isSeen_22 lX3_77 rfl rfl rfl (Nat.le_of_ble_eq_true rfl) (fRoom (by decide)) ⟨Nat.le_refl _, Nat.le_refl _⟩ (qX3_ends (k := k) R.1 (by omega) hn (show w < 16 by omega)) ?_
      rintro r9 S9 h9
      rcases h9 with ⟨hz, rfl, h9⟩ | ⟨hz, rfl, h9⟩
      · rw [h9]
        clear h9 S9
        have he1 : endsD r k (k - n) w := (ends_iff hb R hn (by omega)).mp hz
        refine fV.to (pc' := 25) (L' := [(0, .ref 18), (1, .ref 4), (2, .int (nI n)), (3, .int (nI w))]) (st' := [.int 1]) (S' := S) rfl rfl rfl rfl ?_
        refine fV.if_ne bX3_isSeen_25 (fun c25 => ?_) (fun c25 => ?_)
        · refine fV.run iX3_isSeen_40_2 oX3_isSeen_40_2 (pc' := 11) (L' := [(0, .ref 18), (1, .ref 4), (2, .int (nI n)), (3, .int ((nI w) + 1))]) (st' := []) (S' := S) rfl trivial ?_
          refine fV.to (L' := [(0, .ref 18), (1, .ref 4), (2, .int (nI n)), (3, .int (nI (w + 1)))]) rfl (by rw [nI_1]) rfl rfl (ih (w + 1) (by omega) (fun v hv => ?_))
          by_cases h : v = w
          · rw [h]; first | exact fun y => absurd he1 y | exact fun _ => hm1
          · exact hok v (by omega)
        · exact absurd c25 (by decide)
      · rw [h9]
        clear h9 S9
        have he1 : ¬ endsD r k (k - n) w := fun y => hz ((ends_iff hb R hn (by omega)).mpr y)
        refine fV.to (pc' := 25) (L' := [(0, .ref 18), (1, .ref 4), (2, .int (nI n)), (3, .int (nI w))]) (st' := [.int 0]) (S' := S) rfl rfl rfl rfl ?_
        refine fV.if_ne bX3_isSeen_25 (fun c25 => ?_) (fun c25 => ?_)
        · exact absurd c25 (by decide)
        · refine fV.run iX3_isSeen_28_4 oX3_isSeen_28_4 (pc' := 32) (L' := [(0, .ref 18), (1, .ref 4), (2, .int (nI n)), (3, .int (nI w))]) (st' := [.ref 4, .int (nI w), .int (nI n), .ref 18]) (S' := S) rfl trivial ?_
          refine fV.callV (M2 := mX3_meets) (d := d + 2) (o := 18) (av := [.int (nI n), .int (nI w), .ref 4]) (rest := []) kX3_meets dX3_isSeen_32 lX3_81 rfl rfl rfl (Nat.le_of_ble_eq_true rfl) (fRoom (by decide)) ⟨Nat.le_refl _, Nat.le_refl _⟩ (qX3_meets (w := w) (j := n) HG (by omega) hb (by omega)) ?_
          rintro r9 S9 h9
          rcases h9 with ⟨hy, rfl, h9⟩ | ⟨hy, rfl, h9⟩
          · rw [h9]
            clear h9 S9
            have hm1 : mtD (gA S 5) src seat r k (k - n) w := (mt_iff R he hf hn).mp hy
            refine fV.to (pc' := 35) (L' := [(0, .ref 18), (1, .ref 4), (2, .int (nI n)), (3, .int (nI w))]) (st' := [.int 1]) (S' := S) rfl rfl rfl rfl ?_
            refine fV.if_eq bX3_isSeen_35 (fun c35 => ?_) (fun c35 => ?_)
            · exact absurd c35 (by decide)
            · refine fV.run iX3_isSeen_38_1 oX3_isSeen_38_1 (pc' := 39) (L' := [(0, .ref 18), (1, .ref 4), (2, .int (nI n)), (3, .int (nI w))]) (st' := [.int 0]) (S' := S) rfl trivial ?_
              exact fV.zret rfl dX3_isSeen_39 (by decide) (Or.inr ⟨fun y => y (k - n) (by omega) w (by omega) he1 hm1, rfl, rfl⟩)
          · rw [h9]
            clear h9 S9
            have hm1 : ¬ mtD (gA S 5) src seat r k (k - n) w := fun y => hy ((mt_iff R he hf hn).mpr y)
            refine fV.to (pc' := 35) (L' := [(0, .ref 18), (1, .ref 4), (2, .int (nI n)), (3, .int (nI w))]) (st' := [.int 0]) (S' := S) rfl rfl rfl rfl ?_
            refine fV.if_eq bX3_isSeen_35 (fun c35 => ?_) (fun c35 => ?_)
            · refine fV.run iX3_isSeen_40_2 oX3_isSeen_40_2 (pc' := 11) (L' := [(0, .ref 18), (1, .ref 4), (2, .int (nI n)), (3, .int ((nI w) + 1))]) (st' := []) (S' := S) rfl trivial ?_
              refine fV.to (L' := [(0, .ref 18), (1, .ref 4), (2, .int (nI n)), (3, .int (nI (w + 1)))]) rfl (by rw [nI_1]) rfl rfl (ih (w + 1) (by omega) (fun v hv => ?_))
              by_cases h : v = w
              · rw [h]; first | exact fun y => absurd he1 y | exact fun _ => hm1
              · exact hok v (by omega)
            · exact absurd c35 (by decide)
def iX3_isSeen_5_1 : List Instr := [.iload_n 2]
theorem oX3_isSeen_5_1 : fOkB cX3_isSeen 5 iX3_isSeen_5_1 = true := by decide +kernel
theorem bX3_isSeen_6 : fBk cX3_isSeen 6 (.ifCond .lt) 52 := ⟨46, by decide +kernel, by decide⟩
def iX3_isSeen_52_1 : List Instr := [.iconst 1]
theorem oX3_isSeen_52_1 : fOkB cX3_isSeen 52 iX3_isSeen_52_1 = true := by decide +kernel
theorem dX3_isSeen_53 : decode cX3_isSeen 53 = .ok (.ireturn, 1) := by decide +kernel
def iX3_isSeen_9_2 : List Instr := [.iconst 0, .istore_n 3]
theorem oX3_isSeen_9_2 : fOkB cX3_isSeen 9 iX3_isSeen_9_2 = true := by decide +kernel
def iX3_isSeen_46_2 : List Instr := [.iinc 2 (-1), .goto (-44)]
theorem oX3_isSeen_46_2 : fOkB cX3_isSeen 46 iX3_isSeen_46_2 = true := by decide +kernel
set_option maxRecDepth 100000 in
theorem lpX3_seen {G : fG} {d : Nat} {S : fS} {b k : Nat} {src seat : zP} {r : Nat → Nat} (HG : hGeo S b) (hb : b ≤ 16) (hbn : gI S 4 6 = nI b) (R : rtRow S b src seat r k) (he : rtEye (gA S 5) seat r k k (gA S 21)) (hf : rtFr (gA S 5) src seat r k (k + 1) (gB S 22) (gB S 23)) : ∀ (n m : Nat), m + n = k + 1 → (∀ i, i < m → legOk (gA S 5) b src seat r k i) →
    fV G mX3_isSeen (fZm G (d + 3) (fun z S' => (seenD (gA S 5) b src seat r k ∧ z = some (.int 1) ∧ S' = S) ∨ (¬ seenD (gA S 5) b src seat r k ∧ z = some (.int 0) ∧ S' = S))) 5 [(0, .ref 18), (1, .ref 4), (2, .int (nI n + (-1)))] [] S := by
  have hk3 : k ≤ 3 := R.2.1
  intro n
  induction n with
  | zero =>
    intro m hm hall
    refine fV.run iX3_isSeen_5_1 oX3_isSeen_5_1 (pc' := 6) (L' := [(0, .ref 18), (1, .ref 4), (2, .int (nI 0 + (-1)))]) (st' := [.int (nI 0 + (-1))]) (S' := S) rfl trivial ?_
    refine fV.if_lt bX3_isSeen_6 (fun c6 => ?_) (fun c6 => ?_)
    · refine fV.run iX3_isSeen_52_1 oX3_isSeen_52_1 (pc' := 53) (L' := [(0, .ref 18), (1, .ref 4), (2, .int (nI 0 + (-1)))]) (st' := [.int 1]) (S' := S) rfl trivial ?_
      exact fV.zret rfl dX3_isSeen_53 (by decide) (Or.inl ⟨fun i hi v hv => hall i (by omega) v hv, rfl, rfl⟩)
    · exact absurd c6 (by decide)
  | succ n ih =>
    intro m hm hall
    refine fV.to (L' := [(0, .ref 18), (1, .ref 4), (2, .int (nI n))]) rfl (by rw [pk_m1]) rfl rfl ?_
    refine fV.run iX3_isSeen_5_1 oX3_isSeen_5_1 (pc' := 6) (L' := [(0, .ref 18), (1, .ref 4), (2, .int (nI n))]) (st' := [.int (nI n)]) (S' := S) rfl trivial ?_
    refine fV.if_lt bX3_isSeen_6 (fun c6 => ?_) (fun c6 => ?_)
    · exact absurd c6 (nI_pos (by omega))
    · refine fV.run iX3_isSeen_9_2 oX3_isSeen_9_2 (pc' := 11) (L' := [(0, .ref 18), (1, .ref 4), (2, .int (nI n)), (3, .int 0)]) (st' := []) (S' := S) rfl trivial ?_
      refine lpX3_in HG hb hbn R he hf (n := n) (by omega) (fun hl => ?_) b 0 (by omega) (fun v hv => absurd hv (by omega))
      refine fV.run iX3_isSeen_46_2 oX3_isSeen_46_2 (pc' := 5) (L' := [(0, .ref 18), (1, .ref 4), (2, .int (nI n + (-1)))]) (st' := []) (S' := S) rfl trivial ?_
      refine ih (m + 1) (by omega) (fun i hi => ?_)
      by_cases h : i = m
      · rw [h, show m = k - n by omega]; exact hl
      · exact hall i (by omega)
def iX3_isSeen_0_3 : List Instr := [.aload_n 0, .getfield 35, .istore_n 2]
theorem oX3_isSeen_0_3 : fOkB cX3_isSeen 0 iX3_isSeen_0_3 = true := by decide +kernel
set_option maxRecDepth 100000 in
theorem qX3_seen {G : fG} {d : Nat} {S : fS} {b k : Nat} {src seat : zP} {r : Nat → Nat} (HG : hGeo S b) (hb : b ≤ 16) (hbn : gI S 4 6 = nI b) (R : rtRow S b src seat r k) (he : rtEye (gA S 5) seat r k k (gA S 21)) (hf : rtFr (gA S 5) src seat r k (k + 1) (gB S 22) (gB S 23))  : fCtr G (d + 3) mX3_isSeen [.ref 18, .ref 4] S (fun z S' => (seenD (gA S 5) b src seat r k ∧ z = some (.int 1) ∧ S' = S) ∨ (¬ seenD (gA S 5) b src seat r k ∧ z = some (.int 0) ∧ S' = S)) := by
  refine fCtr.of bXX3_isSeen (Nat.le_of_ble_eq_true rfl) rfl ?_
  refine fV.run iX3_isSeen_0_3 oX3_isSeen_0_3 (pc' := 5) (L' := [(0, .ref 18), (1, .ref 4), (2, .int (gI S 18 7))]) (st' := []) (S' := S) rfl trivial ?_
  refine fV.to (L' := [(0, .ref 18), (1, .ref 4), (2, .int (nI (k + 1) + (-1)))]) rfl (by rw [pk_m1, R.1]) rfl rfl ?_
  exact lpX3_seen HG hb hbn R he hf (k + 1) 0 (by omega) (fun i hi => absurd hi (by omega))
end
section
/-! paths found: packed rows, squares, ticks -/
theorem a_or (a b : Nat) : nI a ||| nI b = nI (a ||| b) := by
  apply Int32.toBitVec_inj.1
  show BitVec.ofNat 32 a ||| BitVec.ofNat 32 b = BitVec.ofNat 32 (a ||| b)
  apply BitVec.eq_of_getLsbD_eq
  intro i hi
  simp [hi]
def pkN (r : Nat → Nat) : Nat → Nat
  | 0 => 0
  | i + 1 => pkN r i + (r i + 1) * 32 ^ i
theorem pkN_lt {r : Nat → Nat} : ∀ {k : Nat}, (∀ i, i < k → r i < 16) → pkN r k < 32 ^ k
  | 0, _ => by simp [pkN]
  | k + 1, h => by
    have h1 := pkN_lt (r := r) (k := k) (fun i hi => h i (by omega))
    have h2 := h k (by omega)
    have h3 : (r k + 1) * 32 ^ k ≤ 16 * 32 ^ k := Nat.mul_le_mul_right _ (by omega)
    have h4 : 32 ^ (k + 1) = 32 * 32 ^ k := by rw [Nat.pow_succ, Nat.mul_comm]
    show pkN r k + (r k + 1) * 32 ^ k < 32 ^ (k + 1)
    omega
theorem sh5 : ∀ i, i < 3 → ((5 * nI i &&& 31).toBitVec.smod 32).toNat = 5 * i := by decide
theorem p32 (i : Nat) : 32 ^ i = 2 ^ (5 * i) := by rw [Nat.pow_mul]
theorem pk_step {r : Nat → Nat} {i : Nat} (hi : i < 3) (h : ∀ j, j ≤ i → r j < 16) : nI (pkN r i) ||| ((nI (r i) + 1) <<< (5 * nI i &&& 31)) = nI (pkN r (i + 1)) := by
  have h1 := pkN_lt (r := r) (k := i) (fun j hj => h j (by omega))
  have h2 := h i (Nat.le_refl _)
  have h3 : 2 ^ (5 * i) ≤ 2 ^ 10 := Nat.pow_le_pow_right (by decide) (by omega)
  rw [p32] at h1
  have h4 : (r i + 1) * 2 ^ (5 * i) ≤ 16 * 2 ^ 10 := Nat.mul_le_mul (by omega) h3
  rw [nI_1, pk_shlN _ (5 * i) (sh5 i hi) (by omega), a_or, Nat.or_comm, Nat.mul_comm, ← Nat.two_pow_add_eq_or_of_lt h1]
  show nI (2 ^ (5 * i) * (r i + 1) + pkN r i) = nI (pkN r i + (r i + 1) * 32 ^ i)
  rw [p32, Nat.mul_comm, Nat.add_comm]
theorem pk_dig {r : Nat → Nat} {k t : Nat} (hk : k ≤ 3) (ht : t < 3) (h : ∀ j, j < k → r j < 16) : pkN r k / 2 ^ (5 * t) % 2 ^ 5 = if t < k then r t + 1 else 0 := by
  have h0 := h 0
  have h1 := h 1
  have h2 := h 2
  match k, hk with
  | 0, _ => simp [pkN]
  | 1, _ =>
    match t, ht with
    | 0, _ => simp only [pkN]; simp; omega
    | 1, _ => simp only [pkN]; simp; omega
    | 2, _ => simp only [pkN]; simp; omega
  | 2, _ =>
    match t, ht with
    | 0, _ => simp only [pkN]; simp; omega
    | 1, _ => simp only [pkN]; simp; omega
    | 2, _ => simp only [pkN]; simp; omega
  | 3, _ =>
    match t, ht with
    | 0, _ => simp only [pkN]; simp; omega
    | 1, _ => simp only [pkN]; simp; omega
    | 2, _ => simp only [pkN]; simp; omega
theorem pk_wall {r : Nat → Nat} {k t : Nat} (hk : k ≤ 3) (ht : t < 3) (h : ∀ j, j < k → r j < 16) : (nI (pkN r k) >>> (5 * nI t &&& 31)) &&& 31 = nI (if t < k then r t + 1 else 0) := by
  have h1 := pkN_lt h
  have h2 : (32 : Nat) ^ k ≤ 32 ^ 3 := Nat.pow_le_pow_right (by decide) hk
  have h3 : pkN r k / 2 ^ (5 * t) ≤ pkN r k := Nat.div_le_self _ _
  rw [pk_shrN (by omega) _ (5 * t) (sh5 t ht), pk_andN (by omega) 5 (by decide), pk_dig hk ht h]
/-- the whole root, bit by bit -/
def bitN : Nat → Int64
  | 0 => 0
  | i + 1 => lN (2 ^ i)
def rtN (sq : Int64) : Nat → Int64 → Int64
  | 0, r => r
  | i + 1, r => rtN sq i (if sq < (r + bitN (i + 1)) * (r + bitN (i + 1)) then r else r + bitN (i + 1))
theorem bit_half : ∀ i, i < 16 → bitN (i + 1) >>> (Int32.toInt64 1 &&& 63) = bitN i := by decide
theorem bit_pos : ∀ i, i < 16 → ¬ bitN (i + 1) ≤ 0 := by decide
def tickF (sq : Int64) : Int32 := (rtN sq 15 0 / 50).toInt32
theorem rtN_bd (sq : Int64) : ∀ (i : Nat) (r : Int64), i ≤ 15 → 0 ≤ r.toInt → r.toInt + 2 ^ i ≤ 32768 → 0 ≤ (rtN sq i r).toInt ∧ (rtN sq i r).toInt ≤ 32767
  | 0, r, _, h1, h2 => by simp only [rtN]; omega
  | i + 1, r, hi, h1, h2 => by
    have e : (2 : Int) ^ (i + 1) = 2 * 2 ^ i := by rw [Int.pow_succ, Int.mul_comm]
    have p0 : (0 : Int) < 2 ^ i := Int.pow_pos (by decide)
    have eb : (bitN (i + 1)).toInt = 2 ^ i := by
      show (lN (2 ^ i)).toInt = 2 ^ i
      rw [pk_lT (Nat.lt_of_le_of_lt (Nat.pow_le_pow_right (by decide) (show i ≤ 15 by omega)) (by decide))]
      exact Int.natCast_pow 2 i
    simp only [rtN]
    split
    · exact rtN_bd sq i r (by omega) h1 (by omega)
    · have es : (r + bitN (i + 1)).toInt = r.toInt + 2 ^ i := by rw [j_add (by omega) (by omega), eb]
      exact rtN_bd sq i _ (by omega) (by omega) (by omega)
theorem rt16 {sq : Int64} (h : sq < 1073741824) : rtN sq 16 0 = rtN sq 15 0 := by
  show rtN sq 15 (if sq < (0 + bitN 16) * (0 + bitN 16) then 0 else 0 + bitN 16) = _
  rw [if_pos (show sq < (0 + bitN 16) * (0 + bitN 16) by rw [show (0 + bitN 16) * (0 + bitN 16) = 1073741824 by decide]; exact h)]
theorem tick_c {sq : Int64} (h : sq < 1073741824) : (rtN sq 16 0).toInt32 / 50 = tickF sq := by
  rw [rt16 h]
  obtain ⟨h1, h2⟩ := rtN_bd sq 15 0 (by omega) (by decide) (by decide)
  unfold tickF
  generalize rtN sq 15 0 = x at *
  have e1 : (50 : Int32).toInt = 50 := by decide
  have e2 : (50 : Int64).toInt = 50 := by decide
  have e3 : x.toInt32.toInt = x.toInt := by rw [Int64.toInt_toInt32, Int.bmod_def]; omega
  apply Int32.toInt_inj.mp
  rw [lg_idiv_nonneg (by omega) (by omega), e1, e3, Int64.toInt_toInt32, lg_ldiv_nonneg (by omega) (by omega), e2, Int.bmod_def]
  omega
theorem tick_nn (sq : Int64) : 0 ≤ tickF sq ∧ tickF sq ≤ 655 := by
  obtain ⟨h1, h2⟩ := rtN_bd sq 15 0 (by omega) (by decide) (by decide)
  unfold tickF
  generalize rtN sq 15 0 = x at *
  have e2 : (50 : Int64).toInt = 50 := by decide
  have e0 : (0 : Int32).toInt = 0 := by decide
  have e6 : (655 : Int32).toInt = 655 := by decide
  have e3 : (x / 50).toInt32.toInt = x.toInt / 50 := by rw [Int64.toInt_toInt32, lg_ldiv_nonneg (by omega) (by omega), e2, Int.bmod_def]; omega
  rw [t_le, t_le, e3, e0, e6]
  omega
def iX1_wholeRoot_7_3 : List Instr := [.lload 4, .lconst 0, .lcmp]
theorem oX1_wholeRoot_7_3 : fOkB cX1_wholeRoot 7 iX1_wholeRoot_7_3 = true := by decide +kernel
theorem bX1_wholeRoot_11 : fBk cX1_wholeRoot 11 (.ifCond .le) 42 := ⟨31, by decide +kernel, by decide⟩
def iX1_wholeRoot_42_2 : List Instr := [.lload_n 2, .l2i]
theorem oX1_wholeRoot_42_2 : fOkB cX1_wholeRoot 42 iX1_wholeRoot_42_2 = true := by decide +kernel
theorem dX1_wholeRoot_44 : decode cX1_wholeRoot 44 = .ok (.ireturn, 1) := by decide +kernel
def iX1_wholeRoot_14_9 : List Instr := [.lload_n 2, .lload 4, .ladd, .lload_n 2, .lload 4, .ladd, .lmul, .lload_n 0, .lcmp]
theorem oX1_wholeRoot_14_9 : fOkB cX1_wholeRoot 14 iX1_wholeRoot_14_9 = true := by decide +kernel
theorem bX1_wholeRoot_25 : fBk cX1_wholeRoot 25 (.ifCond .gt) 33 := ⟨8, by decide +kernel, by decide⟩
def iX1_wholeRoot_33_5 : List Instr := [.lload 4, .iconst 1, .lshr, .lstore 4, .goto (-32)]
theorem oX1_wholeRoot_33_5 : fOkB cX1_wholeRoot 33 iX1_wholeRoot_33_5 = true := by decide +kernel
def iX1_wholeRoot_28_9 : List Instr := [.lload_n 2, .lload 4, .ladd, .lstore_n 2, .lload 4, .iconst 1, .lshr, .lstore 4, .goto (-32)]
theorem oX1_wholeRoot_28_9 : fOkB cX1_wholeRoot 28 iX1_wholeRoot_28_9 = true := by decide +kernel
set_option maxRecDepth 100000 in
theorem lpX1_root {G : fG} {d : Nat} {S : fS} {sq : Int64} : ∀ (i : Nat) (x : Int64), i ≤ 16 → fV G mX1_wholeRoot (fZm G d (fun z S' => z = some (.int (Int64.toInt32 (rtN sq i x))) ∧ S' = S)) 7 [(0, .long sq), (2, .long x), (4, .long (bitN i))] [] S := by
  intro i
  induction i with
  | zero =>
    intro x hi
    refine fV.run iX1_wholeRoot_7_3 oX1_wholeRoot_7_3 (pc' := 11) (L' := [(0, .long sq), (2, .long x), (4, .long (bitN 0))]) (st' := [.int (lg_cmp (bitN 0) 0)]) (S' := S) rfl trivial ?_
    refine fV.lif_le bX1_wholeRoot_11 (fun c11 => ?_) (fun c11 => ?_)
    · refine fV.run iX1_wholeRoot_42_2 oX1_wholeRoot_42_2 (pc' := 44) (L' := [(0, .long sq), (2, .long x), (4, .long (bitN 0))]) (st' := [.int (Int64.toInt32 x)]) (S' := S) rfl trivial ?_
      exact fV.iret rfl dX1_wholeRoot_44 ⟨rfl, rfl⟩
    · exact absurd c11 (by decide)
  | succ i ih =>
    intro x hi
    refine fV.run iX1_wholeRoot_7_3 oX1_wholeRoot_7_3 (pc' := 11) (L' := [(0, .long sq), (2, .long x), (4, .long (bitN (i + 1)))]) (st' := [.int (lg_cmp (bitN (i + 1)) 0)]) (S' := S) rfl trivial ?_
    refine fV.lif_le bX1_wholeRoot_11 (fun c11 => ?_) (fun c11 => ?_)
    · exact absurd c11 (bit_pos i (by omega))
    · refine fV.run iX1_wholeRoot_14_9 oX1_wholeRoot_14_9 (pc' := 25) (L' := [(0, .long sq), (2, .long x), (4, .long (bitN (i + 1)))]) (st' := [.int (lg_cmp ((x + (bitN (i + 1))) * (x + (bitN (i + 1)))) sq)]) (S' := S) rfl trivial ?_
      refine fV.lif_gt bX1_wholeRoot_25 (fun c25 => ?_) (fun c25 => ?_)
      · refine fV.run iX1_wholeRoot_33_5 oX1_wholeRoot_33_5 (pc' := 7) (L' := [(0, .long sq), (2, .long x), (4, .long ((bitN (i + 1)) >>> (Int32.toInt64 1 &&& 63)))]) (st' := []) (S' := S) rfl trivial ?_
        refine fV.to (L' := [(0, .long sq), (2, .long x), (4, .long (bitN i))]) rfl (by rw [bit_half i (by omega)]) rfl rfl ?_
        have e9 := ih x (by omega)
        simp only [rtN, if_pos c25]
        exact e9
      · refine fV.run iX1_wholeRoot_28_9 oX1_wholeRoot_28_9 (pc' := 7) (L' := [(0, .long sq), (2, .long (x + (bitN (i + 1)))), (4, .long ((bitN (i + 1)) >>> (Int32.toInt64 1 &&& 63)))]) (st' := []) (S' := S) rfl trivial ?_
        refine fV.to (L' := [(0, .long sq), (2, .long (x + (bitN (i + 1)))), (4, .long (bitN i))]) rfl (by rw [bit_half i (by omega)]) rfl rfl ?_
        have e9 := ih (x + (bitN (i + 1))) (by omega)
        simp only [rtN, if_neg c25]
        exact e9
def iX1_wholeRoot_0_4 : List Instr := [.lconst 0, .lstore_n 2, .ldc2_w 49, .lstore 4]
theorem oX1_wholeRoot_0_4 : fOkB cX1_wholeRoot 0 iX1_wholeRoot_0_4 = true := by decide +kernel
set_option maxRecDepth 100000 in
theorem qX1_root {G : fG} {d : Nat} {S : fS} (sq : Int64)  : fCtr G (d) mX1_wholeRoot [.long sq] S (fun z S' => z = some (.int (Int64.toInt32 (rtN sq 16 0))) ∧ S' = S) := by
  refine fCtr.of bXX1_wholeRoot (Nat.le_of_ble_eq_true rfl) rfl ?_
  refine fV.run iX1_wholeRoot_0_4 oX1_wholeRoot_0_4 (pc' := 7) (L' := [(0, .long sq), (2, .long 0), (4, .long 32768)]) (st' := []) (S' := S) rfl trivial ?_
  exact lpX1_root 16 0 (by omega)
/-- a path: its row, its length squared -/
abbrev pTh : Type := List Nat × Int64
def fnL (l : List Nat) : Nat → Nat := fun i => l.getD i 0
def lsF (l : Int32) (t : Int32) : Int32 := if l = -1 ∨ t < l then t else l
def leastF (PL : List pTh) : Int32 := PL.foldl (fun l x => lsF l (tickF x.2)) (-1)
def plOk (b : Nat) (PL : List pTh) : Prop := ∀ x ∈ PL, x.1.length ≤ 3 ∧ ∀ w ∈ x.1, w < b
/-- the found paths, as the landed program holds them -/
def fdOk (S : fS) (PL : List pTh) : Prop := gI S 24 3 = nI PL.length ∧ PL.length ≤ 3857 ∧ gI S 24 4 = leastF PL ∧ ∀ (i : Nat) (x : pTh), PL[i]? = some x → gA S 25 i = nI (pkN (fnL x.1) x.1.length) ∧ gB S 26 i = x.2 ∧ gA S 27 i = tickF x.2
def fAdd (S : fS) (n : Nat) (pk : Int32) (sq : Int64) (tk ls : Int32) : fS := wI (wI (wA (wB (wA S 25 (upd (gA S 25) n pk)) 26 (vp_updL (gB S 26) n sq)) 27 (upd (gA S 27) n tk)) 24 3 (nI (n + 1))) 24 4 ls
theorem fnL_lt {l : List Nat} {b : Nat} (h : ∀ w ∈ l, w < b) {i : Nat} (hi : i < l.length) : fnL l i < b := by
  unfold fnL
  rw [List.getD_eq_getElem?_getD, List.getElem?_eq_getElem hi]
  exact h _ (List.getElem_mem hi)
theorem fd_add {S : fS} {PL : List pTh} {x : pTh} (h : fdOk S PL) (hn : PL.length < 3857) : fdOk (fAdd S PL.length (nI (pkN (fnL x.1) x.1.length)) x.2 (tickF x.2) (lsF (gI S 24 4) (tickF x.2))) (PL ++ [x]) := by
  obtain ⟨h1, h2, h3, h4⟩ := h
  refine ⟨?_, ?_, ?_, fun i y hy => ?_⟩
  · rw [List.length_append]; rfl
  · rw [List.length_append]; simp only [List.length_cons, List.length_nil]; omega
  · show lsF (gI S 24 4) (tickF x.2) = _
    unfold leastF at h3 ⊢
    rw [List.foldl_append, ← h3]
    rfl
  · show upd (gA S 25) PL.length _ i = _ ∧ vp_updL (gB S 26) PL.length _ i = _ ∧ upd (gA S 27) PL.length _ i = _
    by_cases e : i = PL.length
    · subst e
      rw [List.getElem?_append_right (Nat.le_refl _), Nat.sub_self] at hy
      cases hy
      rw [upd_at, pk_uLs, upd_at]
      exact ⟨rfl, rfl, rfl⟩
    · have hl : i < PL.length := by
        have := (List.getElem?_eq_some_iff.mp hy).1
        rw [List.length_append] at this
        simp only [List.length_cons, List.length_nil] at this
        omega
      rw [List.getElem?_append_left hl] at hy
      rw [upd_ne e, pk_uLn e, upd_ne e]
      exact h4 i y hy
def wOf (l : List Nat) (t : Nat) : Int32 := if t < l.length then nI (fnL l t) else -1
theorem least_nn (PL : List pTh) : leastF PL = -1 ∨ (0 ≤ leastF PL ∧ leastF PL ≤ 655) := by
  unfold leastF
  have : ∀ (l : List pTh) (z : Int32), (z = -1 ∨ (0 ≤ z ∧ z ≤ 655)) → (l.foldl (fun l x => lsF l (tickF x.2)) z = -1 ∨ (0 ≤ l.foldl (fun l x => lsF l (tickF x.2)) z ∧ l.foldl (fun l x => lsF l (tickF x.2)) z ≤ 655)) := by
    intro l
    induction l with
    | nil => intro z hz; exact hz
    | cons x t ih =>
      intro z hz
      have := tick_nn x.2
      have h2 : lsF z (tickF x.2) = -1 ∨ (0 ≤ lsF z (tickF x.2) ∧ lsF z (tickF x.2) ≤ 655) := by
        unfold lsF
        split
        · exact Or.inr this
        · exact hz
      exact ih _ h2
  exact this PL (-1) (Or.inl rfl)
def iX1_clear_0_6 : List Instr := [.aload_n 0, .iconst 0, .putfield 22, .aload_n 0, .iconst (-1), .putfield 26]
theorem oX1_clear_0_6 : fOkB cX1_clear 0 iX1_clear_0_6 = true := by decide +kernel
theorem dX1_clear_10 : decode cX1_clear 10 = .ok (.return_, 1) := by decide +kernel
set_option maxRecDepth 100000 in
theorem qX1_clear {G : fG} {d : Nat} {S : fS}   : fCtr G (d) mX1_clear [.ref 24] S (fun r S' => r = none ∧ S' = wI (wI S 24 3 0) 24 4 (-1)) := by
  refine fCtr.of bXX1_clear (Nat.le_of_ble_eq_true rfl) rfl ?_
  refine fV.run iX1_clear_0_6 oX1_clear_0_6 (pc' := 10) (L' := [(0, .ref 24)]) (st' := []) (S' := (wI (wI S 24 3 0) 24 4 (-1))) rfl trivial ?_
  exact fV.vret rfl dX1_clear_10 ⟨rfl, rfl⟩
def iX1_wallOf_0_12 : List Instr := [.aload_n 0, .getfield 9, .iload_n 1, .iaload, .iconst 5, .iload_n 2, .imul, .ishr, .bipush 31, .iand, .iconst 1, .isub]
theorem oX1_wallOf_0_12 : fOkB cX1_wallOf 0 iX1_wallOf_0_12 = true := by decide +kernel
theorem dX1_wallOf_15 : decode cX1_wallOf 15 = .ok (.ireturn, 1) := by decide +kernel
set_option maxRecDepth 100000 in
theorem qX1_wallOf {G : fG} {d : Nat} {S : fS} {b n t : Nat} {PL : List pTh} {x : pTh} (hb : b ≤ 16) (F : fdOk S PL) (hp : plOk b PL) (hx : PL[n]? = some x) (ht : t < 3)  : fCtr G (d) mX1_wallOf [.ref 24, .int (nI n), .int (nI t)] S (fun r S' => r = some (.int (wOf x.1 t)) ∧ S' = S) := by
  refine fCtr.of bXX1_wallOf (Nat.le_of_ble_eq_true rfl) rfl ?_
  have hn : n < PL.length := (List.getElem?_eq_some_iff.mp hx).1
  have hn2 : PL.length ≤ 3857 := F.2.1
  have hp1 := hp x (List.mem_of_getElem? hx)
  have hp2 : ∀ j, j < x.1.length → fnL x.1 j < 16 := fun j hj => Nat.lt_of_lt_of_le (fnL_lt hp1.2 hj) hb
  refine fV.run iX1_wallOf_0_12 oX1_wallOf_0_12 (pc' := 15) (L' := [(0, .ref 24), (1, .int (nI n)), (2, .int (nI t))]) (st' := [.int ((((gA S 25 (nI n).toNatClampNeg) >>> ((5 * (nI t)) &&& 31)) &&& 31) - 1)]) (S' := S) (P := vp_in (nI n) 3857 ∧ True) rfl ⟨(vp_in_nI (by omega) (by decide)), trivial⟩ ?_
  exact fV.iret rfl dX1_wallOf_15 ⟨by rw [nI_clamp (by omega), (F.2.2.2 n x hx).1, pk_wall hp1.1 ht hp2]; unfold wOf; split <;> first | rw [nI_pred] | rfl | decide, rfl⟩
theorem wOf_n {l : List Nat} {t : Nat} (h : ∀ j, j < l.length → fnL l j < 16) : wOf l t = -1 ↔ l.length ≤ t := by
  unfold wOf
  split
  · rename_i ht
    constructor
    · intro z
      exact absurd z (by
        have := h t ht
        intro e
        have e2 := congrArg Int32.toInt e
        rw [nI_toInt (by omega)] at e2
        have : (-1 : Int32).toInt = -1 := by decide
        omega)
    · intro z; omega
  · rename_i ht
    exact ⟨fun _ => by omega, fun _ => rfl⟩
def iX1_orderOf_4_2 : List Instr := [.iload_n 3, .iconst 3]
theorem oX1_orderOf_4_2 : fOkB cX1_orderOf 4 iX1_orderOf_4_2 = true := by decide +kernel
theorem bX1_orderOf_6 : fBk cX1_orderOf 6 (.if_icmp .ge) 28 := ⟨22, by decide +kernel, by decide⟩
def iX1_orderOf_28_1 : List Instr := [.iload_n 2]
theorem oX1_orderOf_28_1 : fOkB cX1_orderOf 28 iX1_orderOf_28_1 = true := by decide +kernel
theorem dX1_orderOf_29 : decode cX1_orderOf 29 = .ok (.ireturn, 1) := by decide +kernel
def iX1_orderOf_9_3 : List Instr := [.aload_n 0, .iload_n 1, .iload_n 3]
theorem oX1_orderOf_9_3 : fOkB cX1_orderOf 9 iX1_orderOf_9_3 = true := by decide +kernel
set_option maxRecDepth 100000 in
theorem lX1_45 : Cond.methodLink RX1 45 yX1_wallOf ∈ fTB := fTB_at 511 rfl rfl
theorem dX1_orderOf_12 : decode cX1_orderOf 12 = .ok (.invokevirtual 45, 3) := by decide +kernel
def iX1_orderOf_15_1 : List Instr := [.iconst (-1)]
theorem oX1_orderOf_15_1 : fOkB cX1_orderOf 15 iX1_orderOf_15_1 = true := by decide +kernel
theorem bX1_orderOf_16 : fBk cX1_orderOf 16 (.if_icmp .eq) 22 := ⟨6, by decide +kernel, by decide⟩
def iX1_orderOf_22_2 : List Instr := [.iinc 3 1, .goto (-21)]
theorem oX1_orderOf_22_2 : fOkB cX1_orderOf 22 iX1_orderOf_22_2 = true := by decide +kernel
def iX1_orderOf_19_3 : List Instr := [.iinc 2 1, .iinc 3 1, .goto (-21)]
theorem oX1_orderOf_19_3 : fOkB cX1_orderOf 19 iX1_orderOf_19_3 = true := by decide +kernel
set_option maxRecDepth 100000 in
theorem lpX1_ord {G : fG} {d : Nat} {S : fS}  {b n : Nat} {PL : List pTh} {x : pTh} (hb : b ≤ 16) (F : fdOk S PL) (hp : plOk b PL) (hx : PL[n]? = some x) : ∀ (u9 t : Nat), t + u9 = 3 → fV G mX1_orderOf (fZm G (d + 1) (fun r S' => r = some (.int (nI x.1.length)) ∧ S' = S)) 4 [(0, .ref 24), (1, .int (nI n)), (2, .int (nI (min t x.1.length))), (3, .int (nI t))] [] S := by
  have hn : n < PL.length := (List.getElem?_eq_some_iff.mp hx).1
  have hn2 : PL.length ≤ 3857 := F.2.1
  have hp1 := hp x (List.mem_of_getElem? hx)
  have hp2 : ∀ j, j < x.1.length → fnL x.1 j < 16 := fun j hj => Nat.lt_of_lt_of_le (fnL_lt hp1.2 hj) hb
  intro u9
  induction u9 with
  | zero =>
    intro t  hik
    refine fV.run iX1_orderOf_4_2 oX1_orderOf_4_2 (pc' := 6) (L' := [(0, .ref 24), (1, .int (nI n)), (2, .int (nI (min t x.1.length))), (3, .int (nI t))]) (st' := [.int 3, .int (nI t)]) (S' := S) rfl trivial ?_
    refine fV.icmp_ge bX1_orderOf_6 (fun c6 => ?_) (fun c6 => ?_)
    · refine fV.run iX1_orderOf_28_1 oX1_orderOf_28_1 (pc' := 29) (L' := [(0, .ref 24), (1, .int (nI n)), (2, .int (nI (min t x.1.length))), (3, .int (nI t))]) (st' := [.int (nI (min t x.1.length))]) (S' := S) rfl trivial ?_
      exact fV.iret rfl dX1_orderOf_29 ⟨by rw [show min t x.1.length = x.1.length by omega], rfl⟩
    · exact absurd c6 (by rw [show (3 : Int32) = nI 3 from rfl, nI_leI (by omega) (by omega)]; omega)
  | succ u9 ih =>
    intro t  hik
    refine fV.run iX1_orderOf_4_2 oX1_orderOf_4_2 (pc' := 6) (L' := [(0, .ref 24), (1, .int (nI n)), (2, .int (nI (min t x.1.length))), (3, .int (nI t))]) (st' := [.int 3, .int (nI t)]) (S' := S) rfl trivial ?_
    refine fV.icmp_ge bX1_orderOf_6 (fun c6 => ?_) (fun c6 => ?_)
    · exact absurd c6 (by rw [show (3 : Int32) = nI 3 from rfl, nI_leI (by omega) (by omega)]; omega)
    · refine fV.run iX1_orderOf_9_3 oX1_orderOf_9_3 (pc' := 12) (L' := [(0, .ref 24), (1, .int (nI n)), (2, .int (nI (min t x.1.length))), (3, .int (nI t))]) (st' := [.int (nI t), .int (nI n), .ref 24]) (S' := S) rfl trivial ?_
      refine fV.callV (M2 := mX1_wallOf) (d := d) (o := 24) (av := [.int (nI n), .int (nI t)]) (rest := []) kX1_wallOf dX1_orderOf_12 lX1_45 rfl rfl rfl (Nat.le_of_ble_eq_true rfl) (fRoom (by decide)) ⟨Nat.le_refl _, Nat.le_refl _⟩ (qX1_wallOf (t := t) hb F hp hx (by omega)) ?_
      rintro _ S9 ⟨rfl, h9⟩
      rw [h9]
      clear h9 S9
      refine fV.to (pc' := 15) (L' := [(0, .ref 24), (1, .int (nI n)), (2, .int (nI (min t x.1.length))), (3, .int (nI t))]) (st' := [.int (wOf x.1 t)]) (S' := S) rfl rfl rfl rfl ?_
      refine fV.run iX1_orderOf_15_1 oX1_orderOf_15_1 (pc' := 16) (L' := [(0, .ref 24), (1, .int (nI n)), (2, .int (nI (min t x.1.length))), (3, .int (nI t))]) (st' := [.int (-1), .int (wOf x.1 t)]) (S' := S) rfl trivial ?_
      refine fV.icmp_eq bX1_orderOf_16 (fun c16 => ?_) (fun c16 => ?_)
      · refine fV.run iX1_orderOf_22_2 oX1_orderOf_22_2 (pc' := 4) (L' := [(0, .ref 24), (1, .int (nI n)), (2, .int (nI (min t x.1.length))), (3, .int ((nI t) + 1))]) (st' := []) (S' := S) rfl trivial ?_
        refine fV.to (L' := [(0, .ref 24), (1, .int (nI n)), (2, .int (nI (min (t + 1) x.1.length))), (3, .int (nI (t + 1)))]) rfl (by rw [nI_1, show min t x.1.length = min (t + 1) x.1.length by have := (wOf_n hp2).mp c16; omega]) rfl rfl (ih (t + 1) (by omega))
      · refine fV.run iX1_orderOf_19_3 oX1_orderOf_19_3 (pc' := 4) (L' := [(0, .ref 24), (1, .int (nI n)), (2, .int ((nI (min t x.1.length)) + 1)), (3, .int ((nI t) + 1))]) (st' := []) (S' := S) rfl trivial ?_
        refine fV.to (L' := [(0, .ref 24), (1, .int (nI n)), (2, .int (nI (min (t + 1) x.1.length))), (3, .int (nI (t + 1)))]) rfl (by rw [nI_1, nI_1, show min t x.1.length + 1 = min (t + 1) x.1.length by have := mt (wOf_n hp2).mpr c16; omega]) rfl rfl (ih (t + 1) (by omega))
def iX1_orderOf_0_4 : List Instr := [.iconst 0, .istore_n 2, .iconst 0, .istore_n 3]
theorem oX1_orderOf_0_4 : fOkB cX1_orderOf 0 iX1_orderOf_0_4 = true := by decide +kernel
set_option maxRecDepth 100000 in
theorem qX1_ord {G : fG} {d : Nat} {S : fS} {b n : Nat} {PL : List pTh} {x : pTh} (hb : b ≤ 16) (F : fdOk S PL) (hp : plOk b PL) (hx : PL[n]? = some x)  : fCtr G (d + 1) mX1_orderOf [.ref 24, .int (nI n)] S (fun r S' => r = some (.int (nI x.1.length)) ∧ S' = S) := by
  refine fCtr.of bXX1_orderOf (Nat.le_of_ble_eq_true rfl) rfl ?_
  refine fV.run iX1_orderOf_0_4 oX1_orderOf_0_4 (pc' := 4) (L' := [(0, .ref 24), (1, .int (nI n)), (2, .int 0), (3, .int 0)]) (st' := []) (S' := S) rfl trivial ?_
  refine fV.to (L' := [(0, .ref 24), (1, .int (nI n)), (2, .int (nI (min 0 x.1.length))), (3, .int (nI 0))]) rfl (by rw [Nat.zero_min]; rfl) rfl rfl ?_
  exact lpX1_ord hb F hp hx 3 0 (by omega)
theorem gI_upd_least (S : fS) (n : Nat) (pk : Int32) (sq : Int64) (tk : Int32) : fAdd S n pk sq tk (gI S 24 4) = wI (wA (wB (wA S 25 (upd (gA S 25) n pk)) 26 (vp_updL (gB S 26) n sq)) 27 (upd (gA S 27) n tk)) 24 3 (nI (n + 1)) := by
  unfold fAdd
  exact rwI_self _ 24 4
def iX1_add_15_3 : List Instr := [.iload_n 3, .aload_n 1, .getfield 29]
theorem oX1_add_15_3 : fOkB cX1_add 15 iX1_add_15_3 = true := by decide +kernel
theorem bX1_add_20 : fBk cX1_add 20 (.if_icmp .ge) 44 := ⟨24, by decide +kernel, by decide⟩
def iX1_add_44_1 : List Instr := [.aload_n 1]
theorem oX1_add_44_1 : fOkB cX1_add 44 iX1_add_44_1 = true := by decide +kernel
set_option maxRecDepth 100000 in
theorem lX1_37 : Cond.methodLink RX1 37 yX3_lengthSquared ∈ fTB := fTB_at 488 rfl rfl
theorem dX1_add_45 : decode cX1_add 45 = .ok (.invokevirtual 37, 3) := by decide +kernel
def iX1_add_48_2 : List Instr := [.lstore_n 3, .lload_n 3]
theorem oX1_add_48_2 : fOkB cX1_add 48 iX1_add_48_2 = true := by decide +kernel
set_option maxRecDepth 100000 in
theorem lX1_41 : Cond.methodLink RX1 41 yX1_wholeRoot ∈ fTB := fTB_at 492 rfl rfl
theorem dX1_add_50 : decode cX1_add 50 = .ok (.invokestatic 41, 3) := by decide +kernel
def iX1_add_53_2 : List Instr := [.bipush 50, .idiv]
theorem oX1_add_53_2 : fOkB cX1_add 53 iX1_add_53_2 = true := by decide +kernel
def iX1_add_56_28 : List Instr := [.istore 5, .aload_n 0, .getfield 9, .aload_n 0, .getfield 22, .iload_n 2, .iastore, .aload_n 0, .getfield 15, .aload_n 0, .getfield 22, .lload_n 3, .lastore, .aload_n 0, .getfield 19, .aload_n 0, .getfield 22, .iload 5, .iastore, .aload_n 0, .dup, .getfield 22, .iconst 1, .iadd, .putfield 22, .aload_n 0, .getfield 26, .iconst (-1)]
theorem oX1_add_56_28 : fOkB cX1_add 56 iX1_add_56_28 = true := by decide +kernel
theorem bX1_add_104 : fBk cX1_add 104 (.if_icmp .eq) 116 := ⟨12, by decide +kernel, by decide⟩
def iX1_add_116_3 : List Instr := [.aload_n 0, .iload 5, .putfield 26]
theorem oX1_add_116_3 : fOkB cX1_add 116 iX1_add_116_3 = true := by decide +kernel
theorem dX1_add_122 : decode cX1_add 122 = .ok (.return_, 1) := by decide +kernel
def iX1_add_107_3 : List Instr := [.iload 5, .aload_n 0, .getfield 26]
theorem oX1_add_107_3 : fOkB cX1_add 107 iX1_add_107_3 = true := by decide +kernel
theorem bX1_add_113 : fBk cX1_add 113 (.if_icmp .ge) 122 := ⟨9, by decide +kernel, by decide⟩
def iX1_add_23_15 : List Instr := [.iload_n 2, .aload_n 1, .getfield 34, .iload_n 3, .iaload, .iconst 1, .iadd, .iconst 5, .iload_n 3, .imul, .ishl, .ior, .istore_n 2, .iinc 3 1, .goto (-26)]
theorem oX1_add_23_15 : fOkB cX1_add 23 iX1_add_23_15 = true := by decide +kernel
set_option maxRecDepth 100000 in
theorem lpX1_add {G : fG} {d : Nat} {S : fS}  {b k : Nat} {src seat : zP} {r : Nat → Nat} {PL : List pTh} (hb : b ≤ 16) (R : rtRow S b src seat r k) (F : fdOk S PL) (hn : PL.length < 3857) {sq : Int64} (hsq : sq = ((gA S 20 (2 * k) - gI S 18 5).toInt64 * (gA S 20 (2 * k) - gI S 18 5).toInt64 + (gA S 20 (2 * k + 1) - gI S 18 6).toInt64 * (gA S 20 (2 * k + 1) - gI S 18 6).toInt64)) (hlt : sq < 1073741824) : ∀ (u9 i : Nat), i + u9 = k → fV G mX1_add (fZm G (d + 1) (fun z S' => z = none ∧ S' = fAdd S PL.length (nI (pkN r k)) sq (tickF sq) (lsF (gI S 24 4) (tickF sq)))) 15 [(0, .ref 24), (1, .ref 18), (2, .int (nI (pkN r i))), (3, .int (nI i))] [] S := by
  have hk3 : k ≤ 3 := R.2.1
  have h16 : ∀ i, i < k → r i < 16 := fun i hi => Nat.lt_of_lt_of_le (R.2.2.1 i hi).2 hb
  intro u9
  induction u9 with
  | zero =>
    intro i  hik
    refine fV.run iX1_add_15_3 oX1_add_15_3 (pc' := 20) (L' := [(0, .ref 24), (1, .ref 18), (2, .int (nI (pkN r i))), (3, .int (nI i))]) (st' := [.int (gI S 18 7), .int (nI i)]) (S' := S) rfl trivial ?_
    refine fV.icmp_ge bX1_add_20 (fun c20 => ?_) (fun c20 => ?_)
    · refine fV.to (L' := [(0, .ref 24), (1, .ref 18), (2, .int (nI (pkN r k))), (3, .int (nI i))]) (st' := []) rfl (by rw [show (nI (pkN r i) : Int32) = nI (pkN r k) from by rw [show i = k by omega]]) rfl rfl ?_
      refine fV.run iX1_add_44_1 oX1_add_44_1 (pc' := 45) (L' := [(0, .ref 24), (1, .ref 18), (2, .int (nI (pkN r k))), (3, .int (nI i))]) (st' := [.ref 18]) (S' := S) rfl trivial ?_
      refine fV.callV (M2 := mX3_lengthSquared) (d := d) (o := 18) (av := []) (rest := []) kX3_lengthSquared dX1_add_45 lX1_37 rfl rfl rfl (Nat.le_of_ble_eq_true rfl) (fRoom (by decide)) ⟨Nat.le_refl _, Nat.le_refl _⟩ (qX3_len2 R.1 R.2.1) ?_
      rintro _ S9 ⟨rfl, h9⟩
      rw [h9, ← hsq]
      clear h9 S9
      refine fV.to (pc' := 48) (L' := [(0, .ref 24), (1, .ref 18), (2, .int (nI (pkN r k))), (3, .int (nI i))]) (st' := [.long sq]) (S' := S) rfl rfl rfl rfl ?_
      refine fV.run iX1_add_48_2 oX1_add_48_2 (pc' := 50) (L' := [(0, .ref 24), (1, .ref 18), (2, .int (nI (pkN r k))), (3, .long sq)]) (st' := [.long sq]) (S' := S) rfl trivial ?_
      refine fV.callS (M2 := mX1_wholeRoot) (d := d) (av := [.long sq]) (rest := []) kX1_wholeRoot dX1_add_50 lX1_41 rfl rfl (Nat.le_of_ble_eq_true rfl) (fRoom (by decide)) ⟨Nat.le_refl _, Nat.le_refl _⟩ (qX1_root _) ?_
      rintro _ S9 ⟨rfl, h9⟩
      rw [h9]
      clear h9 S9
      refine fV.to (pc' := 53) (L' := [(0, .ref 24), (1, .ref 18), (2, .int (nI (pkN r k))), (3, .long sq)]) (st' := [.int (Int64.toInt32 (rtN sq 16 0))]) (S' := S) rfl rfl rfl rfl ?_
      refine fV.run iX1_add_53_2 oX1_add_53_2 (pc' := 56) (L' := [(0, .ref 24), (1, .ref 18), (2, .int (nI (pkN r k))), (3, .long sq)]) (st' := [.int ((Int64.toInt32 (rtN sq 16 0)) / 50)]) (S' := S) (P := ¬ 50 = 0 ∧ True) rfl ⟨(by decide), trivial⟩ ?_
      refine fV.to (L' := [(0, .ref 24), (1, .ref 18), (2, .int (nI (pkN r k))), (3, .long sq)]) (st' := [.int (tickF sq)]) rfl rfl (by rw [show ((Int64.toInt32 (rtN sq 16 0)) / 50 : Int32) = tickF sq from tick_c hlt]) rfl ?_
      refine fV.run iX1_add_56_28 oX1_add_56_28 (pc' := 104) (L' := [(0, .ref 24), (1, .ref 18), (2, .int (nI (pkN r k))), (3, .long sq), (5, .int (tickF sq))]) (st' := [.int (-1), .int (gI S 24 4)]) (S' := (wI (wA (wB (wA S 25 (upd (gA S 25) (gI S 24 3).toNatClampNeg (nI (pkN r k)))) 26 (vp_updL (gB S 26) (gI S 24 3).toNatClampNeg sq)) 27 (upd (gA S 27) (gI S 24 3).toNatClampNeg (tickF sq))) 24 3 ((gI S 24 3) + 1))) (P := vp_in (gI S 24 3) 3857 ∧ vp_in (gI S 24 3) 3857 ∧ vp_in (gI S 24 3) 3857 ∧ True) rfl ⟨(vinN (w := PL.length) (by omega) (by decide) F.1), (vinN (w := PL.length) (by omega) (by decide) F.1), (vinN (w := PL.length) (by omega) (by decide) F.1), trivial⟩ ?_
      refine fV.icmp_eq bX1_add_104 (fun c104 => ?_) (fun c104 => ?_)
      · refine fV.run iX1_add_116_3 oX1_add_116_3 (pc' := 122) (L' := [(0, .ref 24), (1, .ref 18), (2, .int (nI (pkN r k))), (3, .long sq), (5, .int (tickF sq))]) (st' := []) (S' := (wI (wI (wA (wB (wA S 25 (upd (gA S 25) (gI S 24 3).toNatClampNeg (nI (pkN r k)))) 26 (vp_updL (gB S 26) (gI S 24 3).toNatClampNeg sq)) 27 (upd (gA S 27) (gI S 24 3).toNatClampNeg (tickF sq))) 24 3 ((gI S 24 3) + 1)) 24 4 (tickF sq))) rfl trivial ?_
        exact fV.vret rfl dX1_add_122 ⟨rfl, by rw [F.1, nI_clamp (by omega), nI_1, show lsF (gI S 24 4) (tickF sq) = tickF sq from if_pos (by first | exact Or.inl c104 | exact Or.inr (by grind))]; rfl⟩
      · refine fV.run iX1_add_107_3 oX1_add_107_3 (pc' := 113) (L' := [(0, .ref 24), (1, .ref 18), (2, .int (nI (pkN r k))), (3, .long sq), (5, .int (tickF sq))]) (st' := [.int (gI S 24 4), .int (tickF sq)]) (S' := (wI (wA (wB (wA S 25 (upd (gA S 25) (gI S 24 3).toNatClampNeg (nI (pkN r k)))) 26 (vp_updL (gB S 26) (gI S 24 3).toNatClampNeg sq)) 27 (upd (gA S 27) (gI S 24 3).toNatClampNeg (tickF sq))) 24 3 ((gI S 24 3) + 1))) rfl trivial ?_
        refine fV.icmp_ge bX1_add_113 (fun c113 => ?_) (fun c113 => ?_)
        · exact fV.vret rfl dX1_add_122 ⟨rfl, by rw [F.1, nI_clamp (by omega), nI_1, show lsF (gI S 24 4) (tickF sq) = gI S 24 4 from if_neg (by grind), gI_upd_least]⟩
        · refine fV.run iX1_add_116_3 oX1_add_116_3 (pc' := 122) (L' := [(0, .ref 24), (1, .ref 18), (2, .int (nI (pkN r k))), (3, .long sq), (5, .int (tickF sq))]) (st' := []) (S' := (wI (wI (wA (wB (wA S 25 (upd (gA S 25) (gI S 24 3).toNatClampNeg (nI (pkN r k)))) 26 (vp_updL (gB S 26) (gI S 24 3).toNatClampNeg sq)) 27 (upd (gA S 27) (gI S 24 3).toNatClampNeg (tickF sq))) 24 3 ((gI S 24 3) + 1)) 24 4 (tickF sq))) rfl trivial ?_
          exact fV.vret rfl dX1_add_122 ⟨rfl, by rw [F.1, nI_clamp (by omega), nI_1, show lsF (gI S 24 4) (tickF sq) = tickF sq from if_pos (by first | exact Or.inl c104 | exact Or.inr (by grind))]; rfl⟩
    · exact absurd c20 (by rw [R.1, nI_leI (by omega) (by omega)]; omega)
  | succ u9 ih =>
    intro i  hik
    refine fV.run iX1_add_15_3 oX1_add_15_3 (pc' := 20) (L' := [(0, .ref 24), (1, .ref 18), (2, .int (nI (pkN r i))), (3, .int (nI i))]) (st' := [.int (gI S 18 7), .int (nI i)]) (S' := S) rfl trivial ?_
    refine fV.icmp_ge bX1_add_20 (fun c20 => ?_) (fun c20 => ?_)
    · exact absurd c20 (by rw [R.1, nI_leI (by omega) (by omega)]; omega)
    · refine fV.run iX1_add_23_15 oX1_add_23_15 (pc' := 15) (L' := [(0, .ref 24), (1, .ref 18), (2, .int ((nI (pkN r i)) ||| (((gA S 19 (nI i).toNatClampNeg) + 1) <<< ((5 * (nI i)) &&& 31)))), (3, .int ((nI i) + 1))]) (st' := []) (S' := S) (P := vp_in (nI i) 3 ∧ True) rfl ⟨(vp_in_nI (show i < 3 by omega) (by decide)), trivial⟩ ?_
      refine fV.to (L' := [(0, .ref 24), (1, .ref 18), (2, .int (nI (pkN r (i + 1)))), (3, .int (nI (i + 1)))]) rfl (by rw [nI_clamp (by omega), (R.2.2.1 i (by omega)).1, pk_step (by omega) (fun j hj => h16 j (by omega)), nI_1]) rfl rfl (ih (i + 1) (by omega))
def iX1_add_0_3 : List Instr := [.aload_n 0, .getfield 22, .sipush 3857]
theorem oX1_add_0_3 : fOkB cX1_add 0 iX1_add_0_3 = true := by decide +kernel
theorem bX1_add_7 : fBk cX1_add 7 (.if_icmp .lt) 11 := ⟨4, by decide +kernel, by decide⟩
def iX1_add_11_4 : List Instr := [.iconst 0, .istore_n 2, .iconst 0, .istore_n 3]
theorem oX1_add_11_4 : fOkB cX1_add 11 iX1_add_11_4 = true := by decide +kernel
set_option maxRecDepth 100000 in
theorem qX1_add {G : fG} {d : Nat} {S : fS} {b k : Nat} {src seat : zP} {r : Nat → Nat} {PL : List pTh} (hb : b ≤ 16) (R : rtRow S b src seat r k) (F : fdOk S PL) (hn : PL.length < 3857) {sq : Int64} (hsq : sq = ((gA S 20 (2 * k) - gI S 18 5).toInt64 * (gA S 20 (2 * k) - gI S 18 5).toInt64 + (gA S 20 (2 * k + 1) - gI S 18 6).toInt64 * (gA S 20 (2 * k + 1) - gI S 18 6).toInt64)) (hlt : sq < 1073741824)  : fCtr G (d + 1) mX1_add [.ref 24, .ref 18] S (fun z S' => z = none ∧ S' = fAdd S PL.length (nI (pkN r k)) sq (tickF sq) (lsF (gI S 24 4) (tickF sq))) := by
  refine fCtr.of bXX1_add (Nat.le_of_ble_eq_true rfl) rfl ?_
  have hk3 : k ≤ 3 := R.2.1
  have h16 : ∀ i, i < k → r i < 16 := fun i hi => Nat.lt_of_lt_of_le (R.2.2.1 i hi).2 hb
  refine fV.run iX1_add_0_3 oX1_add_0_3 (pc' := 7) (L' := [(0, .ref 24), (1, .ref 18)]) (st' := [.int 3857, .int (gI S 24 3)]) (S' := S) rfl trivial ?_
  refine fV.icmp_lt bX1_add_7 (fun c7 => ?_) (fun c7 => ?_)
  · refine fV.run iX1_add_11_4 oX1_add_11_4 (pc' := 15) (L' := [(0, .ref 24), (1, .ref 18), (2, .int 0), (3, .int 0)]) (st' := []) (S' := S) rfl trivial ?_
    exact lpX1_add hb R F hn hsq hlt k 0 (by omega)
  · exact absurd c7 (by rw [F.1, show (3857 : Int32) = nI 3857 from rfl, nI_ltI (by omega) (by omega)]; omega)
end
section
/-! the search for paths -/
def sqD (en : Nat → Int32) (src seat : zP) (l : List Nat) : Int64 := ((imgD en src (fnL l) l.length).1 - seat.1).toInt64 * ((imgD en src (fnL l) l.length).1 - seat.1).toInt64 + ((imgD en src (fnL l) l.length).2 - seat.2).toInt64 * ((imgD en src (fnL l) l.length).2 - seat.2).toInt64
noncomputable def pOf (en : Nat → Int32) (b : Nat) (src seat : zP) (l : List Nat) : Option pTh := @ite _ (hasD en src seat (fnL l) l.length ∧ seenD en b src seat (fnL l) l.length) (Classical.propDecidable _) (some (l, sqD en src seat l)) none
theorem pOf_y {en : Nat → Int32} {b : Nat} {src seat : zP} {l : List Nat} (h : hasD en src seat (fnL l) l.length) (h2 : seenD en b src seat (fnL l) l.length) : pOf en b src seat l = some (l, sqD en src seat l) := by unfold pOf; rw [if_pos ⟨h, h2⟩]
theorem pOf_n {en : Nat → Int32} {b : Nat} {src seat : zP} {l : List Nat} (h : ¬ (hasD en src seat (fnL l) l.length ∧ seenD en b src seat (fnL l) l.length)) : pOf en b src seat l = none := by unfold pOf; rw [if_neg h]
/-- the rows that begin with some walls and have n more, no wall twice side by side, in their order -/
def rowsX (b : Nat) : Nat → List Nat → List (List Nat)
  | 0, pre => [pre]
  | n + 1, pre => (List.range b).flatMap (fun w => if pre.getLast? = some w then [] else rowsX b n (pre ++ [w]))
noncomputable def pthX (en : Nat → Int32) (b : Nat) (src seat : zP) (n : Nat) (pre : List Nat) : List pTh := (rowsX b n pre).filterMap (pOf en b src seat)
def kp (S S' : fS) : Prop := hC S' = hC S ∧ S'.2 = S.2 ∧ gA S' 7 = gA S 7 ∧ gA S' 8 = gA S 8 ∧ gA S' 9 = gA S 9 ∧ gA S' 10 = gA S 10
theorem kp.rf {S : fS} : kp S S := ⟨rfl, rfl, rfl, rfl, rfl, rfl⟩
theorem kp.tr {S S1 S2 : fS} (h : kp S S1) (h2 : kp S1 S2) : kp S S2 := ⟨h2.1.trans h.1, h2.2.1.trans h.2.1, h2.2.2.1.trans h.2.2.1, h2.2.2.2.1.trans h.2.2.2.1, h2.2.2.2.2.1.trans h.2.2.2.2.1, h2.2.2.2.2.2.trans h.2.2.2.2.2⟩
theorem kp.en {S S' : fS} (h : kp S S') : gA S' 5 = gA S 5 := congrArg (fun q => q.2.1.2.1) h.1
theorem kp.nw {S S' : fS} (h : kp S S') : gI S' 4 6 = gI S 4 6 := congrArg (fun q => q.2.1.1) h.1
theorem kp.geo {S S' : fS} (h : kp S S') {b : Nat} (g : hGeo S b) : hGeo S' b := by
  intro w hw
  rw [h.2.2.1, h.2.2.2.1, h.2.2.2.2.1, h.2.2.2.2.2, h.en]
  exact g w hw
def rtPre (S : fS) (b : Nat) (src seat : zP) (pre : List Nat) (k : Nat) : Prop := gI S 18 7 = nI k ∧ k ≤ 3 ∧ pre.length ≤ k ∧ (∀ i, i < pre.length → gA S 19 i = nI (fnL pre i)) ∧ (∀ w ∈ pre, w < b) ∧ (∀ j, j ≤ pre.length → pA (gA S 20) j = imgD (gA S 5) src (fnL pre) j) ∧ (gI S 18 5, gI S 18 6) = seat
theorem rtPre.row {S : fS} {b k : Nat} {src seat : zP} {pre : List Nat} (h : rtPre S b src seat pre k) (hk : pre.length = k) : rtRow S b src seat (fnL pre) k := by
  obtain ⟨h1, h2, h3, h4, h5, h6, h7⟩ := h
  subst hk
  exact ⟨h1, h2, fun i hi => ⟨h4 i hi, fnL_lt h5 hi⟩, h6, h7⟩
theorem imgD_congr {en : Nat → Int32} {src : zP} {r r2 : Nat → Nat} : ∀ {j : Nat}, (∀ i, i < j → r i = r2 i) → imgD en src r j = imgD en src r2 j
  | 0, _ => rfl
  | j + 1, h => by
    show mirP en (r j) _ = mirP en (r2 j) _
    rw [h j (by omega), imgD_congr (fun i hi => h i (by omega))]
theorem fnL_app {l : List Nat} {w i : Nat} (h : i < l.length) : fnL (l ++ [w]) i = fnL l i := by
  unfold fnL
  rw [List.getD_eq_getElem?_getD, List.getD_eq_getElem?_getD, List.getElem?_append_left h]
theorem fnL_last {l : List Nat} {w : Nat} : fnL (l ++ [w]) l.length = w := by
  unfold fnL
  rw [List.getD_eq_getElem?_getD, List.getElem?_append_right (Nat.le_refl _), Nat.sub_self]
  rfl
theorem rtPre.put {S : fS} {b k w : Nat} {src seat : zP} {pre : List Nat} (h : rtPre S b src seat pre k) (hp : pre.length < k) (hw : w < b) : rtPre (wA (wA S 19 (upd (gA S 19) pre.length (nI w))) 20 (mirA (gA S 5) w pre.length (pre.length + 1) (gA S 20))) b src seat (pre ++ [w]) k := by
  obtain ⟨h1, h2, h3, h4, h5, h6, h7⟩ := h
  have hl : (pre ++ [w]).length = pre.length + 1 := by simp
  refine ⟨h1, h2, by omega, fun i hi => ?_, fun v hv => ?_, fun j hj => ?_, h7⟩
  · show upd (gA S 19) pre.length (nI w) i = _
    by_cases e : i = pre.length
    · subst e; rw [upd_at, fnL_last]
    · rw [upd_ne e, fnL_app (by omega)]; exact h4 i (by omega)
  · rcases List.mem_append.mp hv with q | q
    · exact h5 v q
    · rw [List.mem_singleton.mp q]; exact hw
  · show pA (mirA (gA S 5) w pre.length (pre.length + 1) (gA S 20)) j = imgD (gA S 5) src (fnL (pre ++ [w])) j
    by_cases e : j = pre.length + 1
    · subst e
      rw [mirA_at (by omega), h6 _ (Nat.le_refl _)]
      show _ = mirP (gA S 5) (fnL (pre ++ [w]) pre.length) (imgD (gA S 5) src (fnL (pre ++ [w])) pre.length)
      rw [fnL_last, imgD_congr (fun i hi => fnL_app hi)]
    · rw [mirA_ne (by omega) e, h6 j (by omega), imgD_congr (fun i hi => fnL_app (by omega))]
theorem rtPre.pre {S : fS} {b k w : Nat} {src seat : zP} {pre : List Nat} (h : rtPre S b src seat (pre ++ [w]) k) : rtPre S b src seat pre k := by
  obtain ⟨h1, h2, h3, h4, h5, h6, h7⟩ := h
  have hl : (pre ++ [w]).length = pre.length + 1 := by simp
  refine ⟨h1, h2, by omega, fun i hi => ?_, fun v hv => h5 v (List.mem_append_left _ hv), fun j hj => ?_, h7⟩
  · rw [h4 i (by omega), fnL_app hi]
  · rw [h6 j (by omega), imgD_congr (fun i hi => fnL_app (by omega))]
theorem pre_last {l : List Nat} {w : Nat} (h : 0 < l.length) : l.getLast? = some w ↔ fnL l (l.length - 1) = w := by
  rw [List.getLast?_eq_getElem?]
  unfold fnL
  rw [List.getD_eq_getElem?_getD, List.getElem?_eq_getElem (by omega)]
  simp
/-- a state in the midst of the search -/
def tr (S : fS) (b : Nat) (src seat : zP) (k : Nat) (PL : List pTh) (pre : List Nat) : Prop := hGeo S b ∧ gI S 4 6 = nI b ∧ rtPre S b src seat pre k ∧ fdOk S PL
theorem sq_eq {S : fS} {b k : Nat} {src seat : zP} {pre : List Nat} (R : rtPre S b src seat pre k) (hk : pre.length = k) : sqD (gA S 5) src seat pre = (gA S 20 (2 * k) - gI S 18 5).toInt64 * (gA S 20 (2 * k) - gI S 18 5).toInt64 + (gA S 20 (2 * k + 1) - gI S 18 6).toInt64 * (gA S 20 (2 * k + 1) - gI S 18 6).toInt64 := by
  unfold sqD
  rw [← R.2.2.2.2.2.1 _ (Nat.le_refl _), ← R.2.2.2.2.2.2, hk]
  rfl
def iX7_tryRows_0_2 : List Instr := [.iload_n 1, .iload_n 2]
theorem oX7_tryRows_0_2 : fOkB cX7_tryRows 0 iX7_tryRows_0_2 = true := by decide +kernel
theorem bX7_tryRows_2 : fBk cX7_tryRows 2 (.if_icmp .ge) 10 := ⟨8, by decide +kernel, by decide⟩
def iX7_tryRows_10_4 : List Instr := [.aload_n 0, .getfield 42, .aload_n 0, .getfield 19]
theorem oX7_tryRows_10_4 : fOkB cX7_tryRows 10 iX7_tryRows_10_4 = true := by decide +kernel
set_option maxRecDepth 100000 in
theorem lX7_169 : Cond.methodLink RX7 169 yX3_hasBounces ∈ fTB := fTB_at 446 rfl rfl
theorem dX7_tryRows_18 : decode cX7_tryRows 18 = .ok (.invokevirtual 169, 3) := by decide +kernel
theorem bX7_tryRows_21 : fBk cX7_tryRows 21 (.ifCond .eq) 49 := ⟨28, by decide +kernel, by decide⟩
def iX7_tryRows_24_4 : List Instr := [.aload_n 0, .getfield 42, .aload_n 0, .getfield 19]
theorem oX7_tryRows_24_4 : fOkB cX7_tryRows 24 iX7_tryRows_24_4 = true := by decide +kernel
set_option maxRecDepth 100000 in
theorem lX7_173 : Cond.methodLink RX7 173 yX3_isSeen ∈ fTB := fTB_at 468 rfl rfl
theorem dX7_tryRows_32 : decode cX7_tryRows 32 = .ok (.invokevirtual 173, 3) := by decide +kernel
theorem bX7_tryRows_35 : fBk cX7_tryRows 35 (.ifCond .eq) 49 := ⟨14, by decide +kernel, by decide⟩
def iX7_tryRows_38_4 : List Instr := [.aload_n 0, .getfield 49, .aload_n 0, .getfield 42]
theorem oX7_tryRows_38_4 : fOkB cX7_tryRows 38 iX7_tryRows_38_4 = true := by decide +kernel
set_option maxRecDepth 100000 in
theorem lX7_258 : Cond.methodLink RX7 258 yX1_add ∈ fTB := fTB_at 484 rfl rfl
theorem dX7_tryRows_46 : decode cX7_tryRows 46 = .ok (.invokevirtual 258, 3) := by decide +kernel
theorem dX7_tryRows_49 : decode cX7_tryRows 49 = .ok (.return_, 1) := by decide +kernel
set_option maxRecDepth 100000 in
theorem qX7_try0 {G : fG} {d : Nat} {S : fS} {b k : Nat} {src seat : zP} {PL : List pTh} {pre : List Nat} (hb : b ≤ 16) (hsq : ∀ l : List Nat, l.length ≤ 3 → (∀ w ∈ l, w < b) → sqD (gA S 5) src seat l < 1073741824) (T : tr S b src seat k PL pre) (hpk : pre.length = k) (hcap : PL.length + (rowsX b 0 pre).length ≤ 3857) : fCtr G (d + 5) mX7_tryRows [.ref 0, .int (nI pre.length), .int (nI k)] S (fun z S' => z = none ∧ kp S S' ∧ tr S' b src seat k (PL ++ pthX (gA S 5) b src seat 0 pre) pre) := by
  obtain ⟨HG, hbn, R, F⟩ := T
  have hk3 : k ≤ 3 := R.2.1
  refine fCtr.of bXX7_tryRows (Nat.le_of_ble_eq_true rfl) rfl ?_
  refine fV.run iX7_tryRows_0_2 oX7_tryRows_0_2 (pc' := 2) (L' := [(0, .ref 0), (1, .int (nI pre.length)), (2, .int (nI k))]) (st' := [.int (nI k), .int (nI pre.length)]) (S' := S) rfl trivial ?_
  refine fV.icmp_ge bX7_tryRows_2 (fun c2 => ?_) (fun c2 => ?_)
  · refine fV.run iX7_tryRows_10_4 oX7_tryRows_10_4 (pc' := 18) (L' := [(0, .ref 0), (1, .int (nI pre.length)), (2, .int (nI k))]) (st' := [.ref 4, .ref 18]) (S' := S) rfl trivial ?_
    refine fV.callV (M2 := mX3_hasBounces) (d := d + 4) (o := 18) (av := [.ref 4]) (rest := []) kX3_hasBounces dX7_tryRows_18 lX7_169 rfl rfl rfl (Nat.le_of_ble_eq_true rfl) (fRoom (by decide)) ⟨Nat.le_refl _, Nat.le_refl _⟩ (qX3_has HG hb (R.row hpk)) ?_
    rintro r9 S9 h9
    obtain ⟨e, p, q, rfl, h9⟩ := h9
    rcases h9 with ⟨hh, rfl, he, hf⟩ | ⟨hh, rfl⟩
    · skip
      refine fV.to (pc' := 21) (L' := [(0, .ref 0), (1, .int (nI pre.length)), (2, .int (nI k))]) (st' := [.int 1]) (S' := (wB (wB (wA S 21 e) 22 p) 23 q)) rfl rfl rfl rfl ?_
      refine fV.if_eq bX7_tryRows_21 (fun c21 => ?_) (fun c21 => ?_)
      · exact absurd c21 (by decide)
      · refine fV.run iX7_tryRows_24_4 oX7_tryRows_24_4 (pc' := 32) (L' := [(0, .ref 0), (1, .int (nI pre.length)), (2, .int (nI k))]) (st' := [.ref 4, .ref 18]) (S' := (wB (wB (wA S 21 e) 22 p) 23 q)) rfl trivial ?_
        refine fV.callV (M2 := mX3_isSeen) (d := d + 4) (o := 18) (av := [.ref 4]) (rest := []) kX3_isSeen dX7_tryRows_32 lX7_173 rfl rfl rfl (Nat.le_of_ble_eq_true rfl) (fRoom (by decide)) ⟨Nat.le_refl _, Nat.le_refl _⟩ (qX3_seen (S := (wB (wB (wA S 21 e) 22 p) 23 q)) (geo_wB (geo_wB (geo_wA (by decide) HG))) hb hbn (R.row hpk) he hf) ?_
        rintro r9 S9 h9
        rcases h9 with ⟨hs, rfl, h9⟩ | ⟨hs, rfl, h9⟩
        · rw [h9]
          clear h9 S9
          refine fV.to (pc' := 35) (L' := [(0, .ref 0), (1, .int (nI pre.length)), (2, .int (nI k))]) (st' := [.int 1]) (S' := (wB (wB (wA S 21 e) 22 p) 23 q)) rfl rfl rfl rfl ?_
          refine fV.if_eq bX7_tryRows_35 (fun c35 => ?_) (fun c35 => ?_)
          · exact absurd c35 (by decide)
          · refine fV.run iX7_tryRows_38_4 oX7_tryRows_38_4 (pc' := 46) (L' := [(0, .ref 0), (1, .int (nI pre.length)), (2, .int (nI k))]) (st' := [.ref 18, .ref 24]) (S' := (wB (wB (wA S 21 e) 22 p) 23 q)) rfl trivial ?_
            refine fV.callV (M2 := mX1_add) (d := d + 4) (o := 24) (av := [.ref 18]) (rest := []) kX1_add dX7_tryRows_46 lX7_258 rfl rfl rfl (Nat.le_of_ble_eq_true rfl) (fRoom (by decide)) ⟨Nat.le_refl _, Nat.le_refl _⟩ (qX1_add (S := (wB (wB (wA S 21 e) 22 p) 23 q)) (sq := sqD (gA S 5) src seat pre) hb (R.row hpk) F (by simp only [rowsX, List.length_cons, List.length_nil] at hcap; omega) (sq_eq R hpk) (hsq pre (by omega) R.2.2.2.2.1)) ?_
            rintro _ S9 ⟨rfl, h9⟩
            rw [h9]
            clear h9 S9
            refine fV.to (pc' := 49) (L' := [(0, .ref 0), (1, .int (nI pre.length)), (2, .int (nI k))]) (st' := []) (S' := (fAdd (wB (wB (wA S 21 e) 22 p) 23 q) PL.length (nI (pkN (fnL pre) k)) (sqD (gA S 5) src seat pre) (tickF (sqD (gA S 5) src seat pre)) (lsF (gI S 24 4) (tickF (sqD (gA S 5) src seat pre))))) rfl rfl rfl rfl ?_
            exact fV.vret rfl dX7_tryRows_49 (by
          refine ⟨rfl, ⟨rfl, rfl, rfl, rfl, rfl, rfl⟩, HG, hbn, R, ?_⟩
          subst hpk
          rw [show pthX (gA S 5) b src seat 0 pre = [(pre, sqD (gA S 5) src seat pre)] by simp only [pthX, rowsX, List.filterMap_cons, List.filterMap_nil, pOf_y hh hs]]
          exact fd_add (x := (pre, sqD (gA S 5) src seat pre)) (show fdOk (wB (wB (wA S 21 e) 22 p) 23 q) PL from F) (by simp only [rowsX, List.length_cons, List.length_nil] at hcap; omega))
        · rw [h9]
          clear h9 S9
          refine fV.to (pc' := 35) (L' := [(0, .ref 0), (1, .int (nI pre.length)), (2, .int (nI k))]) (st' := [.int 0]) (S' := (wB (wB (wA S 21 e) 22 p) 23 q)) rfl rfl rfl rfl ?_
          refine fV.if_eq bX7_tryRows_35 (fun c35 => ?_) (fun c35 => ?_)
          · exact fV.vret rfl dX7_tryRows_49 (by
          refine ⟨rfl, ⟨rfl, rfl, rfl, rfl, rfl, rfl⟩, HG, hbn, R, ?_⟩
          subst hpk
          rw [show pthX (gA S 5) b src seat 0 pre = [] by simp only [pthX, rowsX, List.filterMap_cons, List.filterMap_nil]; rw [pOf_n (by first | exact fun y => hs y.2 | exact fun y => hh y.1)], List.append_nil]
          exact F)
          · exact absurd c35 (by decide)
    · skip
      refine fV.to (pc' := 21) (L' := [(0, .ref 0), (1, .int (nI pre.length)), (2, .int (nI k))]) (st' := [.int 0]) (S' := (wB (wB (wA S 21 e) 22 p) 23 q)) rfl rfl rfl rfl ?_
      refine fV.if_eq bX7_tryRows_21 (fun c21 => ?_) (fun c21 => ?_)
      · exact fV.vret rfl dX7_tryRows_49 (by
          refine ⟨rfl, ⟨rfl, rfl, rfl, rfl, rfl, rfl⟩, HG, hbn, R, ?_⟩
          subst hpk
          rw [show pthX (gA S 5) b src seat 0 pre = [] by simp only [pthX, rowsX, List.filterMap_cons, List.filterMap_nil]; rw [pOf_n (by first | exact fun y => hs y.2 | exact fun y => hh y.1)], List.append_nil]
          exact F)
      · exact absurd c21 (by decide)
  · exact absurd c2 (by rw [hpk]; grind)
end
section
/-! the search: all rows that begin so -/
def fX (b n : Nat) (pre : List Nat) (w : Nat) : List (List Nat) := if pre.getLast? = some w then [] else rowsX b n (pre ++ [w])
theorem rng_le {α : Type} (f : Nat → List α) {w b : Nat} (h : w ≤ b) : ((List.range w).flatMap f).length ≤ ((List.range b).flatMap f).length := by
  induction b with
  | zero => (obtain rfl : w = 0 := (by omega)); exact Nat.le_refl _
  | succ b ih =>
    by_cases e : w = b + 1
    · subst e; exact Nat.le_refl _
    · have := ih (by omega)
      rw [List.range_succ, List.flatMap_append, List.length_append]
      omega
theorem rng_s {α : Type} (f : Nat → List α) (w : Nat) : (List.range (w + 1)).flatMap f = (List.range w).flatMap f ++ f w := by
  rw [List.range_succ, List.flatMap_append]; simp
noncomputable def prt (en : Nat → Int32) (b : Nat) (src seat : zP) (n : Nat) (pre : List Nat) (w : Nat) : List pTh := ((List.range w).flatMap (fX b n pre)).filterMap (pOf en b src seat)
theorem prt_s (en : Nat → Int32) (b : Nat) (src seat : zP) (n : Nat) (pre : List Nat) (w : Nat) : prt en b src seat n pre (w + 1) = prt en b src seat n pre w ++ (fX b n pre w).filterMap (pOf en b src seat) := by
  unfold prt; rw [rng_s, List.filterMap_append]
theorem prt_cap {en : Nat → Int32} {b : Nat} {src seat : zP} {n m : Nat} {pre : List Nat} {w : Nat} (hw : w < b) (h : m + (rowsX b (n + 1) pre).length ≤ 3857) : m + (prt en b src seat n pre w).length + (fX b n pre w).length ≤ 3857 := by
  have h1 := rng_le (fX b n pre) (show w + 1 ≤ b by omega)
  rw [rng_s, List.length_append] at h1
  have h2 : (prt en b src seat n pre w).length ≤ ((List.range w).flatMap (fX b n pre)).length := List.length_filterMap_le _ _
  have h3 : (rowsX b (n + 1) pre).length = ((List.range b).flatMap (fX b n pre)).length := rfl
  omega
theorem czero {n : Nat} (h : nI n = 0) (hn : n ≤ 100) : n = 0 := (nI_eq (b := 0) (by omega) (by decide)).mp h
theorem cpos {n : Nat} (h : ¬ nI n = 0) : 0 < n := Nat.pos_of_ne_zero (fun e => h (by rw [e]; rfl))
theorem cpred {n : Nat} (h : ¬ nI n = 0) (hn : n ≤ 100) : nI n - 1 = nI (n - 1) := by
  obtain ⟨i, rfl⟩ : ∃ i, n = i + 1 := ⟨n - 1, by have := cpos h; omega⟩
  rw [nI_pred]; rfl
def iX7_tryRows_52_4 : List Instr := [.iload_n 3, .aload_n 0, .getfield 19, .getfield 97]
theorem oX7_tryRows_52_4 : fOkB cX7_tryRows 52 iX7_tryRows_52_4 = true := by decide +kernel
theorem bX7_tryRows_60 : fBk cX7_tryRows 60 (.if_icmp .ge) 109 := ⟨49, by decide +kernel, by decide⟩
theorem dX7_tryRows_109 : decode cX7_tryRows 109 = .ok (.return_, 1) := by decide +kernel
def iX7_tryRows_63_1 : List Instr := [.iload_n 1]
theorem oX7_tryRows_63_1 : fOkB cX7_tryRows 63 iX7_tryRows_63_1 = true := by decide +kernel
theorem bX7_tryRows_64 : fBk cX7_tryRows 64 (.ifCond .eq) 82 := ⟨18, by decide +kernel, by decide⟩
def iX7_tryRows_82_6 : List Instr := [.aload_n 0, .getfield 42, .iload_n 1, .iload_n 3, .aload_n 0, .getfield 19]
theorem oX7_tryRows_82_6 : fOkB cX7_tryRows 82 iX7_tryRows_82_6 = true := by decide +kernel
set_option maxRecDepth 100000 in
theorem lX7_249 : Cond.methodLink RX7 249 yX3_put ∈ fTB := fTB_at 496 rfl rfl
theorem dX7_tryRows_92 : decode cX7_tryRows 92 = .ok (.invokevirtual 249, 3) := by decide +kernel
def iX7_tryRows_95_4 : List Instr := [.aload_n 0, .iload_n 1, .iconst 1, .iadd]
theorem oX7_tryRows_95_4 : fOkB cX7_tryRows 95 iX7_tryRows_95_4 = true := by decide +kernel
def iX7_tryRows_99_1 : List Instr := [.iload_n 2]
theorem oX7_tryRows_99_1 : fOkB cX7_tryRows 99 iX7_tryRows_99_1 = true := by decide +kernel
set_option maxRecDepth 100000 in
theorem lX7_255 : Cond.methodLink RX7 255 yX7_tryRows ∈ fTB := fTB_at 442 rfl rfl
theorem dX7_tryRows_100 : decode cX7_tryRows 100 = .ok (.invokevirtual 255, 3) := by decide +kernel
def iX7_tryRows_103_2 : List Instr := [.iinc 3 1, .goto (-54)]
theorem oX7_tryRows_103_2 : fOkB cX7_tryRows 103 iX7_tryRows_103_2 = true := by decide +kernel
def iX7_tryRows_67_7 : List Instr := [.aload_n 0, .getfield 42, .getfield 261, .iload_n 1, .iconst 1, .isub, .iaload]
theorem oX7_tryRows_67_7 : fOkB cX7_tryRows 67 iX7_tryRows_67_7 = true := by decide +kernel
def iX7_tryRows_78_1 : List Instr := [.iload_n 3]
theorem oX7_tryRows_78_1 : fOkB cX7_tryRows 78 iX7_tryRows_78_1 = true := by decide +kernel
theorem bX7_tryRows_79 : fBk cX7_tryRows 79 (.if_icmp .eq) 103 := ⟨24, by decide +kernel, by decide⟩
set_option maxRecDepth 100000 in
set_option maxHeartbeats 4000000 in
theorem lpX7_try {G : fG} {d : Nat} {S : fS} {b k n : Nat} {src seat : zP} {PL : List pTh} {pre : List Nat} (hb : b ≤ 16) (hk3 : k ≤ 3) (hsq : ∀ l : List Nat, l.length ≤ 3 → (∀ w ∈ l, w < b) → sqD (gA S 5) src seat l < 1073741824) (hpk : pre.length + (n + 1) = k) (hcap : PL.length + (rowsX b (n + 1) pre).length ≤ 3857) (IH : ∀ {d : Nat} {S : fS} {PL : List pTh} {pre : List Nat}, (∀ l : List Nat, l.length ≤ 3 → (∀ w ∈ l, w < b) → sqD (gA S 5) src seat l < 1073741824) → tr S b src seat k PL pre → pre.length + n = k → PL.length + (rowsX b n pre).length ≤ 3857 → fCtr G (d + n + 5) mX7_tryRows [.ref 0, .int (nI pre.length), .int (nI k)] S (fun z S' => z = none ∧ kp S S' ∧ tr S' b src seat k (PL ++ pthX (gA S 5) b src seat n pre) pre)) : ∀ (j w : Nat) (S1 : fS), w + j = b → kp S S1 → tr S1 b src seat k (PL ++ prt (gA S 5) b src seat n pre w) pre →
    fV G mX7_tryRows (fZm G (d + (n + 1) + 5) (fun z S' => z = none ∧ kp S S' ∧ tr S' b src seat k (PL ++ pthX (gA S 5) b src seat (n + 1) pre) pre)) 52 [(0, .ref 0), (1, .int (nI pre.length)), (2, .int (nI k)), (3, .int (nI w))] [] S1 := by
  intro j
  induction j with
  | zero =>
    intro w S1 hw hkp T
    obtain ⟨HG, hbn, R, F⟩ := T
    have hen : gA S1 5 = gA S 5 := hkp.en
    refine fV.run iX7_tryRows_52_4 oX7_tryRows_52_4 (pc' := 60) (L' := [(0, .ref 0), (1, .int (nI pre.length)), (2, .int (nI k)), (3, .int (nI w))]) (st' := [.int (gI S1 4 6), .int (nI w)]) (S' := S1) rfl trivial ?_
    refine fV.icmp_ge bX7_tryRows_60 (fun c60 => ?_) (fun c60 => ?_)
    · exact fV.vret rfl dX7_tryRows_109 (by obtain rfl : w = b := (by omega); exact ⟨rfl, hkp, HG, hbn, R, F⟩)
    · exact absurd c60 (by rw [hbn, nI_leI (by omega) (by omega)]; omega)
  | succ j ih =>
    intro w S1 hw hkp T
    obtain ⟨HG, hbn, R, F⟩ := T
    have hen : gA S1 5 = gA S 5 := hkp.en
    refine fV.run iX7_tryRows_52_4 oX7_tryRows_52_4 (pc' := 60) (L' := [(0, .ref 0), (1, .int (nI pre.length)), (2, .int (nI k)), (3, .int (nI w))]) (st' := [.int (gI S1 4 6), .int (nI w)]) (S' := S1) rfl trivial ?_
    refine fV.icmp_ge bX7_tryRows_60 (fun c60 => ?_) (fun c60 => ?_)
    · exact absurd c60 (by rw [hbn, nI_leI (by omega) (by omega)]; omega)
    · refine fV.run iX7_tryRows_63_1 oX7_tryRows_63_1 (pc' := 64) (L' := [(0, .ref 0), (1, .int (nI pre.length)), (2, .int (nI k)), (3, .int (nI w))]) (st' := [.int (nI pre.length)]) (S' := S1) rfl trivial ?_
      refine fV.if_eq bX7_tryRows_64 (fun c64 => ?_) (fun c64 => ?_)
      · refine fV.run iX7_tryRows_82_6 oX7_tryRows_82_6 (pc' := 92) (L' := [(0, .ref 0), (1, .int (nI pre.length)), (2, .int (nI k)), (3, .int (nI w))]) (st' := [.ref 4, .int (nI w), .int (nI pre.length), .ref 18]) (S' := S1) rfl trivial ?_
        have hnl : ¬ pre.getLast? = some w := by first | (intro y; exact c79 (by rw [(pre_last (by have := cpos c64; omega)).mp y])) | (have h0 : pre = [] := List.length_eq_zero_iff.mp (czero c64 (by omega)); rw [h0]; intro y; cases y)
        refine fV.callV (M2 := mX3_put) (d := d + (n + 1) + 4) (o := 18) (av := [.int (nI pre.length), .int (nI w), .ref 4]) (rest := []) kX3_put dX7_tryRows_92 lX7_249 rfl rfl rfl (Nat.le_of_ble_eq_true rfl) (fRoom (by decide)) ⟨Nat.le_refl _, Nat.le_refl _⟩ (qX3_put (w := w) (i := pre.length) HG (by omega) hb (by omega)) ?_
        rintro _ S9 ⟨rfl, h9⟩
        rw [h9]
        clear h9 S9
        refine fV.to (pc' := 95) (L' := [(0, .ref 0), (1, .int (nI pre.length)), (2, .int (nI k)), (3, .int (nI w))]) (st' := []) (S' := (wA (wA S1 19 (upd (gA S1 19) pre.length (nI w))) 20 (mirA (gA S1 5) w pre.length (pre.length + 1) (gA S1 20)))) rfl rfl rfl rfl ?_
        refine fV.run iX7_tryRows_95_4 oX7_tryRows_95_4 (pc' := 99) (L' := [(0, .ref 0), (1, .int (nI pre.length)), (2, .int (nI k)), (3, .int (nI w))]) (st' := [.int ((nI pre.length) + 1), .ref 0]) (S' := (wA (wA S1 19 (upd (gA S1 19) pre.length (nI w))) 20 (mirA (gA S1 5) w pre.length (pre.length + 1) (gA S1 20)))) rfl trivial ?_
        refine fV.to (L' := [(0, .ref 0), (1, .int (nI pre.length)), (2, .int (nI k)), (3, .int (nI w))]) (st' := [.int (nI (pre ++ [w]).length), .ref 0]) rfl rfl (by rw [show ((nI pre.length) + 1 : Int32) = nI (pre ++ [w]).length from by rw [nI_1, List.length_append]; rfl]) rfl ?_
        refine fV.run iX7_tryRows_99_1 oX7_tryRows_99_1 (pc' := 100) (L' := [(0, .ref 0), (1, .int (nI pre.length)), (2, .int (nI k)), (3, .int (nI w))]) (st' := [.int (nI k), .int (nI (pre ++ [w]).length), .ref 0]) (S' := (wA (wA S1 19 (upd (gA S1 19) pre.length (nI w))) 20 (mirA (gA S1 5) w pre.length (pre.length + 1) (gA S1 20)))) rfl trivial ?_
        refine fV.callV (M2 := mX7_tryRows) (d := d + (n + 1) + 4) (o := 0) (av := [.int (nI (pre ++ [w]).length), .int (nI k)]) (rest := []) kX7_tryRows dX7_tryRows_100 lX7_255 rfl rfl rfl (Nat.le_of_ble_eq_true rfl) (fRoom (by decide)) ⟨Nat.le_refl _, Nat.le_refl _⟩ (IH (d := d) (S := (wA (wA S1 19 (upd (gA S1 19) pre.length (nI w))) 20 (mirA (gA S1 5) w pre.length (pre.length + 1) (gA S1 20)))) (PL := PL ++ prt (gA S 5) b src seat n pre w) (pre := pre ++ [w]) (by rw [show gA (wA (wA S1 19 (upd (gA S1 19) pre.length (nI w))) 20 (mirA (gA S1 5) w pre.length (pre.length + 1) (gA S1 20))) 5 = gA S 5 from hen]; exact hsq) ⟨(geo_wA (by decide) (geo_wA (by decide) HG)), hbn, R.put (by omega) (by omega), F⟩ (by simp; omega) (by have h7 := prt_cap (en := gA S 5) (src := src) (seat := seat) (show w < b by omega) hcap; rw [show fX b n pre w = rowsX b n (pre ++ [w]) from if_neg hnl] at h7; rw [List.length_append]; omega)) ?_
        rintro _ S9 ⟨rfl, hk9, ht9⟩
        have kp2 : kp S1 (wA (wA S1 19 (upd (gA S1 19) pre.length (nI w))) 20 (mirA (gA S1 5) w pre.length (pre.length + 1) (gA S1 20))) := ⟨rfl, rfl, rfl, rfl, rfl, rfl⟩
        have ht9b : fdOk S9 (PL ++ prt (gA S 5) b src seat n pre w ++ pthX (gA S 5) b src seat n (pre ++ [w])) := by
          have h10 := ht9.2.2.2
          rw [show gA (wA (wA S1 19 (upd (gA S1 19) pre.length (nI w))) 20 (mirA (gA S1 5) w pre.length (pre.length + 1) (gA S1 20))) 5 = gA S 5 from hen] at h10
          exact h10
        refine fV.to (pc' := 103) (L' := [(0, .ref 0), (1, .int (nI pre.length)), (2, .int (nI k)), (3, .int (nI w))]) (st' := []) (S' := S9) rfl rfl rfl rfl ?_
        refine fV.run iX7_tryRows_103_2 oX7_tryRows_103_2 (pc' := 52) (L' := [(0, .ref 0), (1, .int (nI pre.length)), (2, .int (nI k)), (3, .int ((nI w) + 1))]) (st' := []) (S' := S9) rfl trivial ?_
        refine fV.to (L' := [(0, .ref 0), (1, .int (nI pre.length)), (2, .int (nI k)), (3, .int (nI (w + 1)))]) rfl (by rw [nI_1]) rfl rfl (ih (w + 1) S9 (by omega) (hkp.tr (kp2.tr hk9)) ?_)
        rw [prt_s, ← List.append_assoc, show fX b n pre w = rowsX b n (pre ++ [w]) from if_neg hnl]
        exact ⟨ht9.1, ht9.2.1, ht9.2.2.1.pre, ht9b⟩
      · refine fV.run iX7_tryRows_67_7 oX7_tryRows_67_7 (pc' := 78) (L' := [(0, .ref 0), (1, .int (nI pre.length)), (2, .int (nI k)), (3, .int (nI w))]) (st' := [.int (gA S1 19 ((nI pre.length) - 1).toNatClampNeg)]) (S' := S1) (P := vp_in ((nI pre.length) - 1) 3 ∧ True) rfl ⟨(vinN (w := pre.length - 1) (by have := cpos c64; omega) (by decide) (cpred c64 (by omega))), trivial⟩ ?_
        refine fV.to (L' := [(0, .ref 0), (1, .int (nI pre.length)), (2, .int (nI k)), (3, .int (nI w))]) (st' := [.int (nI (fnL pre (pre.length - 1)))]) rfl rfl (by rw [show (gA S1 19 ((nI pre.length) - 1).toNatClampNeg : Int32) = nI (fnL pre (pre.length - 1)) from by rw [cpred c64 (by omega), nI_clamp (by omega)]; exact R.2.2.2.1 _ (by have := cpos c64; omega)]) rfl ?_
        refine fV.run iX7_tryRows_78_1 oX7_tryRows_78_1 (pc' := 79) (L' := [(0, .ref 0), (1, .int (nI pre.length)), (2, .int (nI k)), (3, .int (nI w))]) (st' := [.int (nI w), .int (nI (fnL pre (pre.length - 1)))]) (S' := S1) rfl trivial ?_
        refine fV.icmp_eq bX7_tryRows_79 (fun c79 => ?_) (fun c79 => ?_)
        · refine fV.run iX7_tryRows_103_2 oX7_tryRows_103_2 (pc' := 52) (L' := [(0, .ref 0), (1, .int (nI pre.length)), (2, .int (nI k)), (3, .int ((nI w) + 1))]) (st' := []) (S' := S1) rfl trivial ?_
          refine fV.to (L' := [(0, .ref 0), (1, .int (nI pre.length)), (2, .int (nI k)), (3, .int (nI (w + 1)))]) rfl (by rw [nI_1]) rfl rfl (ih (w + 1) S1 (by omega) hkp ?_)
          have hq : fnL pre (pre.length - 1) = w := (nI_eq (by have := fnL_lt R.2.2.2.2.1 (show pre.length - 1 < pre.length by have := cpos c64; omega); omega) (by omega)).mp c79
          have hp0 : 0 < pre.length := cpos c64
          rw [prt_s, show fX b n pre w = [] from if_pos ((pre_last (by omega)).mpr hq), List.filterMap_nil, List.append_nil]
          exact ⟨HG, hbn, R, F⟩
        · refine fV.run iX7_tryRows_82_6 oX7_tryRows_82_6 (pc' := 92) (L' := [(0, .ref 0), (1, .int (nI pre.length)), (2, .int (nI k)), (3, .int (nI w))]) (st' := [.ref 4, .int (nI w), .int (nI pre.length), .ref 18]) (S' := S1) rfl trivial ?_
          have hnl : ¬ pre.getLast? = some w := by first | (intro y; exact c79 (by rw [(pre_last (by have := cpos c64; omega)).mp y])) | (have h0 : pre = [] := List.length_eq_zero_iff.mp (czero c64 (by omega)); rw [h0]; intro y; cases y)
          refine fV.callV (M2 := mX3_put) (d := d + (n + 1) + 4) (o := 18) (av := [.int (nI pre.length), .int (nI w), .ref 4]) (rest := []) kX3_put dX7_tryRows_92 lX7_249 rfl rfl rfl (Nat.le_of_ble_eq_true rfl) (fRoom (by decide)) ⟨Nat.le_refl _, Nat.le_refl _⟩ (qX3_put (w := w) (i := pre.length) HG (by omega) hb (by omega)) ?_
          rintro _ S9 ⟨rfl, h9⟩
          rw [h9]
          clear h9 S9
          refine fV.to (pc' := 95) (L' := [(0, .ref 0), (1, .int (nI pre.length)), (2, .int (nI k)), (3, .int (nI w))]) (st' := []) (S' := (wA (wA S1 19 (upd (gA S1 19) pre.length (nI w))) 20 (mirA (gA S1 5) w pre.length (pre.length + 1) (gA S1 20)))) rfl rfl rfl rfl ?_
          refine fV.run iX7_tryRows_95_4 oX7_tryRows_95_4 (pc' := 99) (L' := [(0, .ref 0), (1, .int (nI pre.length)), (2, .int (nI k)), (3, .int (nI w))]) (st' := [.int ((nI pre.length) + 1), .ref 0]) (S' := (wA (wA S1 19 (upd (gA S1 19) pre.length (nI w))) 20 (mirA (gA S1 5) w pre.length (pre.length + 1) (gA S1 20)))) rfl trivial ?_
          refine fV.to (L' := [(0, .ref 0), (1, .int (nI pre.length)), (2, .int (nI k)), (3, .int (nI w))]) (st' := [.int (nI (pre ++ [w]).length), .ref 0]) rfl rfl (by rw [show ((nI pre.length) + 1 : Int32) = nI (pre ++ [w]).length from by rw [nI_1, List.length_append]; rfl]) rfl ?_
          refine fV.run iX7_tryRows_99_1 oX7_tryRows_99_1 (pc' := 100) (L' := [(0, .ref 0), (1, .int (nI pre.length)), (2, .int (nI k)), (3, .int (nI w))]) (st' := [.int (nI k), .int (nI (pre ++ [w]).length), .ref 0]) (S' := (wA (wA S1 19 (upd (gA S1 19) pre.length (nI w))) 20 (mirA (gA S1 5) w pre.length (pre.length + 1) (gA S1 20)))) rfl trivial ?_
          refine fV.callV (M2 := mX7_tryRows) (d := d + (n + 1) + 4) (o := 0) (av := [.int (nI (pre ++ [w]).length), .int (nI k)]) (rest := []) kX7_tryRows dX7_tryRows_100 lX7_255 rfl rfl rfl (Nat.le_of_ble_eq_true rfl) (fRoom (by decide)) ⟨Nat.le_refl _, Nat.le_refl _⟩ (IH (d := d) (S := (wA (wA S1 19 (upd (gA S1 19) pre.length (nI w))) 20 (mirA (gA S1 5) w pre.length (pre.length + 1) (gA S1 20)))) (PL := PL ++ prt (gA S 5) b src seat n pre w) (pre := pre ++ [w]) (by rw [show gA (wA (wA S1 19 (upd (gA S1 19) pre.length (nI w))) 20 (mirA (gA S1 5) w pre.length (pre.length + 1) (gA S1 20))) 5 = gA S 5 from hen]; exact hsq) ⟨(geo_wA (by decide) (geo_wA (by decide) HG)), hbn, R.put (by omega) (by omega), F⟩ (by simp; omega) (by have h7 := prt_cap (en := gA S 5) (src := src) (seat := seat) (show w < b by omega) hcap; rw [show fX b n pre w = rowsX b n (pre ++ [w]) from if_neg hnl] at h7; rw [List.length_append]; omega)) ?_
          rintro _ S9 ⟨rfl, hk9, ht9⟩
          have kp2 : kp S1 (wA (wA S1 19 (upd (gA S1 19) pre.length (nI w))) 20 (mirA (gA S1 5) w pre.length (pre.length + 1) (gA S1 20))) := ⟨rfl, rfl, rfl, rfl, rfl, rfl⟩
          have ht9b : fdOk S9 (PL ++ prt (gA S 5) b src seat n pre w ++ pthX (gA S 5) b src seat n (pre ++ [w])) := by
            have h10 := ht9.2.2.2
            rw [show gA (wA (wA S1 19 (upd (gA S1 19) pre.length (nI w))) 20 (mirA (gA S1 5) w pre.length (pre.length + 1) (gA S1 20))) 5 = gA S 5 from hen] at h10
            exact h10
          refine fV.to (pc' := 103) (L' := [(0, .ref 0), (1, .int (nI pre.length)), (2, .int (nI k)), (3, .int (nI w))]) (st' := []) (S' := S9) rfl rfl rfl rfl ?_
          refine fV.run iX7_tryRows_103_2 oX7_tryRows_103_2 (pc' := 52) (L' := [(0, .ref 0), (1, .int (nI pre.length)), (2, .int (nI k)), (3, .int ((nI w) + 1))]) (st' := []) (S' := S9) rfl trivial ?_
          refine fV.to (L' := [(0, .ref 0), (1, .int (nI pre.length)), (2, .int (nI k)), (3, .int (nI (w + 1)))]) rfl (by rw [nI_1]) rfl rfl (ih (w + 1) S9 (by omega) (hkp.tr (kp2.tr hk9)) ?_)
          rw [prt_s, ← List.append_assoc, show fX b n pre w = rowsX b n (pre ++ [w]) from if_neg hnl]
          exact ⟨ht9.1, ht9.2.1, ht9.2.2.1.pre, ht9b⟩
def iX7_tryRows_5_2 : List Instr := [.iload_n 1, .iconst 3]
theorem oX7_tryRows_5_2 : fOkB cX7_tryRows 5 iX7_tryRows_5_2 = true := by decide +kernel
theorem bX7_tryRows_7 : fBk cX7_tryRows 7 (.if_icmp .lt) 50 := ⟨43, by decide +kernel, by decide⟩
def iX7_tryRows_50_2 : List Instr := [.iconst 0, .istore_n 3]
theorem oX7_tryRows_50_2 : fOkB cX7_tryRows 50 iX7_tryRows_50_2 = true := by decide +kernel
set_option maxRecDepth 100000 in
theorem qX7_try {G : fG} {b k : Nat} {src seat : zP} (hb : b ≤ 16) : ∀ (n : Nat) {d : Nat} {S : fS} {PL : List pTh} {pre : List Nat}, (∀ l : List Nat, l.length ≤ 3 → (∀ w ∈ l, w < b) → sqD (gA S 5) src seat l < 1073741824) → tr S b src seat k PL pre → pre.length + n = k → PL.length + (rowsX b n pre).length ≤ 3857 → fCtr G (d + n + 5) mX7_tryRows [.ref 0, .int (nI pre.length), .int (nI k)] S (fun z S' => z = none ∧ kp S S' ∧ tr S' b src seat k (PL ++ pthX (gA S 5) b src seat n pre) pre) := by
  intro n
  induction n with
  | zero =>
    intro d S PL pre hsq T hpk hcap
    exact qX7_try0 hb hsq T (by omega) hcap
  | succ n ih =>
    intro d S PL pre hsq T hpk hcap
    have hk3 : k ≤ 3 := T.2.2.1.2.1
    refine fCtr.of bXX7_tryRows (Nat.le_of_ble_eq_true rfl) rfl ?_
    refine fV.run iX7_tryRows_0_2 oX7_tryRows_0_2 (pc' := 2) (L' := [(0, .ref 0), (1, .int (nI pre.length)), (2, .int (nI k))]) (st' := [.int (nI k), .int (nI pre.length)]) (S' := S) rfl trivial ?_
    refine fV.icmp_ge bX7_tryRows_2 (fun c2 => ?_) (fun c2 => ?_)
    · exact absurd c2 (by rw [nI_leI (by omega) (by omega)]; omega)
    · refine fV.run iX7_tryRows_5_2 oX7_tryRows_5_2 (pc' := 7) (L' := [(0, .ref 0), (1, .int (nI pre.length)), (2, .int (nI k))]) (st' := [.int 3, .int (nI pre.length)]) (S' := S) rfl trivial ?_
      refine fV.icmp_lt bX7_tryRows_7 (fun c7 => ?_) (fun c7 => ?_)
      · refine fV.run iX7_tryRows_50_2 oX7_tryRows_50_2 (pc' := 52) (L' := [(0, .ref 0), (1, .int (nI pre.length)), (2, .int (nI k)), (3, .int 0)]) (st' := []) (S' := S) rfl trivial ?_
        exact lpX7_try hb T.2.2.1.2.1 hsq hpk hcap ih b 0 S (by omega) kp.rf (by simpa [prt] using T)
      · exact absurd c7 (fun z => z ((nI_ltI (b := 3) (by omega) (by decide)).mpr (by omega)))
end
section
/-! bounds of images and of the number of rows -/
theorem line_bd {h : hH} {a b c e : Nat} (H : hOk h a b c e) {w : Nat} (hw : w < b) : 0 ≤ (hLine h.2.1.2.1 w).toInt ∧ (hLine h.2.1.2.1 w).toInt ≤ 1000 := by
  obtain ⟨hb, -⟩ := H.wall hw
  have h0 := hb 0 (by omega)
  have h1 := hb 1 (by omega)
  simp only [Nat.add_zero] at h0
  have t1 : (1000 : Int32).toInt = 1000 := by decide
  have t0 : (0 : Int32).toInt = 0 := by decide
  simp only [t_le, t1, t0] at h0 h1
  unfold hLine
  split <;> omega
theorem img_bd {h : hH} {a b c e : Nat} (H : hOk h a b c e) {src : zP} (hs : (0 ≤ src.1.toInt ∧ src.1.toInt ≤ 1000) ∧ (0 ≤ src.2.toInt ∧ src.2.toInt ≤ 1000)) {r : Nat → Nat} : ∀ (j : Nat), j ≤ 3 → (∀ i, i < j → r i < b) → (-(1000 * (j : Int)) ≤ (imgD h.2.1.2.1 src r j).1.toInt ∧ (imgD h.2.1.2.1 src r j).1.toInt ≤ 1000 * (j + 1)) ∧ (-(1000 * (j : Int)) ≤ (imgD h.2.1.2.1 src r j).2.toInt ∧ (imgD h.2.1.2.1 src r j).2.toInt ≤ 1000 * (j + 1))
  | 0, _, _ => by simp only [imgD]; omega
  | j + 1, hj, hr => by
    obtain ⟨⟨a1, a2⟩, a3, a4⟩ := img_bd H hs (r := r) j (by omega) (fun i hi => hr i (by omega))
    obtain ⟨l1, l2⟩ := line_bd H (hr j (by omega))
    simp only [imgD]
    generalize imgD h.2.1.2.1 src r j = p at *
    have t2 : (2 : Int32).toInt = 2 := by decide
    unfold mirP
    split
    · simp only
      rw [show (2 * hLine h.2.1.2.1 (r j) - p.1).toInt = 2 * (hLine h.2.1.2.1 (r j)).toInt - p.1.toInt from by
        obtain ⟨l1, l2⟩ := line_bd H (hr j (by omega))
        have e1 : (2 * hLine h.2.1.2.1 (r j)).toInt = 2 * (hLine h.2.1.2.1 (r j)).toInt := by rw [i_mul (by rw [t2]; omega) (by rw [t2]; omega), t2]
        rw [i_sub (by omega) (by omega), e1]]
      obtain ⟨l1, l2⟩ := line_bd H (hr j (by omega))
      omega
    · simp only
      rw [show (2 * hLine h.2.1.2.1 (r j) - p.2).toInt = 2 * (hLine h.2.1.2.1 (r j)).toInt - p.2.toInt from by
        obtain ⟨l1, l2⟩ := line_bd H (hr j (by omega))
        have e1 : (2 * hLine h.2.1.2.1 (r j)).toInt = 2 * (hLine h.2.1.2.1 (r j)).toInt := by rw [i_mul (by rw [t2]; omega) (by rw [t2]; omega), t2]
        rw [i_sub (by omega) (by omega), e1]]
      obtain ⟨l1, l2⟩ := line_bd H (hr j (by omega))
      omega
def ptOk (p : zP) : Prop := (0 ≤ p.1.toInt ∧ p.1.toInt ≤ 1000) ∧ (0 ≤ p.2.toInt ∧ p.2.toInt ≤ 1000)
theorem sq_1 {x y : Int32} (h1 : -3000 ≤ x.toInt) (h2 : x.toInt ≤ 4000) (h3 : 0 ≤ y.toInt) (h4 : y.toInt ≤ 1000) : 0 ≤ ((x - y).toInt64 * (x - y).toInt64).toInt ∧ ((x - y).toInt64 * (x - y).toInt64).toInt ≤ 16000000 := by
  have e : (x - y).toInt64.toInt = x.toInt - y.toInt := by rw [Int32.toInt_toInt64, i_sub (by omega) (by omega)]
  generalize (x - y).toInt64 = z at *
  have b1 : -4000 ≤ z.toInt := by omega
  have b2 : z.toInt ≤ 4000 := by omega
  have m1 : 0 ≤ z.toInt * z.toInt := by
    rcases Int.le_total 0 z.toInt with q | q
    · exact Int.mul_nonneg q q
    · exact Int.mul_nonneg_of_nonpos_of_nonpos q q
  have m2 : z.toInt * z.toInt ≤ 16000000 := by
    rcases Int.le_total 0 z.toInt with q | q
    · exact Int.le_trans (Int.mul_le_mul b2 b2 q (by omega)) (by decide)
    · have := Int.mul_le_mul (show -z.toInt ≤ 4000 by omega) (show -z.toInt ≤ 4000 by omega) (by omega) (by omega)
      rw [Int.neg_mul_neg] at this
      omega
  rw [j_mul (by omega) (by omega)]
  exact ⟨m1, m2⟩
theorem sq_bd {h : hH} {a b c e : Nat} (H : hOk h a b c e) {src seat : zP} (hs : ptOk src) (ht : ptOk seat) {l : List Nat} (hl : l.length ≤ 3) (hw : ∀ w ∈ l, w < b) : sqD h.2.1.2.1 src seat l < 1073741824 ∧ 0 ≤ sqD h.2.1.2.1 src seat l := by
  obtain ⟨⟨a1, a2⟩, a3, a4⟩ := img_bd H hs (r := fnL l) l.length hl (fun i hi => fnL_lt hw hi)
  unfold sqD
  generalize imgD h.2.1.2.1 src (fnL l) l.length = p at *
  obtain ⟨q1, q2⟩ := sq_1 (x := p.1) (y := seat.1) (by omega) (by omega) ht.1.1 ht.1.2
  obtain ⟨q3, q4⟩ := sq_1 (x := p.2) (y := seat.2) (by omega) (by omega) ht.2.1 ht.2.2
  have t1 : (1073741824 : Int64).toInt = 1073741824 := by decide
  have t0 : (0 : Int64).toInt = 0 := by decide
  rw [Int64.lt_iff_toInt_lt, Int64.le_iff_toInt_le, j_add (by omega) (by omega), t1, t0]
  omega
theorem len_all {α : Type} (f : Nat → List α) {c : Nat} : ∀ m : Nat, (∀ w, w < m → (f w).length ≤ c) → ((List.range m).flatMap f).length ≤ m * c
  | 0, _ => by simp
  | m + 1, h => by
    have := len_all f m (fun w hw => h w (by omega))
    have h2 := h m (by omega)
    rw [rng_s, List.length_append, Nat.succ_mul]
    omega
theorem len_ex {α : Type} (f : Nat → List α) {c l : Nat} : ∀ m : Nat, l < m → (∀ w, w < m → (f w).length ≤ c) → (f l).length = 0 → ((List.range m).flatMap f).length ≤ (m - 1) * c
  | 0, h, _, _ => absurd h (by omega)
  | m + 1, h, hc, h0 => by
    rw [rng_s, List.length_append, Nat.add_sub_cancel]
    by_cases e : l = m
    · subst e
      have := len_all f l (fun w hw => hc w (by omega))
      omega
    · have := len_ex f m (by omega) (fun w hw => hc w (by omega)) h0
      have h2 := hc m (by omega)
      have h3 : (m - 1) * c + c = m * c := by
        obtain ⟨i, rfl⟩ : ∃ i, m = i + 1 := ⟨m - 1, by omega⟩
        rw [Nat.add_sub_cancel, Nat.succ_mul]
      omega
theorem rows_ne {b : Nat} (hb : b ≤ 16) : ∀ (n : Nat) (pre : List Nat), (∃ l, pre.getLast? = some l ∧ l < b) → (rowsX b n pre).length ≤ 15 ^ n
  | 0, pre, _ => by simp [rowsX]
  | n + 1, pre, ⟨l, h1, h2⟩ => by
    have := len_ex (fun w => if pre.getLast? = some w then [] else rowsX b n (pre ++ [w])) (c := 15 ^ n) (l := l) b h2 (fun w hw => by
      split
      · simp
      · exact rows_ne hb n (pre ++ [w]) ⟨w, by simp, hw⟩) (by simp [h1])
    show ((List.range b).flatMap _).length ≤ _
    refine Nat.le_trans this ?_
    rw [Nat.pow_succ, Nat.mul_comm]
    exact Nat.mul_le_mul_left _ (by omega)
def cumR (n : Nat) : Nat := match n with
  | 0 => 0
  | 1 => 1
  | 2 => 17
  | 3 => 257
  | _ => 3857
theorem rows_0 {b n : Nat} (hb : b ≤ 16) (hn : n ≤ 3) : cumR n + (rowsX b n []).length ≤ cumR (n + 1) := by
  have key : ∀ m, (rowsX b (m + 1) []).length ≤ 16 * 15 ^ m := fun m => by
    have := len_all (fun w => if ([] : List Nat).getLast? = some w then [] else rowsX b m ([] ++ [w])) (c := 15 ^ m) b (fun w hw => by
      split
      · simp
      · exact rows_ne hb m _ ⟨w, by simp, hw⟩)
    exact Nat.le_trans this (Nat.mul_le_mul_right _ hb)
  match n, hn with
  | 0, _ => simp [rowsX, cumR]
  | 1, _ => have : (rowsX b 1 []).length ≤ 16 * 15 ^ 0 := key 0; simp only [cumR]; omega
  | 2, _ => have : (rowsX b 2 []).length ≤ 16 * 15 ^ 1 := key 1; simp only [cumR]; omega
  | 3, _ => have : (rowsX b 3 []).length ≤ 16 * 15 ^ 2 := key 2; simp only [cumR]; omega
noncomputable def plR (en : Nat → Int32) (b : Nat) (src seat : zP) (lo n : Nat) : List pTh := (List.range' lo n).flatMap (fun o => pthX en b src seat o [])
theorem plR_s (en : Nat → Int32) (b : Nat) (src seat : zP) (lo n : Nat) : plR en b src seat lo (n + 1) = plR en b src seat lo n ++ pthX en b src seat (lo + n) [] := by
  unfold plR
  rw [List.range'_1_concat, List.flatMap_append]; simp
theorem rows_mem {b : Nat} : ∀ (n : Nat) (pre : List Nat), (∀ w ∈ pre, w < b) → ∀ l ∈ rowsX b n pre, l.length = pre.length + n ∧ ∀ w ∈ l, w < b
  | 0, pre, h, l, hl => by
    simp only [rowsX, List.mem_singleton] at hl
    subst hl
    exact ⟨rfl, h⟩
  | n + 1, pre, h, l, hl => by
    simp only [rowsX, List.mem_flatMap, List.mem_range] at hl
    obtain ⟨w, hw, hl⟩ := hl
    split at hl
    · cases hl
    · obtain ⟨h1, h2⟩ := rows_mem n (pre ++ [w]) (fun v hv => by
        rcases List.mem_append.mp hv with q | q
        · exact h v q
        · rw [List.mem_singleton.mp q]; exact hw) l hl
      refine ⟨?_, h2⟩
      rw [h1, List.length_append]
      simp only [List.length_cons, List.length_nil]
      omega
theorem pth_mem {en : Nat → Int32} {b : Nat} {src seat : zP} {n : Nat} {x : pTh} (h : x ∈ pthX en b src seat n []) : x.1.length = n ∧ (∀ w ∈ x.1, w < b) ∧ x.2 = sqD en src seat x.1 := by
  unfold pthX at h
  obtain ⟨l, hl, e⟩ := List.mem_filterMap.mp h
  obtain ⟨h1, h2⟩ := rows_mem n [] (fun w hw => by cases hw) l hl
  unfold pOf at e
  split at e
  · cases e
    exact ⟨by simpa using h1, h2, rfl⟩
  · cases e
theorem plR_ok {en : Nat → Int32} {b : Nat} {src seat : zP} {lo n : Nat} (h : lo + n ≤ 4) : plOk b (plR en b src seat lo n) := by
  intro x hx
  unfold plR at hx
  obtain ⟨o, ho, hx⟩ := List.mem_flatMap.mp hx
  obtain ⟨h1, h2, -⟩ := pth_mem hx
  have := List.mem_range'.mp ho
  exact ⟨by omega, h2⟩
theorem plR_len {en : Nat → Int32} {b : Nat} {src seat : zP} (hb : b ≤ 16) {lo : Nat} : ∀ (n : Nat), lo + n ≤ 4 → (plR en b src seat lo n).length ≤ cumR (lo + n)
  | 0, _ => by simp [plR]
  | n + 1, h => by
    have := plR_len (en := en) (src := src) (seat := seat) hb (lo := lo) n (by omega)
    have h2 := rows_0 hb (n := lo + n) (by omega)
    have h3 : (pthX en b src seat (lo + n) []).length ≤ (rowsX b (lo + n) []).length := List.length_filterMap_le _ _
    rw [plR_s, List.length_append, show lo + (n + 1) = lo + n + 1 by omega]
    omega
def iX7_startRoute_0_22 : List Instr := [.aload_n 0, .getfield 42, .aload_n 0, .getfield 28, .getfield 240, .iload_n 1, .iaload, .aload_n 0, .getfield 28, .getfield 243, .iload_n 1, .iaload, .aload_n 0, .getfield 32, .getfield 240, .iload_n 2, .iaload, .aload_n 0, .getfield 32, .getfield 243, .iload_n 2, .iaload]
theorem oX7_startRoute_0_22 : fOkB cX7_startRoute 0 iX7_startRoute_0_22 = true := by decide +kernel
set_option maxRecDepth 100000 in
theorem lX7_246 : Cond.methodLink RX7 246 yX3_start ∈ fTB := fTB_at 438 rfl rfl
theorem dX7_startRoute_40 : decode cX7_startRoute 40 = .ok (.invokevirtual 246, 3) := by decide +kernel
theorem dX7_startRoute_43 : decode cX7_startRoute 43 = .ok (.return_, 1) := by decide +kernel
set_option maxRecDepth 100000 in
theorem qX7_start {G : fG} {d : Nat} {S : fS} {si ei : Nat} (hsi : si < 4) (hei : ei < 8)  : fCtr G (d + 1) mX7_startRoute [.ref 0, .int (nI si), .int (nI ei)] S (fun r S' => r = none ∧ S' = wI (wI (wA S 20 (upd (upd (gA S 20) 0 (gA S 12 si)) 1 (gA S 13 si))) 18 5 (gA S 15 ei)) 18 6 (gA S 16 ei)) := by
  refine fCtr.of bXX7_startRoute (Nat.le_of_ble_eq_true rfl) rfl ?_
  refine fV.run iX7_startRoute_0_22 oX7_startRoute_0_22 (pc' := 40) (L' := [(0, .ref 0), (1, .int (nI si)), (2, .int (nI ei))]) (st' := [.int (gA S 16 (nI ei).toNatClampNeg), .int (gA S 15 (nI ei).toNatClampNeg), .int (gA S 13 (nI si).toNatClampNeg), .int (gA S 12 (nI si).toNatClampNeg), .ref 18]) (S' := S) (P := vp_in (nI si) 4 ∧ vp_in (nI si) 4 ∧ vp_in (nI ei) 8 ∧ vp_in (nI ei) 8 ∧ True) rfl ⟨(vp_in_nI (by omega) (by decide)), (vp_in_nI (by omega) (by decide)), (vp_in_nI (by omega) (by decide)), (vp_in_nI (by omega) (by decide)), trivial⟩ ?_
  refine fV.callV (M2 := mX3_start) (d := d) (o := 18) (av := [.int (gA S 12 (nI si).toNatClampNeg), .int (gA S 13 (nI si).toNatClampNeg), .int (gA S 15 (nI ei).toNatClampNeg), .int (gA S 16 (nI ei).toNatClampNeg)]) (rest := []) kX3_start dX7_startRoute_40 lX7_246 rfl rfl rfl (Nat.le_of_ble_eq_true rfl) (fRoom (by decide)) ⟨Nat.le_refl _, Nat.le_refl _⟩ (qX3_start _ _ _ _) ?_
  rintro _ S9 ⟨rfl, h9⟩
  rw [h9]
  clear h9 S9
  refine fV.to (pc' := 43) (L' := [(0, .ref 0), (1, .int (nI si)), (2, .int (nI ei))]) (st' := []) (S' := (wI (wI (wA S 20 (upd (upd (gA S 20) 0 (gA S 12 (nI si).toNatClampNeg)) 1 (gA S 13 (nI si).toNatClampNeg))) 18 5 (gA S 15 (nI ei).toNatClampNeg)) 18 6 (gA S 16 (nI ei).toNatClampNeg))) rfl rfl rfl rfl ?_
  exact fV.vret rfl dX7_startRoute_43 ⟨rfl, by rw [nI_clamp (by omega), nI_clamp (by omega)]⟩
/-- a state between two orders -/
def bt (S S1 : fS) (b : Nat) (src seat : zP) (PL : List pTh) : Prop := kp S S1 ∧ pA (gA S1 20) 0 = src ∧ (gI S1 18 5, gI S1 18 6) = seat ∧ fdOk S1 PL
theorem bt_tr {S S1 : fS} {b k : Nat} {src seat : zP} {PL : List pTh} (HG : hGeo S b) (hbn : gI S 4 6 = nI b) (h : bt S S1 b src seat PL) (hk : k ≤ 3) : tr (wI S1 18 7 (nI k)) b src seat k PL [] := by
  obtain ⟨h1, h2, h3, h4⟩ := h
  refine ⟨geo_wI (h1.geo HG), ?_, ⟨rfl, hk, by simp, fun i hi => absurd hi (by simp), fun w hw => (by cases hw), fun j hj => ?_, h3⟩, h4⟩
  · show gI S1 4 6 = _
    rw [h1.nw, hbn]
  · obtain rfl : j = 0 := by simpa using hj
    exact h2
theorem src_ok {h : hH} {a b c e si : Nat} (H : hOk h a b c e) (hs : si < c) : ptOk (h.2.2.1.2.1 si, h.2.2.1.2.2.1 si) := by
  obtain ⟨⟨a1, a2⟩, ⟨a3, a4⟩, -⟩ := H.2.2.1.2.2 si hs
  have t1 : (1000 : Int32).toInt = 1000 := by decide
  have t0 : (0 : Int32).toInt = 0 := by decide
  simp only [t_le, t1, t0] at a1 a2 a3 a4
  exact ⟨⟨a1, a2⟩, a3, a4⟩
theorem seat_ok {h : hH} {a b c e ei : Nat} (H : hOk h a b c e) (hs : ei < e) : ptOk (h.2.2.2.1.2.1 ei, h.2.2.2.1.2.2 ei) := by
  obtain ⟨⟨a1, a2⟩, a3, a4⟩ := H.2.2.2.1.2.2 ei hs
  have t1 : (1000 : Int32).toInt = 1000 := by decide
  have t0 : (0 : Int32).toInt = 0 := by decide
  simp only [t_le, t1, t0] at a1 a2 a3 a4
  exact ⟨⟨a1, a2⟩, a3, a4⟩
theorem x_gt {x : Int32} {n m : Nat} (hx : x + 1 = nI n) (h1 : -1 ≤ x) (h2 : x ≤ 3) (hn : n ≤ 4) (hm : m ≤ 4) : x < nI m ↔ n ≤ m := by
  have e : x = nI n - 1 := by rw [← hx, Int32.add_sub_cancel]
  have t1 : (1 : Int32).toInt = 1 := by decide
  have en := nI_toInt (n := n) (by omega)
  have em := nI_toInt (n := m) (by omega)
  have ex : x.toInt = (n : Int) - 1 := by rw [e, i_sub (by omega) (by omega), en, t1]
  rw [t_lt, ex, em]
  omega
theorem qX7_try8 {G : fG} {d : Nat} {S : fS} {b k : Nat} {src seat : zP} {PL : List pTh} (hb : b ≤ 16) (hsq : ∀ l : List Nat, l.length ≤ 3 → (∀ w ∈ l, w < b) → sqD (gA S 5) src seat l < 1073741824) (T : tr S b src seat k PL []) (hcap : PL.length + (rowsX b k []).length ≤ 3857) : fCtr G (d + 8) mX7_tryRows [.ref 0, .int 0, .int (nI k)] S (fun z S' => z = none ∧ kp S S' ∧ tr S' b src seat k (PL ++ pthX (gA S 5) b src seat k []) []) := by
  have hk3 : k ≤ 3 := T.2.2.1.2.1
  have e9 : d + (3 - k) + k + 5 = d + 8 := by omega
  have := qX7_try (G := G) hb k (d := d + (3 - k)) hsq T (by simp) hcap
  rw [e9] at this
  exact this
theorem cum_le (n : Nat) : cumR n ≤ 3857 := by unfold cumR; split <;> omega
def iX7_find_16_2 : List Instr := [.iload 5, .iload 4]
theorem oX7_find_16_2 : fOkB cX7_find 16 iX7_find_16_2 = true := by decide +kernel
theorem bX7_find_20 : fBk cX7_find 20 (.if_icmp .gt) 45 := ⟨25, by decide +kernel, by decide⟩
theorem dX7_find_45 : decode cX7_find 45 = .ok (.return_, 1) := by decide +kernel
def iX7_find_23_7 : List Instr := [.aload_n 0, .getfield 42, .iload 5, .putfield 163, .aload_n 0, .iconst 0, .iload 5]
theorem oX7_find_23_7 : fOkB cX7_find 23 iX7_find_23_7 = true := by decide +kernel
theorem dX7_find_36 : decode cX7_find 36 = .ok (.invokevirtual 255, 3) := by decide +kernel
def iX7_find_39_2 : List Instr := [.iinc 5 1, .goto (-26)]
theorem oX7_find_39_2 : fOkB cX7_find 39 iX7_find_39_2 = true := by decide +kernel
set_option maxRecDepth 100000 in
theorem lpX7_find {G : fG} {d : Nat} {S : fS} {a b c e si ei : Nat} (H : hOk (hC S) a b c e) (HG : hGeo S b) (hsi : si < c) (hei : ei < e) {lo N : Nat} {x : Int32} (hlo : lo + N ≤ 4) (hx : x + 1 = nI (lo + N)) (hx1 : -1 ≤ x) (hx2 : x ≤ 3) : ∀ (j i : Nat) (S1 : fS), i + j = N → bt S S1 b (gA S 12 si, gA S 13 si) (gA S 15 ei, gA S 16 ei) (plR (gA S 5) b (gA S 12 si, gA S 13 si) (gA S 15 ei, gA S 16 ei) lo i) →
    fV G mX7_find (fZm G (d + 9) (fun z S' => z = none ∧ kp S S' ∧ fdOk S' (plR (gA S 5) b (gA S 12 si, gA S 13 si) (gA S 15 ei, gA S 16 ei) lo N))) 16 [(0, .ref 0), (1, .int (nI si)), (2, .int (nI ei)), (3, .int (nI lo)), (4, .int x), (5, .int (nI (lo + i)))] [] S1 := by
  have hb16 : b ≤ 16 := H.2.1.2.1
  have hc4 : c ≤ 4 := H.2.2.1.2.1
  have he8 : e ≤ 8 := H.2.2.2.1.2.1
  have hsq : ∀ l : List Nat, l.length ≤ 3 → (∀ w ∈ l, w < b) → sqD (gA S 5) (gA S 12 si, gA S 13 si) (gA S 15 ei, gA S 16 ei) l < 1073741824 := fun l h1 h2 => (sq_bd H (src_ok H hsi) (seat_ok H hei) h1 h2).1
  intro j
  induction j with
  | zero =>
    intro i S1 hi B
    refine fV.run iX7_find_16_2 oX7_find_16_2 (pc' := 20) (L' := [(0, .ref 0), (1, .int (nI si)), (2, .int (nI ei)), (3, .int (nI lo)), (4, .int x), (5, .int (nI (lo + i)))]) (st' := [.int x, .int (nI (lo + i))]) (S' := S1) rfl trivial ?_
    refine fV.icmp_gt bX7_find_20 (fun c20 => ?_) (fun c20 => ?_)
    · exact fV.vret rfl dX7_find_45 (by obtain rfl : i = N := (by omega); exact ⟨rfl, B.1, B.2.2.2⟩)
    · exact absurd c20 (fun z => z ((x_gt hx hx1 hx2 (by omega) (by omega)).mpr (by omega)))
  | succ j ih =>
    intro i S1 hi B
    refine fV.run iX7_find_16_2 oX7_find_16_2 (pc' := 20) (L' := [(0, .ref 0), (1, .int (nI si)), (2, .int (nI ei)), (3, .int (nI lo)), (4, .int x), (5, .int (nI (lo + i)))]) (st' := [.int x, .int (nI (lo + i))]) (S' := S1) rfl trivial ?_
    refine fV.icmp_gt bX7_find_20 (fun c20 => ?_) (fun c20 => ?_)
    · exact absurd c20 (fun z => by have := (x_gt hx hx1 hx2 (by omega) (by omega)).mp z; omega)
    · refine fV.run iX7_find_23_7 oX7_find_23_7 (pc' := 36) (L' := [(0, .ref 0), (1, .int (nI si)), (2, .int (nI ei)), (3, .int (nI lo)), (4, .int x), (5, .int (nI (lo + i)))]) (st' := [.int (nI (lo + i)), .int 0, .ref 0]) (S' := (wI S1 18 7 (nI (lo + i)))) rfl trivial ?_
      refine fV.callV (M2 := mX7_tryRows) (d := d + 8) (o := 0) (av := [.int 0, .int (nI (lo + i))]) (rest := []) kX7_tryRows dX7_find_36 lX7_255 rfl rfl rfl (Nat.le_of_ble_eq_true rfl) (fRoom (by decide)) ⟨Nat.le_refl _, Nat.le_refl _⟩ (qX7_try8 (k := lo + i) (S := (wI S1 18 7 (nI (lo + i)))) (PL := plR (gA S 5) b (gA S 12 si, gA S 13 si) (gA S 15 ei, gA S 16 ei) lo i) hb16 (by rw [show gA (wI S1 18 7 (nI (lo + i))) 5 = gA S 5 from B.1.en]; exact hsq) (bt_tr HG H.2.1.1 B (by omega)) (by have h7 := plR_len (en := gA S 5) (src := (gA S 12 si, gA S 13 si)) (seat := (gA S 15 ei, gA S 16 ei)) hb16 (lo := lo) i (by omega); have h8 := rows_0 hb16 (n := lo + i) (by omega); have h9 : cumR (lo + i + 1) ≤ 3857 := cum_le _; omega)) ?_
      rintro _ S9 ⟨rfl, hk9, ht9⟩
      have kp2 : kp S1 (wI S1 18 7 (nI (lo + i))) := ⟨rfl, rfl, rfl, rfl, rfl, rfl⟩
      have ht9b : fdOk S9 (plR (gA S 5) b (gA S 12 si, gA S 13 si) (gA S 15 ei, gA S 16 ei) lo (i + 1)) := by
        have h10 := ht9.2.2.2
        rw [show gA (wI S1 18 7 (nI (lo + i))) 5 = gA S 5 from B.1.en] at h10
        rw [plR_s]
        exact h10
      refine fV.to (pc' := 39) (L' := [(0, .ref 0), (1, .int (nI si)), (2, .int (nI ei)), (3, .int (nI lo)), (4, .int x), (5, .int (nI (lo + i)))]) (st' := []) (S' := S9) rfl rfl rfl rfl ?_
      refine fV.run iX7_find_39_2 oX7_find_39_2 (pc' := 16) (L' := [(0, .ref 0), (1, .int (nI si)), (2, .int (nI ei)), (3, .int (nI lo)), (4, .int x), (5, .int ((nI (lo + i)) + 1))]) (st' := []) (S' := S9) rfl trivial ?_
      refine fV.to (L' := [(0, .ref 0), (1, .int (nI si)), (2, .int (nI ei)), (3, .int (nI lo)), (4, .int x), (5, .int (nI (lo + (i + 1))))]) rfl (by rw [nI_1, show lo + i + 1 = lo + (i + 1) by omega]) rfl rfl (ih (i + 1) S9 (by omega) ⟨B.1.tr (kp2.tr hk9), ?_, ?_, ht9b⟩)
      · exact ht9.2.2.1.2.2.2.2.2.1 0 (by simp)
      · exact ht9.2.2.1.2.2.2.2.2.2
def iX7_find_0_2 : List Instr := [.aload_n 0, .getfield 49]
theorem oX7_find_0_2 : fOkB cX7_find 0 iX7_find_0_2 = true := by decide +kernel
set_option maxRecDepth 100000 in
theorem lX7_252 : Cond.methodLink RX7 252 yX1_clear ∈ fTB := fTB_at 430 rfl rfl
theorem dX7_find_4 : decode cX7_find 4 = .ok (.invokevirtual 252, 3) := by decide +kernel
def iX7_find_7_3 : List Instr := [.aload_n 0, .iload_n 1, .iload_n 2]
theorem oX7_find_7_3 : fOkB cX7_find 7 iX7_find_7_3 = true := by decide +kernel
set_option maxRecDepth 100000 in
theorem lX7_159 : Cond.methodLink RX7 159 yX7_startRoute ∈ fTB := fTB_at 434 rfl rfl
theorem dX7_find_10 : decode cX7_find 10 = .ok (.invokevirtual 159, 3) := by decide +kernel
def iX7_find_13_2 : List Instr := [.iload_n 3, .istore 5]
theorem oX7_find_13_2 : fOkB cX7_find 13 iX7_find_13_2 = true := by decide +kernel
set_option maxRecDepth 100000 in
theorem qX7_find {G : fG} {d : Nat} {S : fS} {a b c e si ei : Nat} (H : hOk (hC S) a b c e) (HG : hGeo S b) (hsi : si < c) (hei : ei < e) {lo N : Nat} {x : Int32} (hlo : lo + N ≤ 4) (hx : x + 1 = nI (lo + N)) (hx1 : -1 ≤ x) (hx2 : x ≤ 3)  : fCtr G (d + 9) mX7_find [.ref 0, .int (nI si), .int (nI ei), .int (nI lo), .int x] S (fun z S' => z = none ∧ kp S S' ∧ fdOk S' (plR (gA S 5) b (gA S 12 si, gA S 13 si) (gA S 15 ei, gA S 16 ei) lo N)) := by
  refine fCtr.of bXX7_find (Nat.le_of_ble_eq_true rfl) rfl ?_
  have hb16 : b ≤ 16 := H.2.1.2.1
  have hc4 : c ≤ 4 := H.2.2.1.2.1
  have he8 : e ≤ 8 := H.2.2.2.1.2.1
  have hsq : ∀ l : List Nat, l.length ≤ 3 → (∀ w ∈ l, w < b) → sqD (gA S 5) (gA S 12 si, gA S 13 si) (gA S 15 ei, gA S 16 ei) l < 1073741824 := fun l h1 h2 => (sq_bd H (src_ok H hsi) (seat_ok H hei) h1 h2).1
  refine fV.run iX7_find_0_2 oX7_find_0_2 (pc' := 4) (L' := [(0, .ref 0), (1, .int (nI si)), (2, .int (nI ei)), (3, .int (nI lo)), (4, .int x)]) (st' := [.ref 24]) (S' := S) rfl trivial ?_
  refine fV.callV (M2 := mX1_clear) (d := d + 8) (o := 24) (av := []) (rest := []) kX1_clear dX7_find_4 lX7_252 rfl rfl rfl (Nat.le_of_ble_eq_true rfl) (fRoom (by decide)) ⟨Nat.le_refl _, Nat.le_refl _⟩ (qX1_clear) ?_
  rintro _ S9 ⟨rfl, h9⟩
  rw [h9]
  clear h9 S9
  refine fV.to (pc' := 7) (L' := [(0, .ref 0), (1, .int (nI si)), (2, .int (nI ei)), (3, .int (nI lo)), (4, .int x)]) (st' := []) (S' := (wI (wI S 24 3 0) 24 4 (-1))) rfl rfl rfl rfl ?_
  refine fV.run iX7_find_7_3 oX7_find_7_3 (pc' := 10) (L' := [(0, .ref 0), (1, .int (nI si)), (2, .int (nI ei)), (3, .int (nI lo)), (4, .int x)]) (st' := [.int (nI ei), .int (nI si), .ref 0]) (S' := (wI (wI S 24 3 0) 24 4 (-1))) rfl trivial ?_
  refine fV.callV (M2 := mX7_startRoute) (d := d + 8) (o := 0) (av := [.int (nI si), .int (nI ei)]) (rest := []) kX7_startRoute dX7_find_10 lX7_159 rfl rfl rfl (Nat.le_of_ble_eq_true rfl) (fRoom (by decide)) ⟨Nat.le_refl _, Nat.le_refl _⟩ (qX7_start (S := (wI (wI S 24 3 0) 24 4 (-1))) (si := si) (ei := ei) (by omega) (by omega)) ?_
  rintro _ S9 ⟨rfl, h9⟩
  rw [h9]
  clear h9 S9
  refine fV.to (pc' := 13) (L' := [(0, .ref 0), (1, .int (nI si)), (2, .int (nI ei)), (3, .int (nI lo)), (4, .int x)]) (st' := []) (S' := (wI (wI (wA (wI (wI S 24 3 0) 24 4 (-1)) 20 (upd (upd (gA S 20) 0 (gA S 12 si)) 1 (gA S 13 si))) 18 5 (gA S 15 ei)) 18 6 (gA S 16 ei))) rfl rfl rfl rfl ?_
  refine fV.run iX7_find_13_2 oX7_find_13_2 (pc' := 16) (L' := [(0, .ref 0), (1, .int (nI si)), (2, .int (nI ei)), (3, .int (nI lo)), (4, .int x), (5, .int (nI lo))]) (st' := []) (S' := (wI (wI (wA (wI (wI S 24 3 0) 24 4 (-1)) 20 (upd (upd (gA S 20) 0 (gA S 12 si)) 1 (gA S 13 si))) 18 5 (gA S 15 ei)) 18 6 (gA S 16 ei))) rfl trivial ?_
  refine lpX7_find H HG hsi hei hlo hx hx1 hx2 N 0 _ (by omega) ⟨⟨rfl, rfl, rfl, rfl, rfl, rfl⟩, rfl, rfl, rfl, by simp [plR], rfl, fun i x hx => by simp [plR] at hx⟩
end
section
/-! energies and their sums -/
def plSq (PL : List pTh) : Prop := ∀ x ∈ PL, x.2 < 1073741824 ∧ 0 ≤ x.2
theorem plR_sq {h : hH} {a b c e : Nat} (H : hOk h a b c e) {src seat : zP} (hs : ptOk src) (ht : ptOk seat) {lo n : Nat} (hl : lo + n ≤ 4) : plSq (plR h.2.1.2.1 b src seat lo n) := by
  intro x hx
  have hk := plR_ok (en := h.2.1.2.1) (src := src) (seat := seat) hl x hx
  unfold plR at hx
  obtain ⟨o, ho, hx⟩ := List.mem_flatMap.mp hx
  obtain ⟨h1, h2, h3⟩ := pth_mem hx
  rw [h3]
  exact sq_bd H hs ht hk.1 hk.2
def enI (sh sf : Nat → Int32) (e0 : Int64) (l : List Nat) : Nat → Int64
  | 0 => e0
  | t + 1 => enI sh sf e0 l t * (sh (sf (fnL l t)).toNatClampNeg).toInt64 / 100
def enF (sh sf : Nat → Int32) (pw : Int32) (x : pTh) : Int64 := enI sh sf (pw.toInt64 * 1000000) x.1 x.1.length / (x.2 + 1)
theorem wOf_y {l : List Nat} {t : Nat} (h : ∀ j, j < l.length → fnL l j < 16) (hw : ¬ wOf l t = -1) : wOf l t = nI (fnL l t) ∧ t < l.length := by
  have h1 : t < l.length := by
    rcases Nat.lt_or_ge t l.length with q | q
    · exact q
    · exact absurd ((wOf_n h).mpr q) hw
  exact ⟨if_pos h1, h1⟩
theorem sq_ne {x : Int64} (h : x < 1073741824 ∧ 0 ≤ x) : ¬ x + 1 = 0 := by
  obtain ⟨h1, h2⟩ := h
  grind
theorem take_s {α : Type} {l : List α} {i : Nat} {x : α} (h : l[i]? = some x) : l.take (i + 1) = l.take i ++ [x] := by
  rw [List.take_succ, h]; rfl
def erl (bo ls : Int32) (x : pTh) : Bool := decide (tickF x.2 < ls + bo)
def smE (f : pTh → Int64) (p : pTh → Bool) (PL : List pTh) : Int64 := PL.foldl (fun a x => bif p x then a + f x else a) 0
def smD (f : pTh → Int64) (ls : Int32) (PL : List pTh) : Int64 := PL.foldl (fun a x => a + f x * (tickF x.2 - ls).toInt64) 0
theorem smE_s {f : pTh → Int64} {p : pTh → Bool} {PL : List pTh} {i : Nat} {x : pTh} (h : PL[i]? = some x) : smE f p (PL.take (i + 1)) = bif p x then smE f p (PL.take i) + f x else smE f p (PL.take i) := by
  unfold smE; rw [take_s h, List.foldl_append]; rfl
theorem smD_s {f : pTh → Int64} {ls : Int32} {PL : List pTh} {i : Nat} {x : pTh} (h : PL[i]? = some x) : smD f ls (PL.take (i + 1)) = smD f ls (PL.take i) + f x * (tickF x.2 - ls).toInt64 := by
  unfold smD; rw [take_s h, List.foldl_append]; rfl
def clF (e l : Int64) : Int32 := if e + l = 0 then -1 else (1000 * e / (e + l)).toInt32
def ceF (s d : Int64) : Int64 := if s = 0 then -1 else d / s
theorem wJ_wJ (S : fS) (o k : Nat) (x y : Int64) : wJ (wJ S o k x) o k y = wJ S o k y := by
  have : ∀ (h : Nat → Nat → Int64), fup (fup h o (fup (h o) k x)) o (fup (fup h o (fup (h o) k x) o) k y) = fup h o (fup (h o) k y) := fun h => by
    rw [fup_s, fup2, fup2]
  unfold wJ
  cases Nat.blt o 36 <;> simp only [cond_true, cond_false, this]
def iX7_energyOf_11_2 : List Instr := [.iload 6, .iconst 3]
theorem oX7_energyOf_11_2 : fOkB cX7_energyOf 11 iX7_energyOf_11_2 = true := by decide +kernel
theorem bX7_energyOf_14 : fBk cX7_energyOf 14 (.if_icmp .ge) 66 := ⟨52, by decide +kernel, by decide⟩
def iX7_energyOf_66_6 : List Instr := [.lload 4, .aload_n 0, .getfield 49, .getfield 142, .iload_n 1, .laload]
theorem oX7_energyOf_66_6 : fOkB cX7_energyOf 66 iX7_energyOf_66_6 = true := by decide +kernel
def iX7_energyOf_77_3 : List Instr := [.lconst 1, .ladd, .ldiv]
theorem oX7_energyOf_77_3 : fOkB cX7_energyOf 77 iX7_energyOf_77_3 = true := by decide +kernel
theorem dX7_energyOf_80 : decode cX7_energyOf 80 = .ok (.lreturn, 1) := by decide +kernel
def iX7_energyOf_17_4 : List Instr := [.aload_n 0, .getfield 49, .iload_n 1, .iload 6]
theorem oX7_energyOf_17_4 : fOkB cX7_energyOf 17 iX7_energyOf_17_4 = true := by decide +kernel
set_option maxRecDepth 100000 in
theorem lX7_153 : Cond.methodLink RX7 153 yX1_wallOf ∈ fTB := fTB_at 520 rfl rfl
theorem dX7_energyOf_24 : decode cX7_energyOf 24 = .ok (.invokevirtual 153, 3) := by decide +kernel
def iX7_energyOf_27_3 : List Instr := [.istore 7, .iload 7, .iconst (-1)]
theorem oX7_energyOf_27_3 : fOkB cX7_energyOf 27 iX7_energyOf_27_3 = true := by decide +kernel
theorem bX7_energyOf_32 : fBk cX7_energyOf 32 (.if_icmp .ne) 38 := ⟨6, by decide +kernel, by decide⟩
def iX7_energyOf_38_7 : List Instr := [.lload 4, .aload_n 0, .getfield 10, .getfield 237, .aload_n 3, .iload 7, .iaload]
theorem oX7_energyOf_38_7 : fOkB cX7_energyOf 38 iX7_energyOf_38_7 = true := by decide +kernel
def iX7_energyOf_51_8 : List Instr := [.iaload, .i2l, .lmul, .ldc2_w 266, .ldiv, .lstore 4, .iinc 6 1, .goto (-52)]
theorem oX7_energyOf_51_8 : fOkB cX7_energyOf 51 iX7_energyOf_51_8 = true := by decide +kernel
def iX7_energyOf_35_7 : List Instr := [.goto 31, .lload 4, .aload_n 0, .getfield 49, .getfield 142, .iload_n 1, .laload]
theorem oX7_energyOf_35_7 : fOkB cX7_energyOf 35 iX7_energyOf_35_7 = true := by decide +kernel
set_option maxRecDepth 100000 in
theorem lpX7_en_6 {G : fG} {d : Nat} {S : fS} {b n : Nat} {PL : List pTh} {x : pTh} {pw : Int32} (hb : b ≤ 16) (F : fdOk S PL) (hp : plOk b PL) (hq : plSq PL) (hx : PL[n]? = some x) (hsf : ∀ w, w < b → ∃ j, j < 8 ∧ gA S 6 w = nI j) : ∀ (u t : Nat), t + u = 3 → t ≤ x.1.length → fV G mX7_energyOf (fZm G (d + 2) (fun r S' => r = some (.long (enF (gA S 2) (gA S 6) pw x)) ∧ S' = S)) 11 [(0, .ref 0), (1, .int (nI n)), (2, .int pw), (3, .ref 6), (4, .long (enI (gA S 2) (gA S 6) (Int32.toInt64 pw * 1000000) x.1 t)), (6, .int (nI t))] [] S := by
  have hn : n < PL.length := (List.getElem?_eq_some_iff.mp hx).1
  have hn2 : PL.length ≤ 3857 := F.2.1
  have hp1 := hp x (List.mem_of_getElem? hx)
  have hp2 : ∀ j, j < x.1.length → fnL x.1 j < 16 := fun j hj => Nat.lt_of_lt_of_le (fnL_lt hp1.2 hj) hb
  intro u
  induction u with
  | zero =>
    intro t ht htl
    refine fV.run iX7_energyOf_11_2 oX7_energyOf_11_2 (pc' := 14) (L' := [(0, .ref 0), (1, .int (nI n)), (2, .int pw), (3, .ref 6), (4, .long (enI (gA S 2) (gA S 6) (Int32.toInt64 pw * 1000000) x.1 t)), (6, .int (nI t))]) (st' := [.int 3, .int (nI t)]) (S' := S) rfl trivial ?_
    refine fV.icmp_ge bX7_energyOf_14 (fun c14 => ?_) (fun c14 => ?_)
    · refine fV.run iX7_energyOf_66_6 oX7_energyOf_66_6 (pc' := 77) (L' := [(0, .ref 0), (1, .int (nI n)), (2, .int pw), (3, .ref 6), (4, .long (enI (gA S 2) (gA S 6) (Int32.toInt64 pw * 1000000) x.1 t)), (6, .int (nI t))]) (st' := [.long (gB S 26 (nI n).toNatClampNeg), .long (enI (gA S 2) (gA S 6) (Int32.toInt64 pw * 1000000) x.1 t)]) (S' := S) (P := vp_in (nI n) 3857 ∧ True) rfl ⟨(vp_in_nI (by omega) (by decide)), trivial⟩ ?_
      refine fV.to (L' := [(0, .ref 0), (1, .int (nI n)), (2, .int pw), (3, .ref 6), (4, .long (enI (gA S 2) (gA S 6) (Int32.toInt64 pw * 1000000) x.1 t)), (6, .int (nI t))]) (st' := [.long x.2, .long (enI (gA S 2) (gA S 6) (Int32.toInt64 pw * 1000000) x.1 t)]) rfl rfl (by rw [show (gB S 26 (nI n).toNatClampNeg : Int64) = x.2 from by rw [nI_clamp (by omega)]; exact (F.2.2.2 n x hx).2.1]) rfl ?_
      refine fV.run iX7_energyOf_77_3 oX7_energyOf_77_3 (pc' := 80) (L' := [(0, .ref 0), (1, .int (nI n)), (2, .int pw), (3, .ref 6), (4, .long (enI (gA S 2) (gA S 6) (Int32.toInt64 pw * 1000000) x.1 t)), (6, .int (nI t))]) (st' := [.long ((enI (gA S 2) (gA S 6) (Int32.toInt64 pw * 1000000) x.1 t) / (x.2 + 1))]) (S' := S) (P := ¬ (x.2 + 1) = 0 ∧ True) rfl ⟨(sq_ne (hq x (List.mem_of_getElem? hx))), trivial⟩ ?_
      exact fV.lret rfl dX7_energyOf_80 ⟨by unfold enF; rw [show t = x.1.length by first | omega | (have := (wOf_n hp2).mp c32; omega)], rfl⟩
    · exact absurd c14 (by rw [show (3 : Int32) = nI 3 from rfl, nI_leI (by omega) (by omega)]; omega)
  | succ u ih =>
    intro t ht htl
    refine fV.run iX7_energyOf_11_2 oX7_energyOf_11_2 (pc' := 14) (L' := [(0, .ref 0), (1, .int (nI n)), (2, .int pw), (3, .ref 6), (4, .long (enI (gA S 2) (gA S 6) (Int32.toInt64 pw * 1000000) x.1 t)), (6, .int (nI t))]) (st' := [.int 3, .int (nI t)]) (S' := S) rfl trivial ?_
    refine fV.icmp_ge bX7_energyOf_14 (fun c14 => ?_) (fun c14 => ?_)
    · exact absurd c14 (by rw [show (3 : Int32) = nI 3 from rfl, nI_leI (by omega) (by omega)]; omega)
    · refine fV.run iX7_energyOf_17_4 oX7_energyOf_17_4 (pc' := 24) (L' := [(0, .ref 0), (1, .int (nI n)), (2, .int pw), (3, .ref 6), (4, .long (enI (gA S 2) (gA S 6) (Int32.toInt64 pw * 1000000) x.1 t)), (6, .int (nI t))]) (st' := [.int (nI t), .int (nI n), .ref 24]) (S' := S) rfl trivial ?_
      refine fV.callV (M2 := mX1_wallOf) (d := d + 1) (o := 24) (av := [.int (nI n), .int (nI t)]) (rest := []) kX1_wallOf dX7_energyOf_24 lX7_153 rfl rfl rfl (Nat.le_of_ble_eq_true rfl) (fRoom (by decide)) ⟨Nat.le_refl _, Nat.le_refl _⟩ (qX1_wallOf (t := t) hb F hp hx (by omega)) ?_
      rintro _ S9 ⟨rfl, h9⟩
      rw [h9]
      clear h9 S9
      refine fV.to (pc' := 27) (L' := [(0, .ref 0), (1, .int (nI n)), (2, .int pw), (3, .ref 6), (4, .long (enI (gA S 2) (gA S 6) (Int32.toInt64 pw * 1000000) x.1 t)), (6, .int (nI t))]) (st' := [.int (wOf x.1 t)]) (S' := S) rfl rfl rfl rfl ?_
      refine fV.run iX7_energyOf_27_3 oX7_energyOf_27_3 (pc' := 32) (L' := [(0, .ref 0), (1, .int (nI n)), (2, .int pw), (3, .ref 6), (4, .long (enI (gA S 2) (gA S 6) (Int32.toInt64 pw * 1000000) x.1 t)), (6, .int (nI t)), (7, .int (wOf x.1 t))]) (st' := [.int (-1), .int (wOf x.1 t)]) (S' := S) rfl trivial ?_
      refine fV.icmp_ne bX7_energyOf_32 (fun c32 => ?_) (fun c32 => ?_)
      · refine fV.to (L' := [(0, .ref 0), (1, .int (nI n)), (2, .int pw), (3, .ref 6), (4, .long (enI (gA S 2) (gA S 6) (Int32.toInt64 pw * 1000000) x.1 t)), (6, .int (nI t)), (7, .int (nI (fnL x.1 t)))]) (st' := []) rfl (by rw [show (wOf x.1 t : Int32) = nI (fnL x.1 t) from (wOf_y hp2 c32).1]) rfl rfl ?_
        refine fV.run iX7_energyOf_38_7 oX7_energyOf_38_7 (pc' := 51) (L' := [(0, .ref 0), (1, .int (nI n)), (2, .int pw), (3, .ref 6), (4, .long (enI (gA S 2) (gA S 6) (Int32.toInt64 pw * 1000000) x.1 t)), (6, .int (nI t)), (7, .int (nI (fnL x.1 t)))]) (st' := [.int (gA S 6 (nI (fnL x.1 t)).toNatClampNeg), .ref 2, .long (enI (gA S 2) (gA S 6) (Int32.toInt64 pw * 1000000) x.1 t)]) (S' := S) (P := vp_in (nI (fnL x.1 t)) 16 ∧ True) rfl ⟨(vp_in_nI (hp2 t (wOf_y hp2 c32).2) (by decide)), trivial⟩ ?_
        refine fV.to (L' := [(0, .ref 0), (1, .int (nI n)), (2, .int pw), (3, .ref 6), (4, .long (enI (gA S 2) (gA S 6) (Int32.toInt64 pw * 1000000) x.1 t)), (6, .int (nI t)), (7, .int (nI (fnL x.1 t)))]) (st' := [.int (gA S 6 (fnL x.1 t)), .ref 2, .long (enI (gA S 2) (gA S 6) (Int32.toInt64 pw * 1000000) x.1 t)]) rfl rfl (by rw [show (gA S 6 (nI (fnL x.1 t)).toNatClampNeg : Int32) = gA S 6 (fnL x.1 t) from by rw [nI_clamp (by have := hp2 t (wOf_y hp2 c32).2; omega)]]) rfl ?_
        refine fV.run iX7_energyOf_51_8 oX7_energyOf_51_8 (pc' := 11) (L' := [(0, .ref 0), (1, .int (nI n)), (2, .int pw), (3, .ref 6), (4, .long (((enI (gA S 2) (gA S 6) (Int32.toInt64 pw * 1000000) x.1 t) * (Int32.toInt64 (gA S 2 (gA S 6 (fnL x.1 t)).toNatClampNeg))) / 100)), (6, .int ((nI t) + 1)), (7, .int (nI (fnL x.1 t)))]) (st' := []) (S' := S) (P := vp_in (gA S 6 (fnL x.1 t)) 8 ∧ ¬ 100 = 0 ∧ True) rfl ⟨(by obtain ⟨j, hj, ej⟩ := hsf (fnL x.1 t) (fnL_lt hp1.2 (wOf_y hp2 c32).2); exact vinN (w := j) hj (by decide) ej), (by decide), trivial⟩ ?_
        refine fV.pick (L' := [(0, .ref 0), (1, .int (nI n)), (2, .int pw), (3, .ref 6), (4, .long ((enI (gA S 2) (gA S 6) (Int32.toInt64 pw * 1000000) x.1 t) * (Int32.toInt64 (gA S 2 (gA S 6 (fnL x.1 t)).toNatClampNeg)) / 100)), (6, .int (nI t + 1))]) [0, 1, 2, 3, 4, 5] rfl ?_
        refine fV.to (L' := [(0, .ref 0), (1, .int (nI n)), (2, .int pw), (3, .ref 6), (4, .long (enI (gA S 2) (gA S 6) (Int32.toInt64 pw * 1000000) x.1 (t + 1))), (6, .int (nI (t + 1)))]) rfl (by rw [nI_1]; rfl) rfl rfl (ih (t + 1) (by omega) (by have := (wOf_y hp2 c32).2; omega))
      · refine fV.run iX7_energyOf_35_7 oX7_energyOf_35_7 (pc' := 77) (L' := [(0, .ref 0), (1, .int (nI n)), (2, .int pw), (3, .ref 6), (4, .long (enI (gA S 2) (gA S 6) (Int32.toInt64 pw * 1000000) x.1 t)), (6, .int (nI t)), (7, .int (wOf x.1 t))]) (st' := [.long (gB S 26 (nI n).toNatClampNeg), .long (enI (gA S 2) (gA S 6) (Int32.toInt64 pw * 1000000) x.1 t)]) (S' := S) (P := vp_in (nI n) 3857 ∧ True) rfl ⟨(vp_in_nI (by omega) (by decide)), trivial⟩ ?_
        refine fV.to (L' := [(0, .ref 0), (1, .int (nI n)), (2, .int pw), (3, .ref 6), (4, .long (enI (gA S 2) (gA S 6) (Int32.toInt64 pw * 1000000) x.1 t)), (6, .int (nI t)), (7, .int (wOf x.1 t))]) (st' := [.long x.2, .long (enI (gA S 2) (gA S 6) (Int32.toInt64 pw * 1000000) x.1 t)]) rfl rfl (by rw [show (gB S 26 (nI n).toNatClampNeg : Int64) = x.2 from by rw [nI_clamp (by omega)]; exact (F.2.2.2 n x hx).2.1]) rfl ?_
        refine fV.run iX7_energyOf_77_3 oX7_energyOf_77_3 (pc' := 80) (L' := [(0, .ref 0), (1, .int (nI n)), (2, .int pw), (3, .ref 6), (4, .long (enI (gA S 2) (gA S 6) (Int32.toInt64 pw * 1000000) x.1 t)), (6, .int (nI t)), (7, .int (wOf x.1 t))]) (st' := [.long ((enI (gA S 2) (gA S 6) (Int32.toInt64 pw * 1000000) x.1 t) / (x.2 + 1))]) (S' := S) (P := ¬ (x.2 + 1) = 0 ∧ True) rfl ⟨(sq_ne (hq x (List.mem_of_getElem? hx))), trivial⟩ ?_
        exact fV.lret rfl dX7_energyOf_80 ⟨by unfold enF; rw [show t = x.1.length by first | omega | (have := (wOf_n hp2).mp c32; omega)], rfl⟩
def iX7_energyOf_0_7 : List Instr := [.iload_n 2, .i2l, .ldc2_w 264, .lmul, .lstore 4, .iconst 0, .istore 6]
theorem oX7_energyOf_0_7 : fOkB cX7_energyOf 0 iX7_energyOf_0_7 = true := by decide +kernel
set_option maxRecDepth 100000 in
theorem qX7_en_6 {G : fG} {d : Nat} {S : fS} {b n : Nat} {PL : List pTh} {x : pTh} {pw : Int32} (hb : b ≤ 16) (F : fdOk S PL) (hp : plOk b PL) (hq : plSq PL) (hx : PL[n]? = some x) (hsf : ∀ w, w < b → ∃ j, j < 8 ∧ gA S 6 w = nI j)  : fCtr G (d + 2) mX7_energyOf [.ref 0, .int (nI n), .int pw, .ref 6] S (fun r S' => r = some (.long (enF (gA S 2) (gA S 6) pw x)) ∧ S' = S) := by
  refine fCtr.of bXX7_energyOf (Nat.le_of_ble_eq_true rfl) rfl ?_
  refine fV.run iX7_energyOf_0_7 oX7_energyOf_0_7 (pc' := 11) (L' := [(0, .ref 0), (1, .int (nI n)), (2, .int pw), (3, .ref 6), (4, .long ((Int32.toInt64 pw) * 1000000)), (6, .int 0)]) (st' := []) (S' := S) rfl trivial ?_
  exact lpX7_en_6 hb F hp hq hx hsf 3 0 (by omega) (by omega)
set_option maxRecDepth 100000 in
theorem lpX7_en_31 {G : fG} {d : Nat} {S : fS} {b n : Nat} {PL : List pTh} {x : pTh} {pw : Int32} (hb : b ≤ 16) (F : fdOk S PL) (hp : plOk b PL) (hq : plSq PL) (hx : PL[n]? = some x) (hsf : ∀ w, w < b → ∃ j, j < 8 ∧ gA S 31 w = nI j) : ∀ (u t : Nat), t + u = 3 → t ≤ x.1.length → fV G mX7_energyOf (fZm G (d + 2) (fun r S' => r = some (.long (enF (gA S 2) (gA S 31) pw x)) ∧ S' = S)) 11 [(0, .ref 0), (1, .int (nI n)), (2, .int pw), (3, .ref 31), (4, .long (enI (gA S 2) (gA S 31) (Int32.toInt64 pw * 1000000) x.1 t)), (6, .int (nI t))] [] S := by
  have hn : n < PL.length := (List.getElem?_eq_some_iff.mp hx).1
  have hn2 : PL.length ≤ 3857 := F.2.1
  have hp1 := hp x (List.mem_of_getElem? hx)
  have hp2 : ∀ j, j < x.1.length → fnL x.1 j < 16 := fun j hj => Nat.lt_of_lt_of_le (fnL_lt hp1.2 hj) hb
  intro u
  induction u with
  | zero =>
    intro t ht htl
    refine fV.run iX7_energyOf_11_2 oX7_energyOf_11_2 (pc' := 14) (L' := [(0, .ref 0), (1, .int (nI n)), (2, .int pw), (3, .ref 31), (4, .long (enI (gA S 2) (gA S 31) (Int32.toInt64 pw * 1000000) x.1 t)), (6, .int (nI t))]) (st' := [.int 3, .int (nI t)]) (S' := S) rfl trivial ?_
    refine fV.icmp_ge bX7_energyOf_14 (fun c14 => ?_) (fun c14 => ?_)
    · refine fV.run iX7_energyOf_66_6 oX7_energyOf_66_6 (pc' := 77) (L' := [(0, .ref 0), (1, .int (nI n)), (2, .int pw), (3, .ref 31), (4, .long (enI (gA S 2) (gA S 31) (Int32.toInt64 pw * 1000000) x.1 t)), (6, .int (nI t))]) (st' := [.long (gB S 26 (nI n).toNatClampNeg), .long (enI (gA S 2) (gA S 31) (Int32.toInt64 pw * 1000000) x.1 t)]) (S' := S) (P := vp_in (nI n) 3857 ∧ True) rfl ⟨(vp_in_nI (by omega) (by decide)), trivial⟩ ?_
      refine fV.to (L' := [(0, .ref 0), (1, .int (nI n)), (2, .int pw), (3, .ref 31), (4, .long (enI (gA S 2) (gA S 31) (Int32.toInt64 pw * 1000000) x.1 t)), (6, .int (nI t))]) (st' := [.long x.2, .long (enI (gA S 2) (gA S 31) (Int32.toInt64 pw * 1000000) x.1 t)]) rfl rfl (by rw [show (gB S 26 (nI n).toNatClampNeg : Int64) = x.2 from by rw [nI_clamp (by omega)]; exact (F.2.2.2 n x hx).2.1]) rfl ?_
      refine fV.run iX7_energyOf_77_3 oX7_energyOf_77_3 (pc' := 80) (L' := [(0, .ref 0), (1, .int (nI n)), (2, .int pw), (3, .ref 31), (4, .long (enI (gA S 2) (gA S 31) (Int32.toInt64 pw * 1000000) x.1 t)), (6, .int (nI t))]) (st' := [.long ((enI (gA S 2) (gA S 31) (Int32.toInt64 pw * 1000000) x.1 t) / (x.2 + 1))]) (S' := S) (P := ¬ (x.2 + 1) = 0 ∧ True) rfl ⟨(sq_ne (hq x (List.mem_of_getElem? hx))), trivial⟩ ?_
      exact fV.lret rfl dX7_energyOf_80 ⟨by unfold enF; rw [show t = x.1.length by first | omega | (have := (wOf_n hp2).mp c32; omega)], rfl⟩
    · exact absurd c14 (by rw [show (3 : Int32) = nI 3 from rfl, nI_leI (by omega) (by omega)]; omega)
  | succ u ih =>
    intro t ht htl
    refine fV.run iX7_energyOf_11_2 oX7_energyOf_11_2 (pc' := 14) (L' := [(0, .ref 0), (1, .int (nI n)), (2, .int pw), (3, .ref 31), (4, .long (enI (gA S 2) (gA S 31) (Int32.toInt64 pw * 1000000) x.1 t)), (6, .int (nI t))]) (st' := [.int 3, .int (nI t)]) (S' := S) rfl trivial ?_
    refine fV.icmp_ge bX7_energyOf_14 (fun c14 => ?_) (fun c14 => ?_)
    · exact absurd c14 (by rw [show (3 : Int32) = nI 3 from rfl, nI_leI (by omega) (by omega)]; omega)
    · refine fV.run iX7_energyOf_17_4 oX7_energyOf_17_4 (pc' := 24) (L' := [(0, .ref 0), (1, .int (nI n)), (2, .int pw), (3, .ref 31), (4, .long (enI (gA S 2) (gA S 31) (Int32.toInt64 pw * 1000000) x.1 t)), (6, .int (nI t))]) (st' := [.int (nI t), .int (nI n), .ref 24]) (S' := S) rfl trivial ?_
      refine fV.callV (M2 := mX1_wallOf) (d := d + 1) (o := 24) (av := [.int (nI n), .int (nI t)]) (rest := []) kX1_wallOf dX7_energyOf_24 lX7_153 rfl rfl rfl (Nat.le_of_ble_eq_true rfl) (fRoom (by decide)) ⟨Nat.le_refl _, Nat.le_refl _⟩ (qX1_wallOf (t := t) hb F hp hx (by omega)) ?_
      rintro _ S9 ⟨rfl, h9⟩
      rw [h9]
      clear h9 S9
      refine fV.to (pc' := 27) (L' := [(0, .ref 0), (1, .int (nI n)), (2, .int pw), (3, .ref 31), (4, .long (enI (gA S 2) (gA S 31) (Int32.toInt64 pw * 1000000) x.1 t)), (6, .int (nI t))]) (st' := [.int (wOf x.1 t)]) (S' := S) rfl rfl rfl rfl ?_
      refine fV.run iX7_energyOf_27_3 oX7_energyOf_27_3 (pc' := 32) (L' := [(0, .ref 0), (1, .int (nI n)), (2, .int pw), (3, .ref 31), (4, .long (enI (gA S 2) (gA S 31) (Int32.toInt64 pw * 1000000) x.1 t)), (6, .int (nI t)), (7, .int (wOf x.1 t))]) (st' := [.int (-1), .int (wOf x.1 t)]) (S' := S) rfl trivial ?_
      refine fV.icmp_ne bX7_energyOf_32 (fun c32 => ?_) (fun c32 => ?_)
      · refine fV.to (L' := [(0, .ref 0), (1, .int (nI n)), (2, .int pw), (3, .ref 31), (4, .long (enI (gA S 2) (gA S 31) (Int32.toInt64 pw * 1000000) x.1 t)), (6, .int (nI t)), (7, .int (nI (fnL x.1 t)))]) (st' := []) rfl (by rw [show (wOf x.1 t : Int32) = nI (fnL x.1 t) from (wOf_y hp2 c32).1]) rfl rfl ?_
        refine fV.run iX7_energyOf_38_7 oX7_energyOf_38_7 (pc' := 51) (L' := [(0, .ref 0), (1, .int (nI n)), (2, .int pw), (3, .ref 31), (4, .long (enI (gA S 2) (gA S 31) (Int32.toInt64 pw * 1000000) x.1 t)), (6, .int (nI t)), (7, .int (nI (fnL x.1 t)))]) (st' := [.int (gA S 31 (nI (fnL x.1 t)).toNatClampNeg), .ref 2, .long (enI (gA S 2) (gA S 31) (Int32.toInt64 pw * 1000000) x.1 t)]) (S' := S) (P := vp_in (nI (fnL x.1 t)) 16 ∧ True) rfl ⟨(vp_in_nI (hp2 t (wOf_y hp2 c32).2) (by decide)), trivial⟩ ?_
        refine fV.to (L' := [(0, .ref 0), (1, .int (nI n)), (2, .int pw), (3, .ref 31), (4, .long (enI (gA S 2) (gA S 31) (Int32.toInt64 pw * 1000000) x.1 t)), (6, .int (nI t)), (7, .int (nI (fnL x.1 t)))]) (st' := [.int (gA S 31 (fnL x.1 t)), .ref 2, .long (enI (gA S 2) (gA S 31) (Int32.toInt64 pw * 1000000) x.1 t)]) rfl rfl (by rw [show (gA S 31 (nI (fnL x.1 t)).toNatClampNeg : Int32) = gA S 31 (fnL x.1 t) from by rw [nI_clamp (by have := hp2 t (wOf_y hp2 c32).2; omega)]]) rfl ?_
        refine fV.run iX7_energyOf_51_8 oX7_energyOf_51_8 (pc' := 11) (L' := [(0, .ref 0), (1, .int (nI n)), (2, .int pw), (3, .ref 31), (4, .long (((enI (gA S 2) (gA S 31) (Int32.toInt64 pw * 1000000) x.1 t) * (Int32.toInt64 (gA S 2 (gA S 31 (fnL x.1 t)).toNatClampNeg))) / 100)), (6, .int ((nI t) + 1)), (7, .int (nI (fnL x.1 t)))]) (st' := []) (S' := S) (P := vp_in (gA S 31 (fnL x.1 t)) 8 ∧ ¬ 100 = 0 ∧ True) rfl ⟨(by obtain ⟨j, hj, ej⟩ := hsf (fnL x.1 t) (fnL_lt hp1.2 (wOf_y hp2 c32).2); exact vinN (w := j) hj (by decide) ej), (by decide), trivial⟩ ?_
        refine fV.pick (L' := [(0, .ref 0), (1, .int (nI n)), (2, .int pw), (3, .ref 31), (4, .long ((enI (gA S 2) (gA S 31) (Int32.toInt64 pw * 1000000) x.1 t) * (Int32.toInt64 (gA S 2 (gA S 31 (fnL x.1 t)).toNatClampNeg)) / 100)), (6, .int (nI t + 1))]) [0, 1, 2, 3, 4, 5] rfl ?_
        refine fV.to (L' := [(0, .ref 0), (1, .int (nI n)), (2, .int pw), (3, .ref 31), (4, .long (enI (gA S 2) (gA S 31) (Int32.toInt64 pw * 1000000) x.1 (t + 1))), (6, .int (nI (t + 1)))]) rfl (by rw [nI_1]; rfl) rfl rfl (ih (t + 1) (by omega) (by have := (wOf_y hp2 c32).2; omega))
      · refine fV.run iX7_energyOf_35_7 oX7_energyOf_35_7 (pc' := 77) (L' := [(0, .ref 0), (1, .int (nI n)), (2, .int pw), (3, .ref 31), (4, .long (enI (gA S 2) (gA S 31) (Int32.toInt64 pw * 1000000) x.1 t)), (6, .int (nI t)), (7, .int (wOf x.1 t))]) (st' := [.long (gB S 26 (nI n).toNatClampNeg), .long (enI (gA S 2) (gA S 31) (Int32.toInt64 pw * 1000000) x.1 t)]) (S' := S) (P := vp_in (nI n) 3857 ∧ True) rfl ⟨(vp_in_nI (by omega) (by decide)), trivial⟩ ?_
        refine fV.to (L' := [(0, .ref 0), (1, .int (nI n)), (2, .int pw), (3, .ref 31), (4, .long (enI (gA S 2) (gA S 31) (Int32.toInt64 pw * 1000000) x.1 t)), (6, .int (nI t)), (7, .int (wOf x.1 t))]) (st' := [.long x.2, .long (enI (gA S 2) (gA S 31) (Int32.toInt64 pw * 1000000) x.1 t)]) rfl rfl (by rw [show (gB S 26 (nI n).toNatClampNeg : Int64) = x.2 from by rw [nI_clamp (by omega)]; exact (F.2.2.2 n x hx).2.1]) rfl ?_
        refine fV.run iX7_energyOf_77_3 oX7_energyOf_77_3 (pc' := 80) (L' := [(0, .ref 0), (1, .int (nI n)), (2, .int pw), (3, .ref 31), (4, .long (enI (gA S 2) (gA S 31) (Int32.toInt64 pw * 1000000) x.1 t)), (6, .int (nI t)), (7, .int (wOf x.1 t))]) (st' := [.long ((enI (gA S 2) (gA S 31) (Int32.toInt64 pw * 1000000) x.1 t) / (x.2 + 1))]) (S' := S) (P := ¬ (x.2 + 1) = 0 ∧ True) rfl ⟨(sq_ne (hq x (List.mem_of_getElem? hx))), trivial⟩ ?_
        exact fV.lret rfl dX7_energyOf_80 ⟨by unfold enF; rw [show t = x.1.length by first | omega | (have := (wOf_n hp2).mp c32; omega)], rfl⟩
set_option maxRecDepth 100000 in
theorem qX7_en_31 {G : fG} {d : Nat} {S : fS} {b n : Nat} {PL : List pTh} {x : pTh} {pw : Int32} (hb : b ≤ 16) (F : fdOk S PL) (hp : plOk b PL) (hq : plSq PL) (hx : PL[n]? = some x) (hsf : ∀ w, w < b → ∃ j, j < 8 ∧ gA S 31 w = nI j)  : fCtr G (d + 2) mX7_energyOf [.ref 0, .int (nI n), .int pw, .ref 31] S (fun r S' => r = some (.long (enF (gA S 2) (gA S 31) pw x)) ∧ S' = S) := by
  refine fCtr.of bXX7_energyOf (Nat.le_of_ble_eq_true rfl) rfl ?_
  refine fV.run iX7_energyOf_0_7 oX7_energyOf_0_7 (pc' := 11) (L' := [(0, .ref 0), (1, .int (nI n)), (2, .int pw), (3, .ref 31), (4, .long ((Int32.toInt64 pw) * 1000000)), (6, .int 0)]) (st' := []) (S' := S) rfl trivial ?_
  exact lpX7_en_31 hb F hp hq hx hsf 3 0 (by omega) (by omega)
def iX7_isEarly_0_5 : List Instr := [.aload_n 0, .getfield 49, .getfield 150, .iload_n 1, .iaload]
theorem oX7_isEarly_0_5 : fOkB cX7_isEarly 0 iX7_isEarly_0_5 = true := by decide +kernel
def iX7_isEarly_9_5 : List Instr := [.aload_n 0, .getfield 49, .getfield 197, .aload_n 0, .getfield 71]
theorem oX7_isEarly_9_5 : fOkB cX7_isEarly 9 iX7_isEarly_9_5 = true := by decide +kernel
def iX7_isEarly_20_1 : List Instr := [.iadd]
theorem oX7_isEarly_20_1 : fOkB cX7_isEarly 20 iX7_isEarly_20_1 = true := by decide +kernel
theorem bX7_isEarly_21 : fBk cX7_isEarly 21 (.if_icmp .ge) 28 := ⟨7, by decide +kernel, by decide⟩
def iX7_isEarly_28_1 : List Instr := [.iconst 0]
theorem oX7_isEarly_28_1 : fOkB cX7_isEarly 28 iX7_isEarly_28_1 = true := by decide +kernel
theorem dX7_isEarly_29 : decode cX7_isEarly 29 = .ok (.ireturn, 1) := by decide +kernel
def iX7_isEarly_24_2 : List Instr := [.iconst 1, .goto 4]
theorem oX7_isEarly_24_2 : fOkB cX7_isEarly 24 iX7_isEarly_24_2 = true := by decide +kernel
set_option maxRecDepth 100000 in
theorem qX7_early {G : fG} {d : Nat} {S : fS} {n : Nat} {PL : List pTh} {x : pTh} (F : fdOk S PL) (hx : PL[n]? = some x)  : fCtr G (d) mX7_isEarly [.ref 0, .int (nI n)] S (fun r S' => r = some (.int (fB (erl (gI S 0 10) (leastF PL) x))) ∧ S' = S) := by
  refine fCtr.of bXX7_isEarly (Nat.le_of_ble_eq_true rfl) rfl ?_
  have hn : n < PL.length := (List.getElem?_eq_some_iff.mp hx).1
  have hn2 : PL.length ≤ 3857 := F.2.1
  refine fV.run iX7_isEarly_0_5 oX7_isEarly_0_5 (pc' := 9) (L' := [(0, .ref 0), (1, .int (nI n))]) (st' := [.int (gA S 27 (nI n).toNatClampNeg)]) (S' := S) (P := vp_in (nI n) 3857 ∧ True) rfl ⟨(vp_in_nI (by omega) (by decide)), trivial⟩ ?_
  refine fV.to (L' := [(0, .ref 0), (1, .int (nI n))]) (st' := [.int (tickF x.2)]) rfl rfl (by rw [show (gA S 27 (nI n).toNatClampNeg : Int32) = tickF x.2 from by rw [nI_clamp (by omega)]; exact (F.2.2.2 n x hx).2.2]) rfl ?_
  refine fV.run iX7_isEarly_9_5 oX7_isEarly_9_5 (pc' := 20) (L' := [(0, .ref 0), (1, .int (nI n))]) (st' := [.int (gI S 0 10), .int (gI S 24 4), .int (tickF x.2)]) (S' := S) rfl trivial ?_
  refine fV.to (L' := [(0, .ref 0), (1, .int (nI n))]) (st' := [.int (gI S 0 10), .int (leastF PL), .int (tickF x.2)]) rfl rfl (by rw [show ((gI S 24 4) : Int32) = leastF PL from F.2.2.1]) rfl ?_
  refine fV.run iX7_isEarly_20_1 oX7_isEarly_20_1 (pc' := 21) (L' := [(0, .ref 0), (1, .int (nI n))]) (st' := [.int ((leastF PL) + (gI S 0 10)), .int (tickF x.2)]) (S' := S) rfl trivial ?_
  refine fV.icmp_ge bX7_isEarly_21 (fun c21 => ?_) (fun c21 => ?_)
  · refine fV.run iX7_isEarly_28_1 oX7_isEarly_28_1 (pc' := 29) (L' := [(0, .ref 0), (1, .int (nI n))]) (st' := [.int 0]) (S' := S) rfl trivial ?_
    exact fV.zret rfl dX7_isEarly_29 (by decide) ⟨fBf (by grind), rfl⟩
  · refine fV.run iX7_isEarly_24_2 oX7_isEarly_24_2 (pc' := 29) (L' := [(0, .ref 0), (1, .int (nI n))]) (st' := [.int 1]) (S' := S) rfl trivial ?_
    exact fV.zret rfl dX7_isEarly_29 (by decide) ⟨fBt (by grind), rfl⟩
def iX5_clear_0_9 : List Instr := [.aload_n 0, .lconst 0, .putfield 7, .aload_n 0, .lconst 0, .putfield 13, .aload_n 0, .lconst 0, .putfield 16]
theorem oX5_clear_0_9 : fOkB cX5_clear 0 iX5_clear_0_9 = true := by decide +kernel
theorem dX5_clear_15 : decode cX5_clear 15 = .ok (.return_, 1) := by decide +kernel
set_option maxRecDepth 100000 in
theorem qX5_clear {G : fG} {d : Nat} {S : fS}   : fCtr G (d) mX5_clear [.ref 28] S (fun r S' => r = none ∧ S' = wJ (wJ (wJ S 28 0 0) 28 1 0) 28 2 0) := by
  refine fCtr.of bXX5_clear (Nat.le_of_ble_eq_true rfl) rfl ?_
  refine fV.run iX5_clear_0_9 oX5_clear_0_9 (pc' := 15) (L' := [(0, .ref 28)]) (st' := []) (S' := (wJ (wJ (wJ S 28 0 0) 28 1 0) 28 2 0)) rfl trivial ?_
  exact fV.vret rfl dX5_clear_15 ⟨rfl, rfl⟩
def iX7_clarityOf_0_7 : List Instr := [.lload_n 0, .lload_n 2, .ladd, .lstore 4, .lload 4, .lconst 0, .lcmp]
theorem oX7_clarityOf_0_7 : fOkB cX7_clarityOf 0 iX7_clarityOf_0_7 = true := by decide +kernel
theorem bX7_clarityOf_9 : fBk cX7_clarityOf 9 (.ifCond .ne) 16 := ⟨7, by decide +kernel, by decide⟩
def iX7_clarityOf_16_6 : List Instr := [.ldc2_w 202, .lload_n 0, .lmul, .lload 4, .ldiv, .l2i]
theorem oX7_clarityOf_16_6 : fOkB cX7_clarityOf 16 iX7_clarityOf_16_6 = true := by decide +kernel
theorem dX7_clarityOf_25 : decode cX7_clarityOf 25 = .ok (.ireturn, 1) := by decide +kernel
def iX7_clarityOf_12_2 : List Instr := [.iconst (-1), .goto 12]
theorem oX7_clarityOf_12_2 : fOkB cX7_clarityOf 12 iX7_clarityOf_12_2 = true := by decide +kernel
set_option maxRecDepth 100000 in
theorem qX7_cl {G : fG} {d : Nat} {S : fS} (u v : Int64)  : fCtr G (d) mX7_clarityOf [.long u, .long v] S (fun r S' => r = some (.int (clF u v)) ∧ S' = S) := by
  refine fCtr.of bXX7_clarityOf (Nat.le_of_ble_eq_true rfl) rfl ?_
  refine fV.run iX7_clarityOf_0_7 oX7_clarityOf_0_7 (pc' := 9) (L' := [(0, .long u), (2, .long v), (4, .long (u + v))]) (st' := [.int (lg_cmp (u + v) 0)]) (S' := S) rfl trivial ?_
  refine fV.lif_ne bX7_clarityOf_9 (fun c9 => ?_) (fun c9 => ?_)
  · refine fV.run iX7_clarityOf_16_6 oX7_clarityOf_16_6 (pc' := 25) (L' := [(0, .long u), (2, .long v), (4, .long (u + v))]) (st' := [.int (Int64.toInt32 ((1000 * u) / (u + v)))]) (S' := S) (P := ¬ (u + v) = 0 ∧ True) rfl ⟨c9, trivial⟩ ?_
    exact fV.iret rfl dX7_clarityOf_25 ⟨by unfold clF; rw [if_neg c9], rfl⟩
  · refine fV.run iX7_clarityOf_12_2 oX7_clarityOf_12_2 (pc' := 25) (L' := [(0, .long u), (2, .long v), (4, .long (u + v))]) (st' := [.int (-1)]) (S' := S) rfl trivial ?_
    exact fV.iret rfl dX7_clarityOf_25 ⟨by unfold clF; rw [if_pos c9], rfl⟩
def iX7_centreOf_0_3 : List Instr := [.lload_n 0, .lconst 0, .lcmp]
theorem oX7_centreOf_0_3 : fOkB cX7_centreOf 0 iX7_centreOf_0_3 = true := by decide +kernel
theorem bX7_centreOf_3 : fBk cX7_centreOf 3 (.ifCond .ne) 12 := ⟨9, by decide +kernel, by decide⟩
def iX7_centreOf_12_3 : List Instr := [.lload_n 2, .lload_n 0, .ldiv]
theorem oX7_centreOf_12_3 : fOkB cX7_centreOf 12 iX7_centreOf_12_3 = true := by decide +kernel
theorem dX7_centreOf_15 : decode cX7_centreOf 15 = .ok (.lreturn, 1) := by decide +kernel
def iX7_centreOf_6_2 : List Instr := [.ldc2_w 137, .goto 6]
theorem oX7_centreOf_6_2 : fOkB cX7_centreOf 6 iX7_centreOf_6_2 = true := by decide +kernel
set_option maxRecDepth 100000 in
theorem qX7_ce {G : fG} {d : Nat} {S : fS} (u v : Int64)  : fCtr G (d) mX7_centreOf [.long u, .long v] S (fun r S' => r = some (.long (ceF u v)) ∧ S' = S) := by
  refine fCtr.of bXX7_centreOf (Nat.le_of_ble_eq_true rfl) rfl ?_
  refine fV.run iX7_centreOf_0_3 oX7_centreOf_0_3 (pc' := 3) (L' := [(0, .long u), (2, .long v)]) (st' := [.int (lg_cmp u 0)]) (S' := S) rfl trivial ?_
  refine fV.lif_ne bX7_centreOf_3 (fun c3 => ?_) (fun c3 => ?_)
  · refine fV.run iX7_centreOf_12_3 oX7_centreOf_12_3 (pc' := 15) (L' := [(0, .long u), (2, .long v)]) (st' := [.long (v / u)]) (S' := S) (P := ¬ u = 0 ∧ True) rfl ⟨c3, trivial⟩ ?_
    exact fV.lret rfl dX7_centreOf_15 ⟨by unfold ceF; rw [if_neg c3], rfl⟩
  · refine fV.run iX7_centreOf_6_2 oX7_centreOf_6_2 (pc' := 15) (L' := [(0, .long u), (2, .long v)]) (st' := [.long (-1)]) (S' := S) rfl trivial ?_
    exact fV.lret rfl dX7_centreOf_15 ⟨by unfold ceF; rw [if_pos c3], rfl⟩
theorem wJ_comm (S : fS) (o : Nat) {k k2 : Nat} (h : k ≠ k2) (x y : Int64) : wJ (wJ S o k x) o k2 y = wJ (wJ S o k2 y) o k x := by
  have : ∀ (f : Nat → Nat → Int64), fup (fup f o (fup (f o) k x)) o (fup (fup f o (fup (f o) k x) o) k2 y) = fup (fup f o (fup (f o) k2 y)) o (fup (fup f o (fup (f o) k2 y) o) k x) := fun f => by
    rw [fup_s, fup_s, fup2, fup2, fupc _ h]
  unfold wJ
  cases Nat.blt o 36 <;> simp only [cond_true, cond_false, this]
theorem sU_c (S : fS) (a b c a2 b2 c2 : Int64) : (wJ (wJ (wJ (wJ (wJ S 28 0 a) 28 1 b) 28 2 c) 28 0 a2) 28 2 c2 = wJ (wJ (wJ S 28 0 a2) 28 1 b) 28 2 c2) ∧ (wJ (wJ (wJ (wJ (wJ S 28 0 a) 28 1 b) 28 2 c) 28 1 b2) 28 2 c2 = wJ (wJ (wJ S 28 0 a) 28 1 b2) 28 2 c2) := by
  constructor
  · rw [wJ_comm (wJ (wJ S 28 0 a) 28 1 b) 28 (show 2 ≠ 0 by decide), wJ_wJ, wJ_comm (wJ S 28 0 a) 28 (show 1 ≠ 0 by decide), wJ_wJ]
  · rw [wJ_comm (wJ (wJ S 28 0 a) 28 1 b) 28 (show 2 ≠ 1 by decide), wJ_wJ, wJ_wJ]
def iX7_sumUp_9_4 : List Instr := [.iload_n 2, .aload_n 0, .getfield 49, .getfield 132]
theorem oX7_sumUp_9_4 : fOkB cX7_sumUp 9 iX7_sumUp_9_4 = true := by decide +kernel
theorem bX7_sumUp_17 : fBk cX7_sumUp 17 (.if_icmp .ge) 109 := ⟨92, by decide +kernel, by decide⟩
theorem dX7_sumUp_109 : decode cX7_sumUp 109 = .ok (.return_, 1) := by decide +kernel
def iX7_sumUp_20_6 : List Instr := [.aload_n 0, .iload_n 2, .iload_n 1, .aload_n 0, .getfield 19, .getfield 94]
theorem oX7_sumUp_20_6 : fOkB cX7_sumUp 20 iX7_sumUp_20_6 = true := by decide +kernel
set_option maxRecDepth 100000 in
theorem lX7_146 : Cond.methodLink RX7 146 yX7_energyOf ∈ fTB := fTB_at 515 rfl rfl
theorem dX7_sumUp_30 : decode cX7_sumUp 30 = .ok (.invokevirtual 146, 3) := by decide +kernel
def iX7_sumUp_33_3 : List Instr := [.lstore_n 3, .aload_n 0, .iload_n 2]
theorem oX7_sumUp_33_3 : fOkB cX7_sumUp 33 iX7_sumUp_33_3 = true := by decide +kernel
set_option maxRecDepth 100000 in
theorem lX7_269 : Cond.methodLink RX7 269 yX7_isEarly ∈ fTB := fTB_at 546 rfl rfl
theorem dX7_sumUp_36 : decode cX7_sumUp 36 = .ok (.invokevirtual 269, 3) := by decide +kernel
theorem bX7_sumUp_39 : fBk cX7_sumUp 39 (.ifCond .eq) 58 := ⟨19, by decide +kernel, by decide⟩
def iX7_sumUp_58_17 : List Instr := [.aload_n 0, .getfield 56, .dup, .getfield 183, .lload_n 3, .ladd, .putfield 183, .aload_n 0, .getfield 56, .dup, .getfield 190, .lload_n 3, .aload_n 0, .getfield 49, .getfield 150, .iload_n 2, .iaload]
theorem oX7_sumUp_58_17 : fOkB cX7_sumUp 58 iX7_sumUp_58_17 = true := by decide +kernel
def iX7_sumUp_89_3 : List Instr := [.aload_n 0, .getfield 49, .getfield 197]
theorem oX7_sumUp_89_3 : fOkB cX7_sumUp 89 iX7_sumUp_89_3 = true := by decide +kernel
def iX7_sumUp_96_7 : List Instr := [.isub, .i2l, .lmul, .ladd, .putfield 190, .iinc 2 1, .goto (-97)]
theorem oX7_sumUp_96_7 : fOkB cX7_sumUp 96 iX7_sumUp_96_7 = true := by decide +kernel
def iX7_sumUp_42_18 : List Instr := [.aload_n 0, .getfield 56, .dup, .getfield 179, .lload_n 3, .ladd, .putfield 179, .goto 16, .aload_n 0, .getfield 56, .dup, .getfield 190, .lload_n 3, .aload_n 0, .getfield 49, .getfield 150, .iload_n 2, .iaload]
theorem oX7_sumUp_42_18 : fOkB cX7_sumUp 42 iX7_sumUp_42_18 = true := by decide +kernel
set_option maxRecDepth 100000 in
theorem lpX7_sum {G : fG} {d : Nat} {S : fS} {b : Nat} {PL : List pTh} {pw : Int32} (hb : b ≤ 16) (F : fdOk S PL) (hp : plOk b PL) (hq : plSq PL) (hsf : ∀ w, w < b → ∃ j, j < 8 ∧ gA S 6 w = nI j) : ∀ (u i : Nat), i + u = PL.length → fV G mX7_sumUp (fZm G (d + 3) (fun r S' => r = none ∧ S' = wJ (wJ (wJ S 28 0 (smE (enF (gA S 2) (gA S 6) pw) (erl (gI S 0 10) (leastF PL)) PL)) 28 1 (smE (enF (gA S 2) (gA S 6) pw) (fun x => !(erl (gI S 0 10) (leastF PL)) x) PL)) 28 2 (smD (enF (gA S 2) (gA S 6) pw) (leastF PL) PL))) 9 [(0, .ref 0), (1, .int pw), (2, .int (nI i))] [] (wJ (wJ (wJ S 28 0 (smE (enF (gA S 2) (gA S 6) pw) (erl (gI S 0 10) (leastF PL)) (PL.take i))) 28 1 (smE (enF (gA S 2) (gA S 6) pw) (fun x => !(erl (gI S 0 10) (leastF PL)) x) (PL.take i))) 28 2 (smD (enF (gA S 2) (gA S 6) pw) (leastF PL) (PL.take i))) := by
  have hl : PL.length ≤ 3857 := F.2.1
  intro u
  induction u with
  | zero =>
    intro i hi
    refine fV.run iX7_sumUp_9_4 oX7_sumUp_9_4 (pc' := 17) (L' := [(0, .ref 0), (1, .int pw), (2, .int (nI i))]) (st' := [.int (gI S 24 3), .int (nI i)]) (S' := (wJ (wJ (wJ S 28 0 (smE (enF (gA S 2) (gA S 6) pw) (erl (gI S 0 10) (leastF PL)) (PL.take i))) 28 1 (smE (enF (gA S 2) (gA S 6) pw) (fun x => !(erl (gI S 0 10) (leastF PL)) x) (PL.take i))) 28 2 (smD (enF (gA S 2) (gA S 6) pw) (leastF PL) (PL.take i)))) rfl trivial ?_
    refine fV.icmp_ge bX7_sumUp_17 (fun c17 => ?_) (fun c17 => ?_)
    · exact fV.vret rfl dX7_sumUp_109 ⟨rfl, by rw [List.take_of_length_le (by omega)]⟩
    · exact absurd c17 (by rw [F.1, nI_leI (by omega) (by omega)]; omega)
  | succ u ih =>
    intro i hi
    obtain ⟨x, hx⟩ : ∃ x, PL[i]? = some x := ⟨_, List.getElem?_eq_getElem (by omega)⟩
    refine fV.run iX7_sumUp_9_4 oX7_sumUp_9_4 (pc' := 17) (L' := [(0, .ref 0), (1, .int pw), (2, .int (nI i))]) (st' := [.int (gI S 24 3), .int (nI i)]) (S' := (wJ (wJ (wJ S 28 0 (smE (enF (gA S 2) (gA S 6) pw) (erl (gI S 0 10) (leastF PL)) (PL.take i))) 28 1 (smE (enF (gA S 2) (gA S 6) pw) (fun x => !(erl (gI S 0 10) (leastF PL)) x) (PL.take i))) 28 2 (smD (enF (gA S 2) (gA S 6) pw) (leastF PL) (PL.take i)))) rfl trivial ?_
    refine fV.icmp_ge bX7_sumUp_17 (fun c17 => ?_) (fun c17 => ?_)
    · exact absurd c17 (by rw [F.1, nI_leI (by omega) (by omega)]; omega)
    · refine fV.run iX7_sumUp_20_6 oX7_sumUp_20_6 (pc' := 30) (L' := [(0, .ref 0), (1, .int pw), (2, .int (nI i))]) (st' := [.ref 6, .int pw, .int (nI i), .ref 0]) (S' := (wJ (wJ (wJ S 28 0 (smE (enF (gA S 2) (gA S 6) pw) (erl (gI S 0 10) (leastF PL)) (PL.take i))) 28 1 (smE (enF (gA S 2) (gA S 6) pw) (fun x => !(erl (gI S 0 10) (leastF PL)) x) (PL.take i))) 28 2 (smD (enF (gA S 2) (gA S 6) pw) (leastF PL) (PL.take i)))) rfl trivial ?_
      refine fV.callV (M2 := mX7_energyOf) (d := d + 2) (o := 0) (av := [.int (nI i), .int pw, .ref 6]) (rest := []) kX7_energyOf dX7_sumUp_30 lX7_146 rfl rfl rfl (Nat.le_of_ble_eq_true rfl) (fRoom (by decide)) ⟨Nat.le_refl _, Nat.le_refl _⟩ (qX7_en_6 (S := (wJ (wJ (wJ S 28 0 (smE (enF (gA S 2) (gA S 6) pw) (erl (gI S 0 10) (leastF PL)) (PL.take i))) 28 1 (smE (enF (gA S 2) (gA S 6) pw) (fun x => !(erl (gI S 0 10) (leastF PL)) x) (PL.take i))) 28 2 (smD (enF (gA S 2) (gA S 6) pw) (leastF PL) (PL.take i)))) hb F hp hq hx hsf) ?_
      rintro _ S9 ⟨rfl, h9⟩
      rw [h9]
      clear h9 S9
      refine fV.to (pc' := 33) (L' := [(0, .ref 0), (1, .int pw), (2, .int (nI i))]) (st' := [.long (enF (gA S 2) (gA S 6) pw x)]) (S' := (wJ (wJ (wJ S 28 0 (smE (enF (gA S 2) (gA S 6) pw) (erl (gI S 0 10) (leastF PL)) (PL.take i))) 28 1 (smE (enF (gA S 2) (gA S 6) pw) (fun x => !(erl (gI S 0 10) (leastF PL)) x) (PL.take i))) 28 2 (smD (enF (gA S 2) (gA S 6) pw) (leastF PL) (PL.take i)))) rfl rfl rfl rfl ?_
      refine fV.run iX7_sumUp_33_3 oX7_sumUp_33_3 (pc' := 36) (L' := [(0, .ref 0), (1, .int pw), (2, .int (nI i)), (3, .long (enF (gA S 2) (gA S 6) pw x))]) (st' := [.int (nI i), .ref 0]) (S' := (wJ (wJ (wJ S 28 0 (smE (enF (gA S 2) (gA S 6) pw) (erl (gI S 0 10) (leastF PL)) (PL.take i))) 28 1 (smE (enF (gA S 2) (gA S 6) pw) (fun x => !(erl (gI S 0 10) (leastF PL)) x) (PL.take i))) 28 2 (smD (enF (gA S 2) (gA S 6) pw) (leastF PL) (PL.take i)))) rfl trivial ?_
      refine fV.callV (M2 := mX7_isEarly) (d := d + 2) (o := 0) (av := [.int (nI i)]) (rest := []) kX7_isEarly dX7_sumUp_36 lX7_269 rfl rfl rfl (Nat.le_of_ble_eq_true rfl) (fRoom (by decide)) ⟨Nat.le_refl _, Nat.le_refl _⟩ (qX7_early (S := (wJ (wJ (wJ S 28 0 (smE (enF (gA S 2) (gA S 6) pw) (erl (gI S 0 10) (leastF PL)) (PL.take i))) 28 1 (smE (enF (gA S 2) (gA S 6) pw) (fun x => !(erl (gI S 0 10) (leastF PL)) x) (PL.take i))) 28 2 (smD (enF (gA S 2) (gA S 6) pw) (leastF PL) (PL.take i)))) F hx) ?_
      rintro _ S9 ⟨rfl, h9⟩
      rw [h9]
      clear h9 S9
      refine fV.to (pc' := 39) (L' := [(0, .ref 0), (1, .int pw), (2, .int (nI i)), (3, .long (enF (gA S 2) (gA S 6) pw x))]) (st' := [.int (fB (erl (gI S 0 10) (leastF PL) x))]) (S' := (wJ (wJ (wJ S 28 0 (smE (enF (gA S 2) (gA S 6) pw) (erl (gI S 0 10) (leastF PL)) (PL.take i))) 28 1 (smE (enF (gA S 2) (gA S 6) pw) (fun x => !(erl (gI S 0 10) (leastF PL)) x) (PL.take i))) 28 2 (smD (enF (gA S 2) (gA S 6) pw) (leastF PL) (PL.take i)))) rfl rfl rfl rfl ?_
      refine fV.if_eq bX7_sumUp_39 (fun c39 => ?_) (fun c39 => ?_)
      · refine fV.run iX7_sumUp_58_17 oX7_sumUp_58_17 (pc' := 89) (L' := [(0, .ref 0), (1, .int pw), (2, .int (nI i)), (3, .long (enF (gA S 2) (gA S 6) pw x))]) (st' := [.int (gA S 27 (nI i).toNatClampNeg), .long (enF (gA S 2) (gA S 6) pw x), .long (smD (enF (gA S 2) (gA S 6) pw) (leastF PL) (PL.take i)), .ref 28]) (S' := (wJ (wJ (wJ (wJ S 28 0 (smE (enF (gA S 2) (gA S 6) pw) (erl (gI S 0 10) (leastF PL)) (PL.take i))) 28 1 (smE (enF (gA S 2) (gA S 6) pw) (fun x => !(erl (gI S 0 10) (leastF PL)) x) (PL.take i))) 28 2 (smD (enF (gA S 2) (gA S 6) pw) (leastF PL) (PL.take i))) 28 1 ((smE (enF (gA S 2) (gA S 6) pw) (fun x => !(erl (gI S 0 10) (leastF PL)) x) (PL.take i)) + (enF (gA S 2) (gA S 6) pw x)))) (P := vp_in (nI i) 3857 ∧ True) rfl ⟨(vp_in_nI (by omega) (by decide)), trivial⟩ ?_
        refine fV.to (L' := [(0, .ref 0), (1, .int pw), (2, .int (nI i)), (3, .long (enF (gA S 2) (gA S 6) pw x))]) (st' := [.int (tickF x.2), .long (enF (gA S 2) (gA S 6) pw x), .long (smD (enF (gA S 2) (gA S 6) pw) (leastF PL) (PL.take i)), .ref 28]) rfl rfl (by rw [show (gA S 27 (nI i).toNatClampNeg : Int32) = tickF x.2 from by rw [nI_clamp (by omega)]; exact (F.2.2.2 i x hx).2.2]) rfl ?_
        refine fV.run iX7_sumUp_89_3 oX7_sumUp_89_3 (pc' := 96) (L' := [(0, .ref 0), (1, .int pw), (2, .int (nI i)), (3, .long (enF (gA S 2) (gA S 6) pw x))]) (st' := [.int (gI S 24 4), .int (tickF x.2), .long (enF (gA S 2) (gA S 6) pw x), .long (smD (enF (gA S 2) (gA S 6) pw) (leastF PL) (PL.take i)), .ref 28]) (S' := (wJ (wJ (wJ (wJ S 28 0 (smE (enF (gA S 2) (gA S 6) pw) (erl (gI S 0 10) (leastF PL)) (PL.take i))) 28 1 (smE (enF (gA S 2) (gA S 6) pw) (fun x => !(erl (gI S 0 10) (leastF PL)) x) (PL.take i))) 28 2 (smD (enF (gA S 2) (gA S 6) pw) (leastF PL) (PL.take i))) 28 1 ((smE (enF (gA S 2) (gA S 6) pw) (fun x => !(erl (gI S 0 10) (leastF PL)) x) (PL.take i)) + (enF (gA S 2) (gA S 6) pw x)))) rfl trivial ?_
        refine fV.to (L' := [(0, .ref 0), (1, .int pw), (2, .int (nI i)), (3, .long (enF (gA S 2) (gA S 6) pw x))]) (st' := [.int (leastF PL), .int (tickF x.2), .long (enF (gA S 2) (gA S 6) pw x), .long (smD (enF (gA S 2) (gA S 6) pw) (leastF PL) (PL.take i)), .ref 28]) rfl rfl (by rw [show ((gI S 24 4) : Int32) = leastF PL from F.2.2.1]) rfl ?_
        refine fV.run iX7_sumUp_96_7 oX7_sumUp_96_7 (pc' := 9) (L' := [(0, .ref 0), (1, .int pw), (2, .int ((nI i) + 1)), (3, .long (enF (gA S 2) (gA S 6) pw x))]) (st' := []) (S' := (wJ (wJ (wJ (wJ (wJ S 28 0 (smE (enF (gA S 2) (gA S 6) pw) (erl (gI S 0 10) (leastF PL)) (PL.take i))) 28 1 (smE (enF (gA S 2) (gA S 6) pw) (fun x => !(erl (gI S 0 10) (leastF PL)) x) (PL.take i))) 28 2 (smD (enF (gA S 2) (gA S 6) pw) (leastF PL) (PL.take i))) 28 1 ((smE (enF (gA S 2) (gA S 6) pw) (fun x => !(erl (gI S 0 10) (leastF PL)) x) (PL.take i)) + (enF (gA S 2) (gA S 6) pw x))) 28 2 ((smD (enF (gA S 2) (gA S 6) pw) (leastF PL) (PL.take i)) + ((enF (gA S 2) (gA S 6) pw x) * (Int32.toInt64 ((tickF x.2) - (leastF PL))))))) rfl trivial ?_
        refine fV.pick (L' := [(0, .ref 0), (1, .int pw), (2, .int (nI i + 1))]) [0, 1, 2] rfl ?_
        refine fV.to (L' := [(0, .ref 0), (1, .int pw), (2, .int (nI (i + 1)))]) rfl (by rw [nI_1]) rfl ?_ (ih (i + 1) (by omega))
        rw [(sU_c S _ _ _ 0 _ _).2, smE_s hx, smE_s hx, smD_s hx, fB0.mp c39]
        rfl
      · refine fV.run iX7_sumUp_42_18 oX7_sumUp_42_18 (pc' := 89) (L' := [(0, .ref 0), (1, .int pw), (2, .int (nI i)), (3, .long (enF (gA S 2) (gA S 6) pw x))]) (st' := [.int (gA S 27 (nI i).toNatClampNeg), .long (enF (gA S 2) (gA S 6) pw x), .long (smD (enF (gA S 2) (gA S 6) pw) (leastF PL) (PL.take i)), .ref 28]) (S' := (wJ (wJ (wJ (wJ S 28 0 (smE (enF (gA S 2) (gA S 6) pw) (erl (gI S 0 10) (leastF PL)) (PL.take i))) 28 1 (smE (enF (gA S 2) (gA S 6) pw) (fun x => !(erl (gI S 0 10) (leastF PL)) x) (PL.take i))) 28 2 (smD (enF (gA S 2) (gA S 6) pw) (leastF PL) (PL.take i))) 28 0 ((smE (enF (gA S 2) (gA S 6) pw) (erl (gI S 0 10) (leastF PL)) (PL.take i)) + (enF (gA S 2) (gA S 6) pw x)))) (P := vp_in (nI i) 3857 ∧ True) rfl ⟨(vp_in_nI (by omega) (by decide)), trivial⟩ ?_
        refine fV.to (L' := [(0, .ref 0), (1, .int pw), (2, .int (nI i)), (3, .long (enF (gA S 2) (gA S 6) pw x))]) (st' := [.int (tickF x.2), .long (enF (gA S 2) (gA S 6) pw x), .long (smD (enF (gA S 2) (gA S 6) pw) (leastF PL) (PL.take i)), .ref 28]) rfl rfl (by rw [show (gA S 27 (nI i).toNatClampNeg : Int32) = tickF x.2 from by rw [nI_clamp (by omega)]; exact (F.2.2.2 i x hx).2.2]) rfl ?_
        refine fV.run iX7_sumUp_89_3 oX7_sumUp_89_3 (pc' := 96) (L' := [(0, .ref 0), (1, .int pw), (2, .int (nI i)), (3, .long (enF (gA S 2) (gA S 6) pw x))]) (st' := [.int (gI S 24 4), .int (tickF x.2), .long (enF (gA S 2) (gA S 6) pw x), .long (smD (enF (gA S 2) (gA S 6) pw) (leastF PL) (PL.take i)), .ref 28]) (S' := (wJ (wJ (wJ (wJ S 28 0 (smE (enF (gA S 2) (gA S 6) pw) (erl (gI S 0 10) (leastF PL)) (PL.take i))) 28 1 (smE (enF (gA S 2) (gA S 6) pw) (fun x => !(erl (gI S 0 10) (leastF PL)) x) (PL.take i))) 28 2 (smD (enF (gA S 2) (gA S 6) pw) (leastF PL) (PL.take i))) 28 0 ((smE (enF (gA S 2) (gA S 6) pw) (erl (gI S 0 10) (leastF PL)) (PL.take i)) + (enF (gA S 2) (gA S 6) pw x)))) rfl trivial ?_
        refine fV.to (L' := [(0, .ref 0), (1, .int pw), (2, .int (nI i)), (3, .long (enF (gA S 2) (gA S 6) pw x))]) (st' := [.int (leastF PL), .int (tickF x.2), .long (enF (gA S 2) (gA S 6) pw x), .long (smD (enF (gA S 2) (gA S 6) pw) (leastF PL) (PL.take i)), .ref 28]) rfl rfl (by rw [show ((gI S 24 4) : Int32) = leastF PL from F.2.2.1]) rfl ?_
        refine fV.run iX7_sumUp_96_7 oX7_sumUp_96_7 (pc' := 9) (L' := [(0, .ref 0), (1, .int pw), (2, .int ((nI i) + 1)), (3, .long (enF (gA S 2) (gA S 6) pw x))]) (st' := []) (S' := (wJ (wJ (wJ (wJ (wJ S 28 0 (smE (enF (gA S 2) (gA S 6) pw) (erl (gI S 0 10) (leastF PL)) (PL.take i))) 28 1 (smE (enF (gA S 2) (gA S 6) pw) (fun x => !(erl (gI S 0 10) (leastF PL)) x) (PL.take i))) 28 2 (smD (enF (gA S 2) (gA S 6) pw) (leastF PL) (PL.take i))) 28 0 ((smE (enF (gA S 2) (gA S 6) pw) (erl (gI S 0 10) (leastF PL)) (PL.take i)) + (enF (gA S 2) (gA S 6) pw x))) 28 2 ((smD (enF (gA S 2) (gA S 6) pw) (leastF PL) (PL.take i)) + ((enF (gA S 2) (gA S 6) pw x) * (Int32.toInt64 ((tickF x.2) - (leastF PL))))))) rfl trivial ?_
        refine fV.pick (L' := [(0, .ref 0), (1, .int pw), (2, .int (nI i + 1))]) [0, 1, 2] rfl ?_
        refine fV.to (L' := [(0, .ref 0), (1, .int pw), (2, .int (nI (i + 1)))]) rfl (by rw [nI_1]) rfl ?_ (ih (i + 1) (by omega))
        rw [(sU_c S _ _ _ _ 0 _).1, smE_s hx, smE_s hx, smD_s hx, fBn.mp c39]
        rfl
def iX7_sumUp_0_2 : List Instr := [.aload_n 0, .getfield 56]
theorem oX7_sumUp_0_2 : fOkB cX7_sumUp 0 iX7_sumUp_0_2 = true := by decide +kernel
set_option maxRecDepth 100000 in
theorem lX7_268 : Cond.methodLink RX7 268 yX5_clear ∈ fTB := fTB_at 542 rfl rfl
theorem dX7_sumUp_4 : decode cX7_sumUp 4 = .ok (.invokevirtual 268, 3) := by decide +kernel
def iX7_sumUp_7_2 : List Instr := [.iconst 0, .istore_n 2]
theorem oX7_sumUp_7_2 : fOkB cX7_sumUp 7 iX7_sumUp_7_2 = true := by decide +kernel
set_option maxRecDepth 100000 in
theorem qX7_sumUp {G : fG} {d : Nat} {S : fS} {b : Nat} {PL : List pTh} {pw : Int32} (hb : b ≤ 16) (F : fdOk S PL) (hp : plOk b PL) (hq : plSq PL) (hsf : ∀ w, w < b → ∃ j, j < 8 ∧ gA S 6 w = nI j)  : fCtr G (d + 3) mX7_sumUp [.ref 0, .int pw] S (fun r S' => r = none ∧ S' = wJ (wJ (wJ S 28 0 (smE (enF (gA S 2) (gA S 6) pw) (erl (gI S 0 10) (leastF PL)) PL)) 28 1 (smE (enF (gA S 2) (gA S 6) pw) (fun x => !(erl (gI S 0 10) (leastF PL)) x) PL)) 28 2 (smD (enF (gA S 2) (gA S 6) pw) (leastF PL) PL)) := by
  refine fCtr.of bXX7_sumUp (Nat.le_of_ble_eq_true rfl) rfl ?_
  refine fV.run iX7_sumUp_0_2 oX7_sumUp_0_2 (pc' := 4) (L' := [(0, .ref 0), (1, .int pw)]) (st' := [.ref 28]) (S' := S) rfl trivial ?_
  refine fV.callV (M2 := mX5_clear) (d := d + 2) (o := 28) (av := []) (rest := []) kX5_clear dX7_sumUp_4 lX7_268 rfl rfl rfl (Nat.le_of_ble_eq_true rfl) (fRoom (by decide)) ⟨Nat.le_refl _, Nat.le_refl _⟩ (qX5_clear) ?_
  rintro _ S9 ⟨rfl, h9⟩
  rw [h9]
  clear h9 S9
  refine fV.to (pc' := 7) (L' := [(0, .ref 0), (1, .int pw)]) (st' := []) (S' := (wJ (wJ (wJ S 28 0 0) 28 1 0) 28 2 0)) rfl rfl rfl rfl ?_
  refine fV.run iX7_sumUp_7_2 oX7_sumUp_7_2 (pc' := 9) (L' := [(0, .ref 0), (1, .int pw), (2, .int 0)]) (st' := []) (S' := (wJ (wJ (wJ S 28 0 0) 28 1 0) 28 2 0)) rfl trivial ?_
  exact lpX7_sum hb F hp hq hsf PL.length 0 (by omega)
end
section
/-! what is asked of paths and of what is heard: on the hall -/
def hSrc (h : hH) (s : Nat) : zP := (h.2.2.1.2.1 s, h.2.2.1.2.2.1 s)
def hSeat (h : hH) (t : Nat) : zP := (h.2.2.2.1.2.1 t, h.2.2.2.1.2.2 t)
abbrev thr (h : hH) (x y : Int32) : Prop := (0 ≤ x ∧ x < h.2.2.1.1) ∧ (0 ≤ y ∧ y < h.2.2.2.1.1)
noncomputable def plM (h : hH) (b s t : Nat) : List pTh := plR h.2.1.2.1 b (hSrc h s) (hSeat h t) 0 (h.2.2.2.2.1.toNatClampNeg + 1)
def enH (h : hH) (s : Nat) : pTh → Int64 := enF h.1.2.1 h.2.1.2.2 (h.2.2.1.2.2.2 s)
noncomputable def erH (h : hH) (b s t : Nat) : pTh → Bool := erl h.2.2.2.2.2 (leastF (plM h b s t))
noncomputable def eS (h : hH) (b s t : Nat) : Int64 := smE (enH h s) (erH h b s t) (plM h b s t)
noncomputable def lS (h : hH) (b s t : Nat) : Int64 := smE (enH h s) (fun x => !erH h b s t x) (plM h b s t)
noncomputable def dS (h : hH) (b s t : Nat) : Int64 := smD (enH h s) (leastF (plM h b s t)) (plM h b s t)
noncomputable def hrd (h : hH) (b s t : Nat) (q : Int32) : Int64 := if q = 0 then eS h b s t else if q = 1 then lS h b s t else if q = 2 then (clF (eS h b s t) (lS h b s t)).toInt64 else if q = 3 then ceF (eS h b s t + lS h b s t) (dS h b s t) else (leastF (plM h b s t)).toInt64
noncomputable def oPaths (h : hH) (b : Nat) (x y k : Int32) : Int32 := if thr h x y then (if -1 ≤ k ∧ k ≤ 3 then (if k = -1 then nI (plM h b x.toNatClampNeg y.toNatClampNeg).length else nI (plR h.2.1.2.1 b (hSrc h x.toNatClampNeg) (hSeat h y.toNatClampNeg) k.toNatClampNeg 1).length) else -1002) else -1001
noncomputable def pthA (h : hH) (b s t : Nat) (i q : Int32) : Int64 := match (plM h b s t)[i.toNatClampNeg]? with
  | none => -1
  | some x => if q = 0 then (nI x.1.length).toInt64 else if q = 4 then x.2 else if q = 5 then enH h s x else if q = 6 then (tickF x.2).toInt64 else (wOf x.1 (q - 1).toNatClampNeg).toInt64
noncomputable def oPath (h : hH) (b : Nat) (x y i q : Int32) : Int64 := if thr h x y then (if 0 ≤ q ∧ q ≤ 6 then (if 0 ≤ i then pthA h b x.toNatClampNeg y.toNatClampNeg i q else -1) else -1002) else -1001
noncomputable def oHeard (h : hH) (b : Nat) (x y q : Int32) : Int64 := if thr h x y then (if 0 ≤ q ∧ q ≤ 4 then hrd h b x.toNatClampNeg y.toNatClampNeg q else -1002) else -1001
noncomputable def atS (h : hH) (b s t : Nat) (q : Int32) : Int64 := smE (enH h s) (fun x => decide (tickF x.2 = q)) (plM h b s t)
noncomputable def oAt (h : hH) (b : Nat) (x y q : Int32) : Int64 := if thr h x y then (if 0 ≤ q ∧ q ≤ 300 then atS h b x.toNatClampNeg y.toNatClampNeg q else -1002) else -1001
noncomputable def wst (h : hH) (b s : Nat) : Nat → Int32 × Int32
  | 0 => (-1, 0)
  | k + 1 => if (wst h b s k).1 = -1 ∨ clF (eS h b s k) (lS h b s k) < (wst h b s k).2 then (nI k, clF (eS h b s k) (lS h b s k)) else wst h b s k
noncomputable def oWorst (h : hH) (b e : Nat) (x : Int32) : Int32 := if 0 ≤ x ∧ x < h.2.2.1.1 then (wst h b x.toNatClampNeg e).1 else -1001
theorem most_N {m : Int32} (h0 : 0 ≤ m) (h3 : m ≤ 3) : m + 1 = nI (0 + (m.toNatClampNeg + 1)) ∧ m.toNatClampNeg + 1 ≤ 4 ∧ -1 ≤ m := by
  obtain ⟨i, hi, rfl⟩ := n_in (x := m) (n := 4) (by omega) h0 (by show m < 4; grind)
  rw [nI_clamp (by omega), nI_1, Nat.zero_add]
  exact ⟨rfl, by omega, by grind⟩
/-- behind a search: the found paths, and all that the sums want -/
theorem fnd {S S9 : fS} {a b c e si ei : Nat} (H : hOk (hC S) a b c e) (hsi : si < c) (hei : ei < e) (hk : kp S S9) {lo n : Nat} (hl : lo + n ≤ 4) : plOk b (plR (gA S 5) b (gA S 12 si, gA S 13 si) (gA S 15 ei, gA S 16 ei) lo n) ∧ plSq (plR (gA S 5) b (gA S 12 si, gA S 13 si) (gA S 15 ei, gA S 16 ei) lo n) ∧ (∀ w, w < b → ∃ j, j < 8 ∧ gA S9 6 w = nI j) ∧ gA S9 2 = gA S 2 ∧ gA S9 6 = gA S 6 ∧ gA S9 17 = gA S 17 ∧ gI S9 0 10 = gI S 0 10 := by
  have e6 : gA S9 6 = gA S 6 := congrArg (fun q => q.2.1.2.2) hk.1
  refine ⟨plR_ok hl, plR_sq H (src_ok H hsi) (seat_ok H hei) hl, fun w hw => ?_, congrArg (fun q => q.1.2.1) hk.1, e6, congrArg (fun q => q.2.2.1.2.2.2) hk.1, congrArg (fun q => q.2.2.2.2.2) hk.1⟩
  obtain ⟨j, hj, ej⟩ := H.stf hw
  exact ⟨j, by have := H.1.2.2.1; omega, by rw [e6]; exact ej⟩
def iX7_heard_0_3 : List Instr := [.aload_n 0, .iload_n 1, .iload_n 2]
theorem oX7_heard_0_3 : fOkB cX7_heard 0 iX7_heard_0_3 = true := by decide +kernel
set_option maxRecDepth 100000 in
theorem lX7_125 : Cond.methodLink RX7 125 yX7_areThere ∈ fTB := fTB_at 422 rfl rfl
theorem dX7_heard_3 : decode cX7_heard 3 = .ok (.invokevirtual 125, 3) := by decide +kernel
theorem bX7_heard_6 : fBk cX7_heard 6 (.ifCond .ne) 13 := ⟨7, by decide +kernel, by decide⟩
def iX7_heard_13_3 : List Instr := [.iload_n 3, .iconst 0, .iconst 4]
theorem oX7_heard_13_3 : fOkB cX7_heard 13 iX7_heard_13_3 = true := by decide +kernel
theorem dX7_heard_16 : decode cX7_heard 16 = .ok (.invokestatic 74, 3) := by decide +kernel
theorem bX7_heard_19 : fBk cX7_heard 19 (.ifCond .ne) 26 := ⟨7, by decide +kernel, by decide⟩
def iX7_heard_26_6 : List Instr := [.aload_n 0, .iload_n 1, .iload_n 2, .iconst 0, .aload_n 0, .getfield 67]
theorem oX7_heard_26_6 : fOkB cX7_heard 26 iX7_heard_26_6 = true := by decide +kernel
set_option maxRecDepth 100000 in
theorem lX7_128 : Cond.methodLink RX7 128 yX7_find ∈ fTB := fTB_at 426 rfl rfl
theorem dX7_heard_34 : decode cX7_heard 34 = .ok (.invokevirtual 128, 3) := by decide +kernel
def iX7_heard_37_5 : List Instr := [.aload_n 0, .aload_n 0, .getfield 35, .iload_n 1, .iaload]
theorem oX7_heard_37_5 : fOkB cX7_heard 37 iX7_heard_37_5 = true := by decide +kernel
set_option maxRecDepth 100000 in
theorem lX7_176 : Cond.methodLink RX7 176 yX7_sumUp ∈ fTB := fTB_at 538 rfl rfl
theorem dX7_heard_44 : decode cX7_heard 44 = .ok (.invokevirtual 176, 3) := by decide +kernel
def iX7_heard_47_1 : List Instr := [.iload_n 3]
theorem oX7_heard_47_1 : fOkB cX7_heard 47 iX7_heard_47_1 = true := by decide +kernel
theorem dX7_heard_48 : decode cX7_heard 48 = .ok (.tableswitch 93 0 3 #[32, 40, 48, 67], 32) := by decide +kernel
def iX7_heard_80_3 : List Instr := [.aload_n 0, .getfield 56, .getfield 179]
theorem oX7_heard_80_3 : fOkB cX7_heard 80 iX7_heard_80_3 = true := by decide +kernel
theorem dX7_heard_87 : decode cX7_heard 87 = .ok (.lreturn, 1) := by decide +kernel
def iX7_heard_88_3 : List Instr := [.aload_n 0, .getfield 56, .getfield 183]
theorem oX7_heard_88_3 : fOkB cX7_heard 88 iX7_heard_88_3 = true := by decide +kernel
theorem dX7_heard_95 : decode cX7_heard 95 = .ok (.lreturn, 1) := by decide +kernel
def iX7_heard_96_6 : List Instr := [.aload_n 0, .getfield 56, .getfield 179, .aload_n 0, .getfield 56, .getfield 183]
theorem oX7_heard_96_6 : fOkB cX7_heard 96 iX7_heard_96_6 = true := by decide +kernel
set_option maxRecDepth 100000 in
theorem lX7_186 : Cond.methodLink RX7 186 yX7_clarityOf ∈ fTB := fTB_at 550 rfl rfl
theorem dX7_heard_110 : decode cX7_heard 110 = .ok (.invokestatic 186, 3) := by decide +kernel
def iX7_heard_113_1 : List Instr := [.i2l]
theorem oX7_heard_113_1 : fOkB cX7_heard 113 iX7_heard_113_1 = true := by decide +kernel
theorem dX7_heard_114 : decode cX7_heard 114 = .ok (.lreturn, 1) := by decide +kernel
def iX7_heard_115_10 : List Instr := [.aload_n 0, .getfield 56, .getfield 179, .aload_n 0, .getfield 56, .getfield 183, .ladd, .aload_n 0, .getfield 56, .getfield 190]
theorem oX7_heard_115_10 : fOkB cX7_heard 115 iX7_heard_115_10 = true := by decide +kernel
set_option maxRecDepth 100000 in
theorem lX7_193 : Cond.methodLink RX7 193 yX7_centreOf ∈ fTB := fTB_at 554 rfl rfl
theorem dX7_heard_137 : decode cX7_heard 137 = .ok (.invokestatic 193, 3) := by decide +kernel
theorem dX7_heard_140 : decode cX7_heard 140 = .ok (.lreturn, 1) := by decide +kernel
def iX7_heard_141_4 : List Instr := [.aload_n 0, .getfield 49, .getfield 197, .i2l]
theorem oX7_heard_141_4 : fOkB cX7_heard 141 iX7_heard_141_4 = true := by decide +kernel
theorem dX7_heard_149 : decode cX7_heard 149 = .ok (.lreturn, 1) := by decide +kernel
def iX7_heard_22_1 : List Instr := [.ldc2_w 135]
theorem oX7_heard_22_1 : fOkB cX7_heard 22 iX7_heard_22_1 = true := by decide +kernel
theorem dX7_heard_25 : decode cX7_heard 25 = .ok (.lreturn, 1) := by decide +kernel
def iX7_heard_9_1 : List Instr := [.ldc2_w 133]
theorem oX7_heard_9_1 : fOkB cX7_heard 9 iX7_heard_9_1 = true := by decide +kernel
theorem dX7_heard_12 : decode cX7_heard 12 = .ok (.lreturn, 1) := by decide +kernel
set_option maxRecDepth 100000 in
theorem qX7_heard {G : fG} {d : Nat} {S : fS} (x y t : Int32) {a b c e : Nat} (H : hOk (hC S) a b c e) (HG : hGeo S b) : fCtr G (d + 10) mX7_heard [.ref 0, .int x, .int y, .int t] S (fun r S' => r = some (.long (oHeard (hC S) b x y t)) ∧ kp S S') := by
  refine fCtr.of bXX7_heard (Nat.le_of_ble_eq_true rfl) rfl ?_
  have hb : gI S 4 6 = nI b := H.2.1.1
  have hb16 : b ≤ 16 := H.2.1.2.1
  have ha8 : a ≤ 8 := H.1.2.2.1
  have hc4 : c ≤ 4 := H.2.2.1.2.1
  have he8 : e ≤ 8 := H.2.2.2.1.2.1
  have hm3 : gI S 0 9 ≤ 3 := H.2.2.2.2.1.2
  have hm := most_N (m := gI S 0 9) H.2.2.2.2.1.1 hm3
  refine fV.run iX7_heard_0_3 oX7_heard_0_3 (pc' := 3) (L' := [(0, .ref 0), (1, .int x), (2, .int y), (3, .int t)]) (st' := [.int y, .int x, .ref 0]) (S' := S) rfl trivial ?_
  refine fV.callV (M2 := mX7_areThere) (d := d + 9) (o := 0) (av := [.int x, .int y]) (rest := []) kX7_areThere dX7_heard_3 lX7_125 rfl rfl rfl (Nat.le_of_ble_eq_true rfl) (fRoom (by decide)) ⟨Nat.le_refl _, Nat.le_refl _⟩ (qX7_areThere _ _) ?_
  rintro _ S9 ⟨rfl, h9⟩
  rw [h9]
  clear h9 S9
  refine fV.to (pc' := 6) (L' := [(0, .ref 0), (1, .int x), (2, .int y), (3, .int t)]) (st' := [.int (fB (decide ((0 ≤ x ∧ x < (gI S 11 2)) ∧ (0 ≤ y ∧ y < (gI S 14 2)))))]) (S' := S) rfl rfl rfl rfl ?_
  refine fV.if_ne bX7_heard_6 (fun c6 => ?_) (fun c6 => ?_)
  · refine fV.run iX7_heard_13_3 oX7_heard_13_3 (pc' := 16) (L' := [(0, .ref 0), (1, .int x), (2, .int y), (3, .int t)]) (st' := [.int 4, .int 0, .int t]) (S' := S) rfl trivial ?_
    refine fV.callS (M2 := mX7_isWithin) (d := d + 9) (av := [.int t, .int 0, .int 4]) (rest := []) kX7_isWithin dX7_heard_16 lX7_74 rfl rfl (Nat.le_of_ble_eq_true rfl) (fRoom (by decide)) ⟨Nat.le_refl _, Nat.le_refl _⟩ (qX7_isWithin _ _ _) ?_
    rintro _ S9 ⟨rfl, h9⟩
    rw [h9]
    clear h9 S9
    refine fV.to (pc' := 19) (L' := [(0, .ref 0), (1, .int x), (2, .int y), (3, .int t)]) (st' := [.int (fB (decide (0 ≤ t ∧ t ≤ 4)))]) (S' := S) rfl rfl rfl rfl ?_
    refine fV.if_ne bX7_heard_19 (fun c19 => ?_) (fun c19 => ?_)
    · refine fV.run iX7_heard_26_6 oX7_heard_26_6 (pc' := 34) (L' := [(0, .ref 0), (1, .int x), (2, .int y), (3, .int t)]) (st' := [.int (gI S 0 9), .int 0, .int y, .int x, .ref 0]) (S' := S) rfl trivial ?_
      obtain ⟨si, hsi, rfl⟩ := n_in (x := x) (n := c) (by omega) (by grind [fB]) (by rw [← show gI S 11 2 = nI c from H.2.2.1.1]; grind [fB])
      obtain ⟨ei, hei, rfl⟩ := n_in (x := y) (n := e) (by omega) (by grind [fB]) (by rw [← show gI S 14 2 = nI e from H.2.2.2.1.1]; grind [fB])
      refine fV.callV (M2 := mX7_find) (d := d + 9) (o := 0) (av := [.int (nI si), .int (nI ei), .int 0, .int (gI S 0 9)]) (rest := []) kX7_find dX7_heard_34 lX7_128 rfl rfl rfl (Nat.le_of_ble_eq_true rfl) (fRoom (by decide)) ⟨Nat.le_refl _, Nat.le_refl _⟩ (qX7_find (lo := 0) (N := (gI S 0 9).toNatClampNeg + 1) H HG hsi hei (by omega) hm.1 hm.2.2 hm3) ?_
      rintro _ S9 ⟨rfl, hk9, hF9⟩
      obtain ⟨hp9, hq9, hsf9, e2, e6, e17, ebo⟩ := fnd (lo := 0) (n := (gI S 0 9).toNatClampNeg + 1) H hsi hei hk9 (by omega)
      refine fV.to (pc' := 37) (L' := [(0, .ref 0), (1, .int (nI si)), (2, .int (nI ei)), (3, .int t)]) (st' := []) (S' := S9) rfl rfl rfl rfl ?_
      refine fV.run iX7_heard_37_5 oX7_heard_37_5 (pc' := 44) (L' := [(0, .ref 0), (1, .int (nI si)), (2, .int (nI ei)), (3, .int t)]) (st' := [.int (gA S9 17 (nI si).toNatClampNeg), .ref 0]) (S' := S9) (P := vp_in (nI si) 4 ∧ True) rfl ⟨(vp_in_nI (by omega) (by decide)), trivial⟩ ?_
      refine fV.callV (M2 := mX7_sumUp) (d := d + 9) (o := 0) (av := [.int (gA S9 17 (nI si).toNatClampNeg)]) (rest := []) kX7_sumUp dX7_heard_44 lX7_176 rfl rfl rfl (Nat.le_of_ble_eq_true rfl) (fRoom (by decide)) ⟨Nat.le_refl _, Nat.le_refl _⟩ (qX7_sumUp (S := S9) hb16 hF9 hp9 hq9 hsf9) ?_
      rintro _ S8 ⟨rfl, h9⟩
      rw [e2, e6, ebo, e17, nI_clamp (by omega)] at h9
      have h9b : S8 = (wJ (wJ (wJ S9 28 0 (eS (hC S) b si ei)) 28 1 (lS (hC S) b si ei)) 28 2 (dS (hC S) b si ei)) := h9
      rw [h9b]
      refine fV.to (pc' := 47) (L' := [(0, .ref 0), (1, .int (nI si)), (2, .int (nI ei)), (3, .int t)]) (st' := []) (S' := (wJ (wJ (wJ S9 28 0 (eS (hC S) b si ei)) 28 1 (lS (hC S) b si ei)) 28 2 (dS (hC S) b si ei))) rfl rfl rfl rfl ?_
      refine fV.run iX7_heard_47_1 oX7_heard_47_1 (pc' := 48) (L' := [(0, .ref 0), (1, .int (nI si)), (2, .int (nI ei)), (3, .int t)]) (st' := [.int t]) (S' := (wJ (wJ (wJ S9 28 0 (eS (hC S) b si ei)) 28 1 (lS (hC S) b si ei)) 28 2 (dS (hC S) b si ei))) rfl trivial ?_
      refine fV.tsw (tgt := 141) dX7_heard_48 (by decide) (fun h1 h2 => ?_) (fun hx => ?_)
      · rcases (show Int32.toInt t = 0 ∨ Int32.toInt t = 1 ∨ Int32.toInt t = 2 ∨ Int32.toInt t = 3 by omega) with hx | hx | hx | hx
        · refine ⟨32, 80, by rw [hx]; rfl, by decide, ?_⟩
          refine fV.run iX7_heard_80_3 oX7_heard_80_3 (pc' := 87) (L' := [(0, .ref 0), (1, .int (nI si)), (2, .int (nI ei)), (3, .int t)]) (st' := [.long (eS (hC S) b si ei)]) (S' := (wJ (wJ (wJ S9 28 0 (eS (hC S) b si ei)) 28 1 (lS (hC S) b si ei)) 28 2 (dS (hC S) b si ei))) rfl trivial ?_
          exact fV.lret rfl dX7_heard_87 ⟨by (have ht : t = 0 := i_of_toInt hx _ (by decide)); subst ht; unfold oHeard; rw [if_pos (show thr (hC S) (nI si) (nI ei) from ⟨⟨nI_pos' (by omega), by rw [show (hC S).2.2.1.1 = nI c from H.2.2.1.1, nI_ltI (by omega) (by omega)]; exact hsi⟩, nI_pos' (by omega), by rw [show (hC S).2.2.2.1.1 = nI e from H.2.2.2.1.1, nI_ltI (by omega) (by omega)]; exact hei⟩), if_pos (by decide), nI_clamp (by omega), nI_clamp (by omega)]; rfl, hk9.tr ⟨rfl, rfl, rfl, rfl, rfl, rfl⟩⟩
        · refine ⟨40, 88, by rw [hx]; rfl, by decide, ?_⟩
          refine fV.run iX7_heard_88_3 oX7_heard_88_3 (pc' := 95) (L' := [(0, .ref 0), (1, .int (nI si)), (2, .int (nI ei)), (3, .int t)]) (st' := [.long (lS (hC S) b si ei)]) (S' := (wJ (wJ (wJ S9 28 0 (eS (hC S) b si ei)) 28 1 (lS (hC S) b si ei)) 28 2 (dS (hC S) b si ei))) rfl trivial ?_
          exact fV.lret rfl dX7_heard_95 ⟨by (have ht : t = 1 := i_of_toInt hx _ (by decide)); subst ht; unfold oHeard; rw [if_pos (show thr (hC S) (nI si) (nI ei) from ⟨⟨nI_pos' (by omega), by rw [show (hC S).2.2.1.1 = nI c from H.2.2.1.1, nI_ltI (by omega) (by omega)]; exact hsi⟩, nI_pos' (by omega), by rw [show (hC S).2.2.2.1.1 = nI e from H.2.2.2.1.1, nI_ltI (by omega) (by omega)]; exact hei⟩), if_pos (by decide), nI_clamp (by omega), nI_clamp (by omega)]; rfl, hk9.tr ⟨rfl, rfl, rfl, rfl, rfl, rfl⟩⟩
        · refine ⟨48, 96, by rw [hx]; rfl, by decide, ?_⟩
          refine fV.run iX7_heard_96_6 oX7_heard_96_6 (pc' := 110) (L' := [(0, .ref 0), (1, .int (nI si)), (2, .int (nI ei)), (3, .int t)]) (st' := [.long (lS (hC S) b si ei), .long (eS (hC S) b si ei)]) (S' := (wJ (wJ (wJ S9 28 0 (eS (hC S) b si ei)) 28 1 (lS (hC S) b si ei)) 28 2 (dS (hC S) b si ei))) rfl trivial ?_
          refine fV.callS (M2 := mX7_clarityOf) (d := d + 9) (av := [.long (eS (hC S) b si ei), .long (lS (hC S) b si ei)]) (rest := []) kX7_clarityOf dX7_heard_110 lX7_186 rfl rfl (Nat.le_of_ble_eq_true rfl) (fRoom (by decide)) ⟨Nat.le_refl _, Nat.le_refl _⟩ (qX7_cl _ _) ?_
          rintro _ S9 ⟨rfl, h9⟩
          rw [h9]
          clear h9 S9
          refine fV.to (pc' := 113) (L' := [(0, .ref 0), (1, .int (nI si)), (2, .int (nI ei)), (3, .int t)]) (st' := [.int (clF (eS (hC S) b si ei) (lS (hC S) b si ei))]) (S' := (wJ (wJ (wJ S9 28 0 (eS (hC S) b si ei)) 28 1 (lS (hC S) b si ei)) 28 2 (dS (hC S) b si ei))) rfl rfl rfl rfl ?_
          refine fV.run iX7_heard_113_1 oX7_heard_113_1 (pc' := 114) (L' := [(0, .ref 0), (1, .int (nI si)), (2, .int (nI ei)), (3, .int t)]) (st' := [.long (Int32.toInt64 (clF (eS (hC S) b si ei) (lS (hC S) b si ei)))]) (S' := (wJ (wJ (wJ S9 28 0 (eS (hC S) b si ei)) 28 1 (lS (hC S) b si ei)) 28 2 (dS (hC S) b si ei))) rfl trivial ?_
          exact fV.lret rfl dX7_heard_114 ⟨by (have ht : t = 2 := i_of_toInt hx _ (by decide)); subst ht; unfold oHeard; rw [if_pos (show thr (hC S) (nI si) (nI ei) from ⟨⟨nI_pos' (by omega), by rw [show (hC S).2.2.1.1 = nI c from H.2.2.1.1, nI_ltI (by omega) (by omega)]; exact hsi⟩, nI_pos' (by omega), by rw [show (hC S).2.2.2.1.1 = nI e from H.2.2.2.1.1, nI_ltI (by omega) (by omega)]; exact hei⟩), if_pos (by decide), nI_clamp (by omega), nI_clamp (by omega)]; rfl, hk9.tr ⟨rfl, rfl, rfl, rfl, rfl, rfl⟩⟩
        · refine ⟨67, 115, by rw [hx]; rfl, by decide, ?_⟩
          refine fV.run iX7_heard_115_10 oX7_heard_115_10 (pc' := 137) (L' := [(0, .ref 0), (1, .int (nI si)), (2, .int (nI ei)), (3, .int t)]) (st' := [.long (dS (hC S) b si ei), .long ((eS (hC S) b si ei) + (lS (hC S) b si ei))]) (S' := (wJ (wJ (wJ S9 28 0 (eS (hC S) b si ei)) 28 1 (lS (hC S) b si ei)) 28 2 (dS (hC S) b si ei))) rfl trivial ?_
          refine fV.callS (M2 := mX7_centreOf) (d := d + 9) (av := [.long ((eS (hC S) b si ei) + (lS (hC S) b si ei)), .long (dS (hC S) b si ei)]) (rest := []) kX7_centreOf dX7_heard_137 lX7_193 rfl rfl (Nat.le_of_ble_eq_true rfl) (fRoom (by decide)) ⟨Nat.le_refl _, Nat.le_refl _⟩ (qX7_ce _ _) ?_
          rintro _ S9 ⟨rfl, h9⟩
          rw [h9]
          clear h9 S9
          refine fV.to (pc' := 140) (L' := [(0, .ref 0), (1, .int (nI si)), (2, .int (nI ei)), (3, .int t)]) (st' := [.long (ceF ((eS (hC S) b si ei) + (lS (hC S) b si ei)) (dS (hC S) b si ei))]) (S' := (wJ (wJ (wJ S9 28 0 (eS (hC S) b si ei)) 28 1 (lS (hC S) b si ei)) 28 2 (dS (hC S) b si ei))) rfl rfl rfl rfl ?_
          exact fV.lret rfl dX7_heard_140 ⟨by (have ht : t = 3 := i_of_toInt hx _ (by decide)); subst ht; unfold oHeard; rw [if_pos (show thr (hC S) (nI si) (nI ei) from ⟨⟨nI_pos' (by omega), by rw [show (hC S).2.2.1.1 = nI c from H.2.2.1.1, nI_ltI (by omega) (by omega)]; exact hsi⟩, nI_pos' (by omega), by rw [show (hC S).2.2.2.1.1 = nI e from H.2.2.2.1.1, nI_ltI (by omega) (by omega)]; exact hei⟩), if_pos (by decide), nI_clamp (by omega), nI_clamp (by omega)]; rfl, hk9.tr ⟨rfl, rfl, rfl, rfl, rfl, rfl⟩⟩
      · refine fV.run iX7_heard_141_4 oX7_heard_141_4 (pc' := 149) (L' := [(0, .ref 0), (1, .int (nI si)), (2, .int (nI ei)), (3, .int t)]) (st' := [.long (Int32.toInt64 (gI S9 24 4))]) (S' := (wJ (wJ (wJ S9 28 0 (eS (hC S) b si ei)) 28 1 (lS (hC S) b si ei)) 28 2 (dS (hC S) b si ei))) rfl trivial ?_
        exact fV.lret rfl dX7_heard_149 ⟨by unfold oHeard; rw [if_pos (show thr (hC S) (nI si) (nI ei) from ⟨⟨nI_pos' (by omega), by rw [show (hC S).2.2.1.1 = nI c from H.2.2.1.1, nI_ltI (by omega) (by omega)]; exact hsi⟩, nI_pos' (by omega), by rw [show (hC S).2.2.2.1.1 = nI e from H.2.2.2.1.1, nI_ltI (by omega) (by omega)]; exact hei⟩), if_pos (by grind [fB]), nI_clamp (by omega), nI_clamp (by omega)]; unfold hrd; rw [if_neg (fun z => by subst z; revert hx; decide), if_neg (fun z => by subst z; revert hx; decide), if_neg (fun z => by subst z; revert hx; decide), if_neg (fun z => by subst z; revert hx; decide)]; exact congrArg (fun z => some (Value.long (Int32.toInt64 z))) hF9.2.2.1, hk9.tr ⟨rfl, rfl, rfl, rfl, rfl, rfl⟩⟩
    · refine fV.run iX7_heard_22_1 oX7_heard_22_1 (pc' := 25) (L' := [(0, .ref 0), (1, .int x), (2, .int y), (3, .int t)]) (st' := [.long (-1002)]) (S' := S) rfl trivial ?_
      exact fV.lret rfl dX7_heard_25 ⟨by unfold oHeard; rw [if_pos (show thr (hC S) x y from by unfold thr; grind [fB, hC]), if_neg (by grind [fB])], kp.rf⟩
  · refine fV.run iX7_heard_9_1 oX7_heard_9_1 (pc' := 12) (L' := [(0, .ref 0), (1, .int x), (2, .int y), (3, .int t)]) (st' := [.long (-1001)]) (S' := S) rfl trivial ?_
    exact fV.lret rfl dX7_heard_12 ⟨by unfold oHeard; rw [if_neg (show ¬ thr (hC S) x y from by unfold thr; grind [fB, hC])], kp.rf⟩
def iX7_paths_0_3 : List Instr := [.aload_n 0, .iload_n 1, .iload_n 2]
theorem oX7_paths_0_3 : fOkB cX7_paths 0 iX7_paths_0_3 = true := by decide +kernel
theorem dX7_paths_3 : decode cX7_paths 3 = .ok (.invokevirtual 125, 3) := by decide +kernel
theorem bX7_paths_6 : fBk cX7_paths 6 (.ifCond .ne) 13 := ⟨7, by decide +kernel, by decide⟩
def iX7_paths_13_3 : List Instr := [.iload_n 3, .iconst (-1), .iconst 3]
theorem oX7_paths_13_3 : fOkB cX7_paths 13 iX7_paths_13_3 = true := by decide +kernel
theorem dX7_paths_16 : decode cX7_paths 16 = .ok (.invokestatic 74, 3) := by decide +kernel
theorem bX7_paths_19 : fBk cX7_paths 19 (.ifCond .ne) 26 := ⟨7, by decide +kernel, by decide⟩
def iX7_paths_26_2 : List Instr := [.iload_n 3, .iconst (-1)]
theorem oX7_paths_26_2 : fOkB cX7_paths 26 iX7_paths_26_2 = true := by decide +kernel
theorem bX7_paths_28 : fBk cX7_paths 28 (.if_icmp .ne) 45 := ⟨17, by decide +kernel, by decide⟩
def iX7_paths_45_5 : List Instr := [.aload_n 0, .iload_n 1, .iload_n 2, .iload_n 3, .iload_n 3]
theorem oX7_paths_45_5 : fOkB cX7_paths 45 iX7_paths_45_5 = true := by decide +kernel
theorem dX7_paths_50 : decode cX7_paths 50 = .ok (.invokevirtual 128, 3) := by decide +kernel
def iX7_paths_53_3 : List Instr := [.aload_n 0, .getfield 49, .getfield 132]
theorem oX7_paths_53_3 : fOkB cX7_paths 53 iX7_paths_53_3 = true := by decide +kernel
theorem dX7_paths_60 : decode cX7_paths 60 = .ok (.ireturn, 1) := by decide +kernel
def iX7_paths_31_6 : List Instr := [.aload_n 0, .iload_n 1, .iload_n 2, .iconst 0, .aload_n 0, .getfield 67]
theorem oX7_paths_31_6 : fOkB cX7_paths 31 iX7_paths_31_6 = true := by decide +kernel
theorem dX7_paths_39 : decode cX7_paths 39 = .ok (.invokevirtual 128, 3) := by decide +kernel
def iX7_paths_42_4 : List Instr := [.goto 11, .aload_n 0, .getfield 49, .getfield 132]
theorem oX7_paths_42_4 : fOkB cX7_paths 42 iX7_paths_42_4 = true := by decide +kernel
def iX7_paths_22_1 : List Instr := [.sipush (-1002)]
theorem oX7_paths_22_1 : fOkB cX7_paths 22 iX7_paths_22_1 = true := by decide +kernel
theorem dX7_paths_25 : decode cX7_paths 25 = .ok (.ireturn, 1) := by decide +kernel
def iX7_paths_9_1 : List Instr := [.sipush (-1001)]
theorem oX7_paths_9_1 : fOkB cX7_paths 9 iX7_paths_9_1 = true := by decide +kernel
theorem dX7_paths_12 : decode cX7_paths 12 = .ok (.ireturn, 1) := by decide +kernel
set_option maxRecDepth 100000 in
theorem qX7_paths {G : fG} {d : Nat} {S : fS} (x y k : Int32) {a b c e : Nat} (H : hOk (hC S) a b c e) (HG : hGeo S b) : fCtr G (d + 10) mX7_paths [.ref 0, .int x, .int y, .int k] S (fun r S' => r = some (.int (oPaths (hC S) b x y k)) ∧ kp S S') := by
  refine fCtr.of bXX7_paths (Nat.le_of_ble_eq_true rfl) rfl ?_
  have hb : gI S 4 6 = nI b := H.2.1.1
  have hb16 : b ≤ 16 := H.2.1.2.1
  have ha8 : a ≤ 8 := H.1.2.2.1
  have hc4 : c ≤ 4 := H.2.2.1.2.1
  have he8 : e ≤ 8 := H.2.2.2.1.2.1
  have hm3 : gI S 0 9 ≤ 3 := H.2.2.2.2.1.2
  have hm := most_N (m := gI S 0 9) H.2.2.2.2.1.1 hm3
  refine fV.run iX7_paths_0_3 oX7_paths_0_3 (pc' := 3) (L' := [(0, .ref 0), (1, .int x), (2, .int y), (3, .int k)]) (st' := [.int y, .int x, .ref 0]) (S' := S) rfl trivial ?_
  refine fV.callV (M2 := mX7_areThere) (d := d + 9) (o := 0) (av := [.int x, .int y]) (rest := []) kX7_areThere dX7_paths_3 lX7_125 rfl rfl rfl (Nat.le_of_ble_eq_true rfl) (fRoom (by decide)) ⟨Nat.le_refl _, Nat.le_refl _⟩ (qX7_areThere _ _) ?_
  rintro _ S9 ⟨rfl, h9⟩
  rw [h9]
  clear h9 S9
  refine fV.to (pc' := 6) (L' := [(0, .ref 0), (1, .int x), (2, .int y), (3, .int k)]) (st' := [.int (fB (decide ((0 ≤ x ∧ x < (gI S 11 2)) ∧ (0 ≤ y ∧ y < (gI S 14 2)))))]) (S' := S) rfl rfl rfl rfl ?_
  refine fV.if_ne bX7_paths_6 (fun c6 => ?_) (fun c6 => ?_)
  · refine fV.run iX7_paths_13_3 oX7_paths_13_3 (pc' := 16) (L' := [(0, .ref 0), (1, .int x), (2, .int y), (3, .int k)]) (st' := [.int 3, .int (-1), .int k]) (S' := S) rfl trivial ?_
    refine fV.callS (M2 := mX7_isWithin) (d := d + 9) (av := [.int k, .int (-1), .int 3]) (rest := []) kX7_isWithin dX7_paths_16 lX7_74 rfl rfl (Nat.le_of_ble_eq_true rfl) (fRoom (by decide)) ⟨Nat.le_refl _, Nat.le_refl _⟩ (qX7_isWithin _ _ _) ?_
    rintro _ S9 ⟨rfl, h9⟩
    rw [h9]
    clear h9 S9
    refine fV.to (pc' := 19) (L' := [(0, .ref 0), (1, .int x), (2, .int y), (3, .int k)]) (st' := [.int (fB (decide ((-1) ≤ k ∧ k ≤ 3)))]) (S' := S) rfl rfl rfl rfl ?_
    refine fV.if_ne bX7_paths_19 (fun c19 => ?_) (fun c19 => ?_)
    · refine fV.run iX7_paths_26_2 oX7_paths_26_2 (pc' := 28) (L' := [(0, .ref 0), (1, .int x), (2, .int y), (3, .int k)]) (st' := [.int (-1), .int k]) (S' := S) rfl trivial ?_
      refine fV.icmp_ne bX7_paths_28 (fun c28 => ?_) (fun c28 => ?_)
      · refine fV.run iX7_paths_45_5 oX7_paths_45_5 (pc' := 50) (L' := [(0, .ref 0), (1, .int x), (2, .int y), (3, .int k)]) (st' := [.int k, .int k, .int y, .int x, .ref 0]) (S' := S) rfl trivial ?_
        obtain ⟨si, hsi, rfl⟩ := n_in (x := x) (n := c) (by omega) (by grind [fB]) (by rw [← show gI S 11 2 = nI c from H.2.2.1.1]; grind [fB])
        obtain ⟨ei, hei, rfl⟩ := n_in (x := y) (n := e) (by omega) (by grind [fB]) (by rw [← show gI S 14 2 = nI e from H.2.2.2.1.1]; grind [fB])
        obtain ⟨kk, hkk, rfl⟩ := n_in (x := k) (n := 4) (by omega) (by grind [fB]) (by show k < 4; grind [fB])
        have hkk1 : nI kk ≤ 3 := (nI_leI (b := 3) (by omega) (by decide)).mpr (by omega)
        have hkk0 : 0 ≤ nI kk := nI_pos' (by omega)
        refine fV.callV (M2 := mX7_find) (d := d + 9) (o := 0) (av := [.int (nI si), .int (nI ei), .int (nI kk), .int (nI kk)]) (rest := []) kX7_find dX7_paths_50 lX7_128 rfl rfl rfl (Nat.le_of_ble_eq_true rfl) (fRoom (by decide)) ⟨Nat.le_refl _, Nat.le_refl _⟩ (qX7_find (lo := kk) (N := 1) H HG hsi hei (by omega) (nI_1 kk) (by grind) (by grind)) ?_
        rintro _ S9 ⟨rfl, hk9, hF9⟩
        refine fV.to (pc' := 53) (L' := [(0, .ref 0), (1, .int (nI si)), (2, .int (nI ei)), (3, .int (nI kk))]) (st' := []) (S' := S9) rfl rfl rfl rfl ?_
        refine fV.run iX7_paths_53_3 oX7_paths_53_3 (pc' := 60) (L' := [(0, .ref 0), (1, .int (nI si)), (2, .int (nI ei)), (3, .int (nI kk))]) (st' := [.int (gI S9 24 3)]) (S' := S9) rfl trivial ?_
        exact fV.iret rfl dX7_paths_60 ⟨by unfold oPaths; rw [if_pos (show thr (hC S) (nI si) (nI ei) from ⟨⟨nI_pos' (by omega), by rw [show (hC S).2.2.1.1 = nI c from H.2.2.1.1, nI_ltI (by omega) (by omega)]; exact hsi⟩, nI_pos' (by omega), by rw [show (hC S).2.2.2.1.1 = nI e from H.2.2.2.1.1, nI_ltI (by omega) (by omega)]; exact hei⟩), if_pos (by grind [fB]), if_neg (by grind), nI_clamp (by omega), nI_clamp (by omega), nI_clamp (by omega)]; exact congrArg (fun z => some (Value.int z)) hF9.1, hk9⟩
      · refine fV.run iX7_paths_31_6 oX7_paths_31_6 (pc' := 39) (L' := [(0, .ref 0), (1, .int x), (2, .int y), (3, .int k)]) (st' := [.int (gI S 0 9), .int 0, .int y, .int x, .ref 0]) (S' := S) rfl trivial ?_
        obtain ⟨si, hsi, rfl⟩ := n_in (x := x) (n := c) (by omega) (by grind [fB]) (by rw [← show gI S 11 2 = nI c from H.2.2.1.1]; grind [fB])
        obtain ⟨ei, hei, rfl⟩ := n_in (x := y) (n := e) (by omega) (by grind [fB]) (by rw [← show gI S 14 2 = nI e from H.2.2.2.1.1]; grind [fB])
        refine fV.callV (M2 := mX7_find) (d := d + 9) (o := 0) (av := [.int (nI si), .int (nI ei), .int 0, .int (gI S 0 9)]) (rest := []) kX7_find dX7_paths_39 lX7_128 rfl rfl rfl (Nat.le_of_ble_eq_true rfl) (fRoom (by decide)) ⟨Nat.le_refl _, Nat.le_refl _⟩ (qX7_find (lo := 0) (N := (gI S 0 9).toNatClampNeg + 1) H HG hsi hei (by omega) hm.1 hm.2.2 hm3) ?_
        rintro _ S9 ⟨rfl, hk9, hF9⟩
        obtain ⟨hp9, hq9, hsf9, e2, e6, e17, ebo⟩ := fnd (lo := 0) (n := (gI S 0 9).toNatClampNeg + 1) H hsi hei hk9 (by omega)
        refine fV.to (pc' := 42) (L' := [(0, .ref 0), (1, .int (nI si)), (2, .int (nI ei)), (3, .int k)]) (st' := []) (S' := S9) rfl rfl rfl rfl ?_
        refine fV.run iX7_paths_42_4 oX7_paths_42_4 (pc' := 60) (L' := [(0, .ref 0), (1, .int (nI si)), (2, .int (nI ei)), (3, .int k)]) (st' := [.int (gI S9 24 3)]) (S' := S9) rfl trivial ?_
        exact fV.iret rfl dX7_paths_60 ⟨by unfold oPaths; rw [if_pos (show thr (hC S) (nI si) (nI ei) from ⟨⟨nI_pos' (by omega), by rw [show (hC S).2.2.1.1 = nI c from H.2.2.1.1, nI_ltI (by omega) (by omega)]; exact hsi⟩, nI_pos' (by omega), by rw [show (hC S).2.2.2.1.1 = nI e from H.2.2.2.1.1, nI_ltI (by omega) (by omega)]; exact hei⟩), if_pos (by grind [fB]), if_pos (by grind), nI_clamp (by omega), nI_clamp (by omega)]; exact congrArg (fun z => some (Value.int z)) hF9.1, hk9⟩
    · refine fV.run iX7_paths_22_1 oX7_paths_22_1 (pc' := 25) (L' := [(0, .ref 0), (1, .int x), (2, .int y), (3, .int k)]) (st' := [.int (-1002)]) (S' := S) rfl trivial ?_
      exact fV.iret rfl dX7_paths_25 ⟨by unfold oPaths; rw [if_pos (show thr (hC S) x y from by unfold thr; grind [fB, hC]), if_neg (by grind [fB])], kp.rf⟩
  · refine fV.run iX7_paths_9_1 oX7_paths_9_1 (pc' := 12) (L' := [(0, .ref 0), (1, .int x), (2, .int y), (3, .int k)]) (st' := [.int (-1001)]) (S' := S) rfl trivial ?_
    exact fV.iret rfl dX7_paths_12 ⟨by unfold oPaths; rw [if_neg (show ¬ thr (hC S) x y from by unfold thr; grind [fB, hC])], kp.rf⟩
def iX7_at_45_4 : List Instr := [.iload 6, .aload_n 0, .getfield 49, .getfield 132]
theorem oX7_at_45_4 : fOkB cX7_at 45 iX7_at_45_4 = true := by decide +kernel
theorem bX7_at_54 : fBk cX7_at 54 (.if_icmp .ge) 101 := ⟨47, by decide +kernel, by decide⟩
def iX7_at_101_1 : List Instr := [.lload 4]
theorem oX7_at_101_1 : fOkB cX7_at 101 iX7_at_101_1 = true := by decide +kernel
theorem dX7_at_103 : decode cX7_at 103 = .ok (.lreturn, 1) := by decide +kernel
def iX7_at_57_5 : List Instr := [.aload_n 0, .getfield 49, .getfield 150, .iload 6, .iaload]
theorem oX7_at_57_5 : fOkB cX7_at 57 iX7_at_57_5 = true := by decide +kernel
def iX7_at_67_1 : List Instr := [.iload_n 3]
theorem oX7_at_67_1 : fOkB cX7_at 67 iX7_at_67_1 = true := by decide +kernel
theorem bX7_at_68 : fBk cX7_at 68 (.if_icmp .ne) 95 := ⟨27, by decide +kernel, by decide⟩
def iX7_at_95_2 : List Instr := [.iinc 6 1, .goto (-53)]
theorem oX7_at_95_2 : fOkB cX7_at 95 iX7_at_95_2 = true := by decide +kernel
def iX7_at_71_10 : List Instr := [.lload 4, .aload_n 0, .iload 6, .aload_n 0, .getfield 35, .iload_n 1, .iaload, .aload_n 0, .getfield 19, .getfield 94]
theorem oX7_at_71_10 : fOkB cX7_at 71 iX7_at_71_10 = true := by decide +kernel
theorem dX7_at_89 : decode cX7_at 89 = .ok (.invokevirtual 146, 3) := by decide +kernel
def iX7_at_92_4 : List Instr := [.ladd, .lstore 4, .iinc 6 1, .goto (-53)]
theorem oX7_at_92_4 : fOkB cX7_at 92 iX7_at_92_4 = true := by decide +kernel
set_option maxRecDepth 100000 in
theorem lpX7_at {G : fG} {d : Nat} {S S9 : fS} {a b c e si ei : Nat} {t : Int32} (H : hOk (hC S) a b c e) (hsi : si < c) (hei : ei < e) (hk9 : kp S S9) (hF9 : fdOk S9 (plR (gA S 5) b (gA S 12 si, gA S 13 si) (gA S 15 ei, gA S 16 ei) 0 ((gI S 0 9).toNatClampNeg + 1))) : ∀ (u i : Nat), i + u = (plR (gA S 5) b (gA S 12 si, gA S 13 si) (gA S 15 ei, gA S 16 ei) 0 ((gI S 0 9).toNatClampNeg + 1)).length → fV G mX7_at (fZm G (d + 10) (fun r S' => r = some (.long (smE (enF (gA S 2) (gA S 6) (gA S 17 si)) (fun x => decide (tickF x.2 = t)) (plR (gA S 5) b (gA S 12 si, gA S 13 si) (gA S 15 ei, gA S 16 ei) 0 ((gI S 0 9).toNatClampNeg + 1)))) ∧ kp S S')) 45 [(0, .ref 0), (1, .int (nI si)), (2, .int (nI ei)), (3, .int t), (4, .long (smE (enF (gA S 2) (gA S 6) (gA S 17 si)) (fun x => decide (tickF x.2 = t)) ((plR (gA S 5) b (gA S 12 si, gA S 13 si) (gA S 15 ei, gA S 16 ei) 0 ((gI S 0 9).toNatClampNeg + 1)).take i))), (6, .int (nI i))] [] S9 := by
  have hb16 : b ≤ 16 := H.2.1.2.1
  have hc4 : c ≤ 4 := H.2.2.1.2.1
  have hm := most_N (m := gI S 0 9) H.2.2.2.2.1.1 H.2.2.2.2.1.2
  obtain ⟨hp9, hq9, hsf9, e2, e6, e17, ebo⟩ := fnd (lo := 0) (n := (gI S 0 9).toNatClampNeg + 1) H hsi hei hk9 (by omega)
  have hl : (plR (gA S 5) b (gA S 12 si, gA S 13 si) (gA S 15 ei, gA S 16 ei) 0 ((gI S 0 9).toNatClampNeg + 1)).length ≤ 3857 := hF9.2.1
  intro u
  induction u with
  | zero =>
    intro i hi
    refine fV.run iX7_at_45_4 oX7_at_45_4 (pc' := 54) (L' := [(0, .ref 0), (1, .int (nI si)), (2, .int (nI ei)), (3, .int t), (4, .long (smE (enF (gA S 2) (gA S 6) (gA S 17 si)) (fun x => decide (tickF x.2 = t)) ((plR (gA S 5) b (gA S 12 si, gA S 13 si) (gA S 15 ei, gA S 16 ei) 0 ((gI S 0 9).toNatClampNeg + 1)).take i))), (6, .int (nI i))]) (st' := [.int (gI S9 24 3), .int (nI i)]) (S' := S9) rfl trivial ?_
    refine fV.icmp_ge bX7_at_54 (fun c54 => ?_) (fun c54 => ?_)
    · refine fV.run iX7_at_101_1 oX7_at_101_1 (pc' := 103) (L' := [(0, .ref 0), (1, .int (nI si)), (2, .int (nI ei)), (3, .int t), (4, .long (smE (enF (gA S 2) (gA S 6) (gA S 17 si)) (fun x => decide (tickF x.2 = t)) ((plR (gA S 5) b (gA S 12 si, gA S 13 si) (gA S 15 ei, gA S 16 ei) 0 ((gI S 0 9).toNatClampNeg + 1)).take i))), (6, .int (nI i))]) (st' := [.long (smE (enF (gA S 2) (gA S 6) (gA S 17 si)) (fun x => decide (tickF x.2 = t)) ((plR (gA S 5) b (gA S 12 si, gA S 13 si) (gA S 15 ei, gA S 16 ei) 0 ((gI S 0 9).toNatClampNeg + 1)).take i))]) (S' := S9) rfl trivial ?_
      exact fV.lret rfl dX7_at_103 ⟨by rw [List.take_of_length_le (by omega)], hk9⟩
    · exact absurd c54 (by rw [hF9.1, nI_leI (by omega) (by omega)]; omega)
  | succ u ih =>
    intro i hi
    obtain ⟨x9, hx9⟩ : ∃ x9, (plR (gA S 5) b (gA S 12 si, gA S 13 si) (gA S 15 ei, gA S 16 ei) 0 ((gI S 0 9).toNatClampNeg + 1))[i]? = some x9 := ⟨_, List.getElem?_eq_getElem (by omega)⟩
    refine fV.run iX7_at_45_4 oX7_at_45_4 (pc' := 54) (L' := [(0, .ref 0), (1, .int (nI si)), (2, .int (nI ei)), (3, .int t), (4, .long (smE (enF (gA S 2) (gA S 6) (gA S 17 si)) (fun x => decide (tickF x.2 = t)) ((plR (gA S 5) b (gA S 12 si, gA S 13 si) (gA S 15 ei, gA S 16 ei) 0 ((gI S 0 9).toNatClampNeg + 1)).take i))), (6, .int (nI i))]) (st' := [.int (gI S9 24 3), .int (nI i)]) (S' := S9) rfl trivial ?_
    refine fV.icmp_ge bX7_at_54 (fun c54 => ?_) (fun c54 => ?_)
    · exact absurd c54 (by rw [hF9.1, nI_leI (by omega) (by omega)]; omega)
    · refine fV.run iX7_at_57_5 oX7_at_57_5 (pc' := 67) (L' := [(0, .ref 0), (1, .int (nI si)), (2, .int (nI ei)), (3, .int t), (4, .long (smE (enF (gA S 2) (gA S 6) (gA S 17 si)) (fun x => decide (tickF x.2 = t)) ((plR (gA S 5) b (gA S 12 si, gA S 13 si) (gA S 15 ei, gA S 16 ei) 0 ((gI S 0 9).toNatClampNeg + 1)).take i))), (6, .int (nI i))]) (st' := [.int (gA S9 27 (nI i).toNatClampNeg)]) (S' := S9) (P := vp_in (nI i) 3857 ∧ True) rfl ⟨(vp_in_nI (by omega) (by decide)), trivial⟩ ?_
      refine fV.to (L' := [(0, .ref 0), (1, .int (nI si)), (2, .int (nI ei)), (3, .int t), (4, .long (smE (enF (gA S 2) (gA S 6) (gA S 17 si)) (fun x => decide (tickF x.2 = t)) ((plR (gA S 5) b (gA S 12 si, gA S 13 si) (gA S 15 ei, gA S 16 ei) 0 ((gI S 0 9).toNatClampNeg + 1)).take i))), (6, .int (nI i))]) (st' := [.int (tickF x9.2)]) rfl rfl (by rw [show (gA S9 27 (nI i).toNatClampNeg : Int32) = tickF x9.2 from by rw [nI_clamp (by omega)]; exact (hF9.2.2.2 i x9 hx9).2.2]) rfl ?_
      refine fV.run iX7_at_67_1 oX7_at_67_1 (pc' := 68) (L' := [(0, .ref 0), (1, .int (nI si)), (2, .int (nI ei)), (3, .int t), (4, .long (smE (enF (gA S 2) (gA S 6) (gA S 17 si)) (fun x => decide (tickF x.2 = t)) ((plR (gA S 5) b (gA S 12 si, gA S 13 si) (gA S 15 ei, gA S 16 ei) 0 ((gI S 0 9).toNatClampNeg + 1)).take i))), (6, .int (nI i))]) (st' := [.int t, .int (tickF x9.2)]) (S' := S9) rfl trivial ?_
      refine fV.icmp_ne bX7_at_68 (fun c68 => ?_) (fun c68 => ?_)
      · refine fV.run iX7_at_95_2 oX7_at_95_2 (pc' := 45) (L' := [(0, .ref 0), (1, .int (nI si)), (2, .int (nI ei)), (3, .int t), (4, .long (smE (enF (gA S 2) (gA S 6) (gA S 17 si)) (fun x => decide (tickF x.2 = t)) ((plR (gA S 5) b (gA S 12 si, gA S 13 si) (gA S 15 ei, gA S 16 ei) 0 ((gI S 0 9).toNatClampNeg + 1)).take i))), (6, .int ((nI i) + 1))]) (st' := []) (S' := S9) rfl trivial ?_
        refine fV.to (L' := [(0, .ref 0), (1, .int (nI si)), (2, .int (nI ei)), (3, .int t), (4, .long (smE (enF (gA S 2) (gA S 6) (gA S 17 si)) (fun x => decide (tickF x.2 = t)) ((plR (gA S 5) b (gA S 12 si, gA S 13 si) (gA S 15 ei, gA S 16 ei) 0 ((gI S 0 9).toNatClampNeg + 1)).take (i + 1)))), (6, .int (nI (i + 1)))]) rfl (by rw [smE_s hx9, show decide (tickF x9.2 = t) = false from decide_eq_false c68, nI_1]; rfl) rfl rfl (ih (i + 1) (by omega))
      · refine fV.run iX7_at_71_10 oX7_at_71_10 (pc' := 89) (L' := [(0, .ref 0), (1, .int (nI si)), (2, .int (nI ei)), (3, .int t), (4, .long (smE (enF (gA S 2) (gA S 6) (gA S 17 si)) (fun x => decide (tickF x.2 = t)) ((plR (gA S 5) b (gA S 12 si, gA S 13 si) (gA S 15 ei, gA S 16 ei) 0 ((gI S 0 9).toNatClampNeg + 1)).take i))), (6, .int (nI i))]) (st' := [.ref 6, .int (gA S9 17 (nI si).toNatClampNeg), .int (nI i), .ref 0, .long (smE (enF (gA S 2) (gA S 6) (gA S 17 si)) (fun x => decide (tickF x.2 = t)) ((plR (gA S 5) b (gA S 12 si, gA S 13 si) (gA S 15 ei, gA S 16 ei) 0 ((gI S 0 9).toNatClampNeg + 1)).take i))]) (S' := S9) (P := vp_in (nI si) 4 ∧ True) rfl ⟨(vp_in_nI (by omega) (by decide)), trivial⟩ ?_
        refine fV.callV (M2 := mX7_energyOf) (d := d + 9) (o := 0) (av := [.int (nI i), .int (gA S9 17 (nI si).toNatClampNeg), .ref 6]) (rest := [.long (smE (enF (gA S 2) (gA S 6) (gA S 17 si)) (fun x => decide (tickF x.2 = t)) ((plR (gA S 5) b (gA S 12 si, gA S 13 si) (gA S 15 ei, gA S 16 ei) 0 ((gI S 0 9).toNatClampNeg + 1)).take i))]) kX7_energyOf dX7_at_89 lX7_146 rfl rfl rfl (Nat.le_of_ble_eq_true rfl) (fRoom (by decide)) ⟨Nat.le_refl _, Nat.le_refl _⟩ (qX7_en_6 (S := S9) hb16 hF9 hp9 hq9 hx9 hsf9) ?_
        rintro _ S8 ⟨rfl, h9⟩
        rw [h9, e2, e6, e17, nI_clamp (by omega)]
        clear h9 S8
        refine fV.to (pc' := 92) (L' := [(0, .ref 0), (1, .int (nI si)), (2, .int (nI ei)), (3, .int t), (4, .long (smE (enF (gA S 2) (gA S 6) (gA S 17 si)) (fun x => decide (tickF x.2 = t)) ((plR (gA S 5) b (gA S 12 si, gA S 13 si) (gA S 15 ei, gA S 16 ei) 0 ((gI S 0 9).toNatClampNeg + 1)).take i))), (6, .int (nI i))]) (st' := [.long (enF (gA S 2) (gA S 6) (gA S 17 si) x9), .long (smE (enF (gA S 2) (gA S 6) (gA S 17 si)) (fun x => decide (tickF x.2 = t)) ((plR (gA S 5) b (gA S 12 si, gA S 13 si) (gA S 15 ei, gA S 16 ei) 0 ((gI S 0 9).toNatClampNeg + 1)).take i))]) (S' := S9) rfl rfl rfl rfl ?_
        refine fV.run iX7_at_92_4 oX7_at_92_4 (pc' := 45) (L' := [(0, .ref 0), (1, .int (nI si)), (2, .int (nI ei)), (3, .int t), (4, .long ((smE (enF (gA S 2) (gA S 6) (gA S 17 si)) (fun x => decide (tickF x.2 = t)) ((plR (gA S 5) b (gA S 12 si, gA S 13 si) (gA S 15 ei, gA S 16 ei) 0 ((gI S 0 9).toNatClampNeg + 1)).take i)) + (enF (gA S 2) (gA S 6) (gA S 17 si) x9))), (6, .int ((nI i) + 1))]) (st' := []) (S' := S9) rfl trivial ?_
        refine fV.to (L' := [(0, .ref 0), (1, .int (nI si)), (2, .int (nI ei)), (3, .int t), (4, .long (smE (enF (gA S 2) (gA S 6) (gA S 17 si)) (fun x => decide (tickF x.2 = t)) ((plR (gA S 5) b (gA S 12 si, gA S 13 si) (gA S 15 ei, gA S 16 ei) 0 ((gI S 0 9).toNatClampNeg + 1)).take (i + 1)))), (6, .int (nI (i + 1)))]) rfl (by rw [smE_s hx9, show decide (tickF x9.2 = t) = true from decide_eq_true c68, nI_1]; rfl) rfl rfl (ih (i + 1) (by omega))
def iX7_at_0_3 : List Instr := [.aload_n 0, .iload_n 1, .iload_n 2]
theorem oX7_at_0_3 : fOkB cX7_at 0 iX7_at_0_3 = true := by decide +kernel
theorem dX7_at_3 : decode cX7_at 3 = .ok (.invokevirtual 125, 3) := by decide +kernel
theorem bX7_at_6 : fBk cX7_at 6 (.ifCond .ne) 13 := ⟨7, by decide +kernel, by decide⟩
def iX7_at_13_3 : List Instr := [.iload_n 3, .iconst 0, .sipush 300]
theorem oX7_at_13_3 : fOkB cX7_at 13 iX7_at_13_3 = true := by decide +kernel
theorem dX7_at_18 : decode cX7_at 18 = .ok (.invokestatic 74, 3) := by decide +kernel
theorem bX7_at_21 : fBk cX7_at 21 (.ifCond .ne) 28 := ⟨7, by decide +kernel, by decide⟩
def iX7_at_28_6 : List Instr := [.aload_n 0, .iload_n 1, .iload_n 2, .iconst 0, .aload_n 0, .getfield 67]
theorem oX7_at_28_6 : fOkB cX7_at 28 iX7_at_28_6 = true := by decide +kernel
theorem dX7_at_36 : decode cX7_at 36 = .ok (.invokevirtual 128, 3) := by decide +kernel
def iX7_at_39_4 : List Instr := [.lconst 0, .lstore 4, .iconst 0, .istore 6]
theorem oX7_at_39_4 : fOkB cX7_at 39 iX7_at_39_4 = true := by decide +kernel
def iX7_at_24_1 : List Instr := [.ldc2_w 135]
theorem oX7_at_24_1 : fOkB cX7_at 24 iX7_at_24_1 = true := by decide +kernel
theorem dX7_at_27 : decode cX7_at 27 = .ok (.lreturn, 1) := by decide +kernel
def iX7_at_9_1 : List Instr := [.ldc2_w 133]
theorem oX7_at_9_1 : fOkB cX7_at 9 iX7_at_9_1 = true := by decide +kernel
theorem dX7_at_12 : decode cX7_at 12 = .ok (.lreturn, 1) := by decide +kernel
set_option maxRecDepth 100000 in
theorem qX7_at {G : fG} {d : Nat} {S : fS} (x y t : Int32) {a b c e : Nat} (H : hOk (hC S) a b c e) (HG : hGeo S b) : fCtr G (d + 10) mX7_at [.ref 0, .int x, .int y, .int t] S (fun r S' => r = some (.long (oAt (hC S) b x y t)) ∧ kp S S') := by
  refine fCtr.of bXX7_at (Nat.le_of_ble_eq_true rfl) rfl ?_
  have hb : gI S 4 6 = nI b := H.2.1.1
  have hb16 : b ≤ 16 := H.2.1.2.1
  have ha8 : a ≤ 8 := H.1.2.2.1
  have hc4 : c ≤ 4 := H.2.2.1.2.1
  have he8 : e ≤ 8 := H.2.2.2.1.2.1
  have hm3 : gI S 0 9 ≤ 3 := H.2.2.2.2.1.2
  have hm := most_N (m := gI S 0 9) H.2.2.2.2.1.1 hm3
  refine fV.run iX7_at_0_3 oX7_at_0_3 (pc' := 3) (L' := [(0, .ref 0), (1, .int x), (2, .int y), (3, .int t)]) (st' := [.int y, .int x, .ref 0]) (S' := S) rfl trivial ?_
  refine fV.callV (M2 := mX7_areThere) (d := d + 9) (o := 0) (av := [.int x, .int y]) (rest := []) kX7_areThere dX7_at_3 lX7_125 rfl rfl rfl (Nat.le_of_ble_eq_true rfl) (fRoom (by decide)) ⟨Nat.le_refl _, Nat.le_refl _⟩ (qX7_areThere _ _) ?_
  rintro _ S9 ⟨rfl, h9⟩
  rw [h9]
  clear h9 S9
  refine fV.to (pc' := 6) (L' := [(0, .ref 0), (1, .int x), (2, .int y), (3, .int t)]) (st' := [.int (fB (decide ((0 ≤ x ∧ x < (gI S 11 2)) ∧ (0 ≤ y ∧ y < (gI S 14 2)))))]) (S' := S) rfl rfl rfl rfl ?_
  refine fV.if_ne bX7_at_6 (fun c6 => ?_) (fun c6 => ?_)
  · refine fV.run iX7_at_13_3 oX7_at_13_3 (pc' := 18) (L' := [(0, .ref 0), (1, .int x), (2, .int y), (3, .int t)]) (st' := [.int 300, .int 0, .int t]) (S' := S) rfl trivial ?_
    refine fV.callS (M2 := mX7_isWithin) (d := d + 9) (av := [.int t, .int 0, .int 300]) (rest := []) kX7_isWithin dX7_at_18 lX7_74 rfl rfl (Nat.le_of_ble_eq_true rfl) (fRoom (by decide)) ⟨Nat.le_refl _, Nat.le_refl _⟩ (qX7_isWithin _ _ _) ?_
    rintro _ S9 ⟨rfl, h9⟩
    rw [h9]
    clear h9 S9
    refine fV.to (pc' := 21) (L' := [(0, .ref 0), (1, .int x), (2, .int y), (3, .int t)]) (st' := [.int (fB (decide (0 ≤ t ∧ t ≤ 300)))]) (S' := S) rfl rfl rfl rfl ?_
    refine fV.if_ne bX7_at_21 (fun c21 => ?_) (fun c21 => ?_)
    · refine fV.run iX7_at_28_6 oX7_at_28_6 (pc' := 36) (L' := [(0, .ref 0), (1, .int x), (2, .int y), (3, .int t)]) (st' := [.int (gI S 0 9), .int 0, .int y, .int x, .ref 0]) (S' := S) rfl trivial ?_
      obtain ⟨si, hsi, rfl⟩ := n_in (x := x) (n := c) (by omega) (by grind [fB]) (by rw [← show gI S 11 2 = nI c from H.2.2.1.1]; grind [fB])
      obtain ⟨ei, hei, rfl⟩ := n_in (x := y) (n := e) (by omega) (by grind [fB]) (by rw [← show gI S 14 2 = nI e from H.2.2.2.1.1]; grind [fB])
      refine fV.callV (M2 := mX7_find) (d := d + 9) (o := 0) (av := [.int (nI si), .int (nI ei), .int 0, .int (gI S 0 9)]) (rest := []) kX7_find dX7_at_36 lX7_128 rfl rfl rfl (Nat.le_of_ble_eq_true rfl) (fRoom (by decide)) ⟨Nat.le_refl _, Nat.le_refl _⟩ (qX7_find (lo := 0) (N := (gI S 0 9).toNatClampNeg + 1) H HG hsi hei (by omega) hm.1 hm.2.2 hm3) ?_
      rintro _ S9 ⟨rfl, hk9, hF9⟩
      obtain ⟨hp9, hq9, hsf9, e2, e6, e17, ebo⟩ := fnd (lo := 0) (n := (gI S 0 9).toNatClampNeg + 1) H hsi hei hk9 (by omega)
      refine fV.to (pc' := 39) (L' := [(0, .ref 0), (1, .int (nI si)), (2, .int (nI ei)), (3, .int t)]) (st' := []) (S' := S9) rfl rfl rfl rfl ?_
      refine fV.run iX7_at_39_4 oX7_at_39_4 (pc' := 45) (L' := [(0, .ref 0), (1, .int (nI si)), (2, .int (nI ei)), (3, .int t), (4, .long 0), (6, .int 0)]) (st' := []) (S' := S9) rfl trivial ?_
      rw [show oAt (hC S) b (nI si) (nI ei) t = smE (enF (gA S 2) (gA S 6) (gA S 17 si)) (fun x => decide (tickF x.2 = t)) (plR (gA S 5) b (gA S 12 si, gA S 13 si) (gA S 15 ei, gA S 16 ei) 0 ((gI S 0 9).toNatClampNeg + 1)) by unfold oAt; rw [if_pos (show thr (hC S) (nI si) (nI ei) from ⟨⟨nI_pos' (by omega), by rw [show (hC S).2.2.1.1 = nI c from H.2.2.1.1, nI_ltI (by omega) (by omega)]; exact hsi⟩, nI_pos' (by omega), by rw [show (hC S).2.2.2.1.1 = nI e from H.2.2.2.1.1, nI_ltI (by omega) (by omega)]; exact hei⟩), if_pos (by grind [fB]), nI_clamp (by omega), nI_clamp (by omega)]; rfl]
      exact lpX7_at H hsi hei hk9 hF9 _ 0 (Nat.zero_add _)
    · refine fV.run iX7_at_24_1 oX7_at_24_1 (pc' := 27) (L' := [(0, .ref 0), (1, .int x), (2, .int y), (3, .int t)]) (st' := [.long (-1002)]) (S' := S) rfl trivial ?_
      exact fV.lret rfl dX7_at_27 ⟨by unfold oAt; rw [if_pos (show thr (hC S) x y from by unfold thr; grind [fB, hC]), if_neg (by grind [fB])], kp.rf⟩
  · refine fV.run iX7_at_9_1 oX7_at_9_1 (pc' := 12) (L' := [(0, .ref 0), (1, .int x), (2, .int y), (3, .int t)]) (st' := [.long (-1001)]) (S' := S) rfl trivial ?_
    exact fV.lret rfl dX7_at_12 ⟨by unfold oAt; rw [if_neg (show ¬ thr (hC S) x y from by unfold thr; grind [fB, hC])], kp.rf⟩
end
section
/-! path, worst, sees: the landed program -/
theorem nclamp {x : Int32} (h : 0 ≤ x) : nI x.toNatClampNeg = x := by
  obtain ⟨j, h2, h3⟩ := nI_of (x := x) (by grind)
  subst h3
  rw [nI_clamp h2]
theorem q13 {q : Int32} (h : q.toInt = 1 ∨ q.toInt = 2 ∨ q.toInt = 3) : 0 ≤ q - 1 ∧ (q - 1).toNatClampNeg < 3 ∧ ¬ q = 0 ∧ ¬ q = 4 ∧ ¬ q = 5 ∧ ¬ q = 6 := by
  rcases h with h | h | h
  · obtain rfl : q = 1 := i_of_toInt h _ (by decide)
    decide
  · obtain rfl : q = 2 := i_of_toInt h _ (by decide)
    decide
  · obtain rfl : q = 3 := i_of_toInt h _ (by decide)
    decide
theorem q13d {q : Int32} (h : ¬ fB (decide (0 ≤ q ∧ q ≤ 6)) = 0) (hx : q.toInt < 0 ∨ 6 < q.toInt) : 0 ≤ q - 1 ∧ (q - 1).toNatClampNeg < 3 ∧ ¬ q = 0 ∧ ¬ q = 4 ∧ ¬ q = 5 ∧ ¬ q = 6 := by
  rw [fBd1, t_le, t_le] at h
  have t0 : (0 : Int32).toInt = 0 := by decide
  have t6 : (6 : Int32).toInt = 6 := by decide
  omega
theorem pthA_y {h : hH} {b s t n : Nat} {q : Int32} {x : pTh} (hx : (plM h b s t)[n]? = some x) (hn : n < 2 ^ 31) : pthA h b s t (nI n) q = if q = 0 then (nI x.1.length).toInt64 else if q = 4 then x.2 else if q = 5 then enH h s x else if q = 6 then (tickF x.2).toInt64 else (wOf x.1 (q - 1).toNatClampNeg).toInt64 := by
  unfold pthA
  rw [nI_clamp hn, hx]
theorem path_none {h : hH} {b s t : Nat} {i q : Int32} (hc : 0 ≤ i → (plM h b s t).length ≤ i.toNatClampNeg) : (if 0 ≤ i then pthA h b s t i q else -1) = -1 := by
  by_cases h0 : 0 ≤ i
  · rw [if_pos h0]; unfold pthA; rw [List.getElem?_eq_none (hc h0)]
  · rw [if_neg h0]
theorem pth_out {S9 : fS} {n : Nat} {i : Int32} (hF : gI S9 24 3 = nI n) (hn : n ≤ 3857) (h0 : 0 ≤ i) (h : ¬ (0 ≤ i ∧ i ≤ gI S9 24 3 - 1)) : n ≤ i.toNatClampNeg := by
  rcases Nat.lt_or_ge i.toNatClampNeg n with q | q
  · exfalso
    apply h
    refine ⟨h0, ?_⟩
    have e := nclamp h0
    rw [← e, hF]
    obtain ⟨m, rfl⟩ : ∃ m, n = m + 1 := ⟨n - 1, by omega⟩
    rw [nI_pred]
    exact (nI_leI (by omega) (by omega)).mpr (by omega)
  · exact q
def iX7_path_0_3 : List Instr := [.aload_n 0, .iload_n 1, .iload_n 2]
theorem oX7_path_0_3 : fOkB cX7_path 0 iX7_path_0_3 = true := by decide +kernel
theorem dX7_path_3 : decode cX7_path 3 = .ok (.invokevirtual 125, 3) := by decide +kernel
theorem bX7_path_6 : fBk cX7_path 6 (.ifCond .ne) 13 := ⟨7, by decide +kernel, by decide⟩
def iX7_path_13_3 : List Instr := [.iload 4, .iconst 0, .bipush 6]
theorem oX7_path_13_3 : fOkB cX7_path 13 iX7_path_13_3 = true := by decide +kernel
theorem dX7_path_18 : decode cX7_path 18 = .ok (.invokestatic 74, 3) := by decide +kernel
theorem bX7_path_21 : fBk cX7_path 21 (.ifCond .ne) 28 := ⟨7, by decide +kernel, by decide⟩
def iX7_path_28_6 : List Instr := [.aload_n 0, .iload_n 1, .iload_n 2, .iconst 0, .aload_n 0, .getfield 67]
theorem oX7_path_28_6 : fOkB cX7_path 28 iX7_path_28_6 = true := by decide +kernel
theorem dX7_path_36 : decode cX7_path 36 = .ok (.invokevirtual 128, 3) := by decide +kernel
def iX7_path_39_7 : List Instr := [.iload_n 3, .iconst 0, .aload_n 0, .getfield 49, .getfield 132, .iconst 1, .isub]
theorem oX7_path_39_7 : fOkB cX7_path 39 iX7_path_39_7 = true := by decide +kernel
theorem dX7_path_50 : decode cX7_path 50 = .ok (.invokestatic 74, 3) := by decide +kernel
theorem bX7_path_53 : fBk cX7_path 53 (.ifCond .ne) 60 := ⟨7, by decide +kernel, by decide⟩
def iX7_path_60_1 : List Instr := [.iload 4]
theorem oX7_path_60_1 : fOkB cX7_path 60 iX7_path_60_1 = true := by decide +kernel
theorem dX7_path_62 : decode cX7_path 62 = .ok (.tableswitch 92 0 6 #[42, 92, 92, 92, 52, 62, 81], 42) := by decide +kernel
def iX7_path_104_3 : List Instr := [.aload_n 0, .getfield 49, .iload_n 3]
theorem oX7_path_104_3 : fOkB cX7_path 104 iX7_path_104_3 = true := by decide +kernel
set_option maxRecDepth 100000 in
theorem lX7_139 : Cond.methodLink RX7 139 yX1_orderOf ∈ fTB := fTB_at 507 rfl rfl
theorem dX7_path_109 : decode cX7_path 109 = .ok (.invokevirtual 139, 3) := by decide +kernel
def iX7_path_112_1 : List Instr := [.i2l]
theorem oX7_path_112_1 : fOkB cX7_path 112 iX7_path_112_1 = true := by decide +kernel
theorem dX7_path_113 : decode cX7_path 113 = .ok (.lreturn, 1) := by decide +kernel
def iX7_path_154_6 : List Instr := [.aload_n 0, .getfield 49, .iload_n 3, .iload 4, .iconst 1, .isub]
theorem oX7_path_154_6 : fOkB cX7_path 154 iX7_path_154_6 = true := by decide +kernel
theorem dX7_path_163 : decode cX7_path 163 = .ok (.invokevirtual 153, 3) := by decide +kernel
def iX7_path_166_1 : List Instr := [.i2l]
theorem oX7_path_166_1 : fOkB cX7_path 166 iX7_path_166_1 = true := by decide +kernel
theorem dX7_path_167 : decode cX7_path 167 = .ok (.lreturn, 1) := by decide +kernel
def iX7_path_114_5 : List Instr := [.aload_n 0, .getfield 49, .getfield 142, .iload_n 3, .laload]
theorem oX7_path_114_5 : fOkB cX7_path 114 iX7_path_114_5 = true := by decide +kernel
theorem dX7_path_123 : decode cX7_path 123 = .ok (.lreturn, 1) := by decide +kernel
def iX7_path_124_9 : List Instr := [.aload_n 0, .iload_n 3, .aload_n 0, .getfield 35, .iload_n 1, .iaload, .aload_n 0, .getfield 19, .getfield 94]
theorem oX7_path_124_9 : fOkB cX7_path 124 iX7_path_124_9 = true := by decide +kernel
theorem dX7_path_139 : decode cX7_path 139 = .ok (.invokevirtual 146, 3) := by decide +kernel
theorem dX7_path_142 : decode cX7_path 142 = .ok (.lreturn, 1) := by decide +kernel
def iX7_path_143_5 : List Instr := [.aload_n 0, .getfield 49, .getfield 150, .iload_n 3, .iaload]
theorem oX7_path_143_5 : fOkB cX7_path 143 iX7_path_143_5 = true := by decide +kernel
def iX7_path_152_1 : List Instr := [.i2l]
theorem oX7_path_152_1 : fOkB cX7_path 152 iX7_path_152_1 = true := by decide +kernel
theorem dX7_path_153 : decode cX7_path 153 = .ok (.lreturn, 1) := by decide +kernel
def iX7_path_56_1 : List Instr := [.ldc2_w 137]
theorem oX7_path_56_1 : fOkB cX7_path 56 iX7_path_56_1 = true := by decide +kernel
theorem dX7_path_59 : decode cX7_path 59 = .ok (.lreturn, 1) := by decide +kernel
def iX7_path_24_1 : List Instr := [.ldc2_w 135]
theorem oX7_path_24_1 : fOkB cX7_path 24 iX7_path_24_1 = true := by decide +kernel
theorem dX7_path_27 : decode cX7_path 27 = .ok (.lreturn, 1) := by decide +kernel
def iX7_path_9_1 : List Instr := [.ldc2_w 133]
theorem oX7_path_9_1 : fOkB cX7_path 9 iX7_path_9_1 = true := by decide +kernel
theorem dX7_path_12 : decode cX7_path 12 = .ok (.lreturn, 1) := by decide +kernel
set_option maxRecDepth 100000 in
theorem qX7_path {G : fG} {d : Nat} {S : fS} (x y i q : Int32) {a b c e : Nat} (H : hOk (hC S) a b c e) (HG : hGeo S b) : fCtr G (d + 10) mX7_path [.ref 0, .int x, .int y, .int i, .int q] S (fun r S' => r = some (.long (oPath (hC S) b x y i q)) ∧ kp S S') := by
  refine fCtr.of bXX7_path (Nat.le_of_ble_eq_true rfl) rfl ?_
  have hb : gI S 4 6 = nI b := H.2.1.1
  have hb16 : b ≤ 16 := H.2.1.2.1
  have ha8 : a ≤ 8 := H.1.2.2.1
  have hc4 : c ≤ 4 := H.2.2.1.2.1
  have he8 : e ≤ 8 := H.2.2.2.1.2.1
  have hm3 : gI S 0 9 ≤ 3 := H.2.2.2.2.1.2
  have hm := most_N (m := gI S 0 9) H.2.2.2.2.1.1 hm3
  refine fV.run iX7_path_0_3 oX7_path_0_3 (pc' := 3) (L' := [(0, .ref 0), (1, .int x), (2, .int y), (3, .int i), (4, .int q)]) (st' := [.int y, .int x, .ref 0]) (S' := S) rfl trivial ?_
  refine fV.callV (M2 := mX7_areThere) (d := d + 9) (o := 0) (av := [.int x, .int y]) (rest := []) kX7_areThere dX7_path_3 lX7_125 rfl rfl rfl (Nat.le_of_ble_eq_true rfl) (fRoom (by decide)) ⟨Nat.le_refl _, Nat.le_refl _⟩ (qX7_areThere _ _) ?_
  rintro _ S9 ⟨rfl, h9⟩
  rw [h9]
  clear h9 S9
  refine fV.to (pc' := 6) (L' := [(0, .ref 0), (1, .int x), (2, .int y), (3, .int i), (4, .int q)]) (st' := [.int (fB (decide ((0 ≤ x ∧ x < (gI S 11 2)) ∧ (0 ≤ y ∧ y < (gI S 14 2)))))]) (S' := S) rfl rfl rfl rfl ?_
  refine fV.if_ne bX7_path_6 (fun c6 => ?_) (fun c6 => ?_)
  · refine fV.run iX7_path_13_3 oX7_path_13_3 (pc' := 18) (L' := [(0, .ref 0), (1, .int x), (2, .int y), (3, .int i), (4, .int q)]) (st' := [.int 6, .int 0, .int q]) (S' := S) rfl trivial ?_
    refine fV.callS (M2 := mX7_isWithin) (d := d + 9) (av := [.int q, .int 0, .int 6]) (rest := []) kX7_isWithin dX7_path_18 lX7_74 rfl rfl (Nat.le_of_ble_eq_true rfl) (fRoom (by decide)) ⟨Nat.le_refl _, Nat.le_refl _⟩ (qX7_isWithin _ _ _) ?_
    rintro _ S9 ⟨rfl, h9⟩
    rw [h9]
    clear h9 S9
    refine fV.to (pc' := 21) (L' := [(0, .ref 0), (1, .int x), (2, .int y), (3, .int i), (4, .int q)]) (st' := [.int (fB (decide (0 ≤ q ∧ q ≤ 6)))]) (S' := S) rfl rfl rfl rfl ?_
    refine fV.if_ne bX7_path_21 (fun c21 => ?_) (fun c21 => ?_)
    · refine fV.run iX7_path_28_6 oX7_path_28_6 (pc' := 36) (L' := [(0, .ref 0), (1, .int x), (2, .int y), (3, .int i), (4, .int q)]) (st' := [.int (gI S 0 9), .int 0, .int y, .int x, .ref 0]) (S' := S) rfl trivial ?_
      obtain ⟨si, hsi, rfl⟩ := n_in (x := x) (n := c) (by omega) (by grind [fB]) (by rw [← show gI S 11 2 = nI c from H.2.2.1.1]; grind [fB])
      obtain ⟨ei, hei, rfl⟩ := n_in (x := y) (n := e) (by omega) (by grind [fB]) (by rw [← show gI S 14 2 = nI e from H.2.2.2.1.1]; grind [fB])
      refine fV.callV (M2 := mX7_find) (d := d + 9) (o := 0) (av := [.int (nI si), .int (nI ei), .int 0, .int (gI S 0 9)]) (rest := []) kX7_find dX7_path_36 lX7_128 rfl rfl rfl (Nat.le_of_ble_eq_true rfl) (fRoom (by decide)) ⟨Nat.le_refl _, Nat.le_refl _⟩ (qX7_find (lo := 0) (N := (gI S 0 9).toNatClampNeg + 1) H HG hsi hei (by omega) hm.1 hm.2.2 hm3) ?_
      rintro _ S9 ⟨rfl, hk9, hF9⟩
      obtain ⟨hp9, hq9, hsf9, e2, e6, e17, ebo⟩ := fnd (lo := 0) (n := (gI S 0 9).toNatClampNeg + 1) H hsi hei hk9 (by omega)
      refine fV.to (pc' := 39) (L' := [(0, .ref 0), (1, .int (nI si)), (2, .int (nI ei)), (3, .int i), (4, .int q)]) (st' := []) (S' := S9) rfl rfl rfl rfl ?_
      refine fV.run iX7_path_39_7 oX7_path_39_7 (pc' := 50) (L' := [(0, .ref 0), (1, .int (nI si)), (2, .int (nI ei)), (3, .int i), (4, .int q)]) (st' := [.int ((gI S9 24 3) - 1), .int 0, .int i]) (S' := S9) rfl trivial ?_
      refine fV.callS (M2 := mX7_isWithin) (d := d + 9) (av := [.int i, .int 0, .int ((gI S9 24 3) - 1)]) (rest := []) kX7_isWithin dX7_path_50 lX7_74 rfl rfl (Nat.le_of_ble_eq_true rfl) (fRoom (by decide)) ⟨Nat.le_refl _, Nat.le_refl _⟩ (qX7_isWithin _ _ _) ?_
      rintro _ S9 ⟨rfl, h9⟩
      rw [h9]
      clear h9 S9
      refine fV.to (pc' := 53) (L' := [(0, .ref 0), (1, .int (nI si)), (2, .int (nI ei)), (3, .int i), (4, .int q)]) (st' := [.int (fB (decide (0 ≤ i ∧ i ≤ ((gI S9 24 3) - 1))))]) (S' := S9) rfl rfl rfl rfl ?_
      refine fV.if_ne bX7_path_53 (fun c53 => ?_) (fun c53 => ?_)
      · refine fV.run iX7_path_60_1 oX7_path_60_1 (pc' := 62) (L' := [(0, .ref 0), (1, .int (nI si)), (2, .int (nI ei)), (3, .int i), (4, .int q)]) (st' := [.int q]) (S' := S9) rfl trivial ?_
        have h0 : 0 ≤ gI S9 24 3 := by rw [hF9.1]; exact nI_pos' (by have := hF9.2.1; omega)
        obtain ⟨n, hn, rfl⟩ := n_in (x := i) (n := (plR (gA S 5) b (gA S 12 si, gA S 13 si) (gA S 15 ei, gA S 16 ei) 0 ((gI S 0 9).toNatClampNeg + 1)).length) (by have := hF9.2.1; omega) (by grind [fB]) (by rw [← hF9.1]; grind [fB])
        obtain ⟨x9, hx9⟩ : ∃ x9, (plR (gA S 5) b (gA S 12 si, gA S 13 si) (gA S 15 ei, gA S 16 ei) 0 ((gI S 0 9).toNatClampNeg + 1))[n]? = some x9 := ⟨_, List.getElem?_eq_getElem hn⟩
        have hn38 : n < 3857 := by have := hF9.2.1; omega
        refine fV.tsw (tgt := 154) dX7_path_62 (by decide) (fun h1 h2 => ?_) (fun hx => ?_)
        · rcases (show Int32.toInt q = 0 ∨ Int32.toInt q = 1 ∨ Int32.toInt q = 2 ∨ Int32.toInt q = 3 ∨ Int32.toInt q = 4 ∨ Int32.toInt q = 5 ∨ Int32.toInt q = 6 by omega) with hx | hx | hx | hx | hx | hx | hx
          · refine ⟨42, 104, by rw [hx]; rfl, by decide, ?_⟩
            refine fV.run iX7_path_104_3 oX7_path_104_3 (pc' := 109) (L' := [(0, .ref 0), (1, .int (nI si)), (2, .int (nI ei)), (3, .int (nI n)), (4, .int q)]) (st' := [.int (nI n), .ref 24]) (S' := S9) rfl trivial ?_
            refine fV.callV (M2 := mX1_orderOf) (d := d + 9) (o := 24) (av := [.int (nI n)]) (rest := []) kX1_orderOf dX7_path_109 lX7_139 rfl rfl rfl (Nat.le_of_ble_eq_true rfl) (fRoom (by decide)) ⟨Nat.le_refl _, Nat.le_refl _⟩ (qX1_ord (S := S9) hb16 hF9 hp9 hx9) ?_
            rintro _ S9 ⟨rfl, h9⟩
            rw [h9]
            clear h9 S9
            refine fV.to (pc' := 112) (L' := [(0, .ref 0), (1, .int (nI si)), (2, .int (nI ei)), (3, .int (nI n)), (4, .int q)]) (st' := [.int (nI x9.1.length)]) (S' := S9) rfl rfl rfl rfl ?_
            refine fV.run iX7_path_112_1 oX7_path_112_1 (pc' := 113) (L' := [(0, .ref 0), (1, .int (nI si)), (2, .int (nI ei)), (3, .int (nI n)), (4, .int q)]) (st' := [.long (Int32.toInt64 (nI x9.1.length))]) (S' := S9) rfl trivial ?_
            exact fV.lret rfl dX7_path_113 ⟨by unfold oPath; rw [if_pos (show thr (hC S) (nI si) (nI ei) from ⟨⟨nI_pos' (by omega), by rw [show (hC S).2.2.1.1 = nI c from H.2.2.1.1, nI_ltI (by omega) (by omega)]; exact hsi⟩, nI_pos' (by omega), by rw [show (hC S).2.2.2.1.1 = nI e from H.2.2.2.1.1, nI_ltI (by omega) (by omega)]; exact hei⟩), if_pos (by grind [fB]), if_pos (nI_pos' (by omega)), nI_clamp (by omega), nI_clamp (by omega), pthA_y (show (plM (hC S) b si ei)[n]? = some x9 from hx9) (by omega)]; (have ht : q = 0 := i_of_toInt hx _ (by decide)); subst ht; rfl, hk9⟩
          · refine ⟨92, 154, by rw [hx]; rfl, by decide, ?_⟩
            refine fV.run iX7_path_154_6 oX7_path_154_6 (pc' := 163) (L' := [(0, .ref 0), (1, .int (nI si)), (2, .int (nI ei)), (3, .int (nI n)), (4, .int q)]) (st' := [.int (q - 1), .int (nI n), .ref 24]) (S' := S9) rfl trivial ?_
            refine fV.to (L' := [(0, .ref 0), (1, .int (nI si)), (2, .int (nI ei)), (3, .int (nI n)), (4, .int q)]) (st' := [.int (nI (q - 1).toNatClampNeg), .int (nI n), .ref 24]) rfl rfl (congrArg (fun z9 => ([.int z9, .int (nI n), .ref 24] : List Value)) (show (q - 1 : Int32) = nI (q - 1).toNatClampNeg from (nclamp (show 0 ≤ q - 1 ∧ (q - 1).toNatClampNeg < 3 ∧ ¬ q = 0 ∧ ¬ q = 4 ∧ ¬ q = 5 ∧ ¬ q = 6 from by first | exact q13 (Or.inl hx) | exact q13 (Or.inr (Or.inl hx)) | exact q13 (Or.inr (Or.inr hx)) | exact q13d c21 hx).1).symm)) rfl ?_
            refine fV.callV (M2 := mX1_wallOf) (d := d + 9) (o := 24) (av := [.int (nI n), .int (nI (q - 1).toNatClampNeg)]) (rest := []) kX1_wallOf dX7_path_163 lX7_153 rfl rfl rfl (Nat.le_of_ble_eq_true rfl) (fRoom (by decide)) ⟨Nat.le_refl _, Nat.le_refl _⟩ (qX1_wallOf (S := S9) (t := (q - 1).toNatClampNeg) hb16 hF9 hp9 hx9 (show 0 ≤ q - 1 ∧ (q - 1).toNatClampNeg < 3 ∧ ¬ q = 0 ∧ ¬ q = 4 ∧ ¬ q = 5 ∧ ¬ q = 6 from by first | exact q13 (Or.inl hx) | exact q13 (Or.inr (Or.inl hx)) | exact q13 (Or.inr (Or.inr hx)) | exact q13d c21 hx).2.1) ?_
            rintro _ S9 ⟨rfl, h9⟩
            rw [h9]
            clear h9 S9
            refine fV.to (pc' := 166) (L' := [(0, .ref 0), (1, .int (nI si)), (2, .int (nI ei)), (3, .int (nI n)), (4, .int q)]) (st' := [.int (wOf x9.1 (q - 1).toNatClampNeg)]) (S' := S9) rfl rfl rfl rfl ?_
            refine fV.run iX7_path_166_1 oX7_path_166_1 (pc' := 167) (L' := [(0, .ref 0), (1, .int (nI si)), (2, .int (nI ei)), (3, .int (nI n)), (4, .int q)]) (st' := [.long (Int32.toInt64 (wOf x9.1 (q - 1).toNatClampNeg))]) (S' := S9) rfl trivial ?_
            exact fV.lret rfl dX7_path_167 ⟨by unfold oPath; rw [if_pos (show thr (hC S) (nI si) (nI ei) from ⟨⟨nI_pos' (by omega), by rw [show (hC S).2.2.1.1 = nI c from H.2.2.1.1, nI_ltI (by omega) (by omega)]; exact hsi⟩, nI_pos' (by omega), by rw [show (hC S).2.2.2.1.1 = nI e from H.2.2.2.1.1, nI_ltI (by omega) (by omega)]; exact hei⟩), if_pos (by grind [fB]), if_pos (nI_pos' (by omega)), nI_clamp (by omega), nI_clamp (by omega), pthA_y (show (plM (hC S) b si ei)[n]? = some x9 from hx9) (by omega)]; (obtain ⟨z1, z2, z3, z4, z5, z6⟩ := (show 0 ≤ q - 1 ∧ (q - 1).toNatClampNeg < 3 ∧ ¬ q = 0 ∧ ¬ q = 4 ∧ ¬ q = 5 ∧ ¬ q = 6 from (by first | exact q13 (Or.inl hx) | exact q13 (Or.inr (Or.inl hx)) | exact q13 (Or.inr (Or.inr hx)) | exact q13d c21 hx))); rw [if_neg z3, if_neg z4, if_neg z5, if_neg z6], hk9⟩
          · refine ⟨92, 154, by rw [hx]; rfl, by decide, ?_⟩
            refine fV.run iX7_path_154_6 oX7_path_154_6 (pc' := 163) (L' := [(0, .ref 0), (1, .int (nI si)), (2, .int (nI ei)), (3, .int (nI n)), (4, .int q)]) (st' := [.int (q - 1), .int (nI n), .ref 24]) (S' := S9) rfl trivial ?_
            refine fV.to (L' := [(0, .ref 0), (1, .int (nI si)), (2, .int (nI ei)), (3, .int (nI n)), (4, .int q)]) (st' := [.int (nI (q - 1).toNatClampNeg), .int (nI n), .ref 24]) rfl rfl (congrArg (fun z9 => ([.int z9, .int (nI n), .ref 24] : List Value)) (show (q - 1 : Int32) = nI (q - 1).toNatClampNeg from (nclamp (show 0 ≤ q - 1 ∧ (q - 1).toNatClampNeg < 3 ∧ ¬ q = 0 ∧ ¬ q = 4 ∧ ¬ q = 5 ∧ ¬ q = 6 from by first | exact q13 (Or.inl hx) | exact q13 (Or.inr (Or.inl hx)) | exact q13 (Or.inr (Or.inr hx)) | exact q13d c21 hx).1).symm)) rfl ?_
            refine fV.callV (M2 := mX1_wallOf) (d := d + 9) (o := 24) (av := [.int (nI n), .int (nI (q - 1).toNatClampNeg)]) (rest := []) kX1_wallOf dX7_path_163 lX7_153 rfl rfl rfl (Nat.le_of_ble_eq_true rfl) (fRoom (by decide)) ⟨Nat.le_refl _, Nat.le_refl _⟩ (qX1_wallOf (S := S9) (t := (q - 1).toNatClampNeg) hb16 hF9 hp9 hx9 (show 0 ≤ q - 1 ∧ (q - 1).toNatClampNeg < 3 ∧ ¬ q = 0 ∧ ¬ q = 4 ∧ ¬ q = 5 ∧ ¬ q = 6 from by first | exact q13 (Or.inl hx) | exact q13 (Or.inr (Or.inl hx)) | exact q13 (Or.inr (Or.inr hx)) | exact q13d c21 hx).2.1) ?_
            rintro _ S9 ⟨rfl, h9⟩
            rw [h9]
            clear h9 S9
            refine fV.to (pc' := 166) (L' := [(0, .ref 0), (1, .int (nI si)), (2, .int (nI ei)), (3, .int (nI n)), (4, .int q)]) (st' := [.int (wOf x9.1 (q - 1).toNatClampNeg)]) (S' := S9) rfl rfl rfl rfl ?_
            refine fV.run iX7_path_166_1 oX7_path_166_1 (pc' := 167) (L' := [(0, .ref 0), (1, .int (nI si)), (2, .int (nI ei)), (3, .int (nI n)), (4, .int q)]) (st' := [.long (Int32.toInt64 (wOf x9.1 (q - 1).toNatClampNeg))]) (S' := S9) rfl trivial ?_
            exact fV.lret rfl dX7_path_167 ⟨by unfold oPath; rw [if_pos (show thr (hC S) (nI si) (nI ei) from ⟨⟨nI_pos' (by omega), by rw [show (hC S).2.2.1.1 = nI c from H.2.2.1.1, nI_ltI (by omega) (by omega)]; exact hsi⟩, nI_pos' (by omega), by rw [show (hC S).2.2.2.1.1 = nI e from H.2.2.2.1.1, nI_ltI (by omega) (by omega)]; exact hei⟩), if_pos (by grind [fB]), if_pos (nI_pos' (by omega)), nI_clamp (by omega), nI_clamp (by omega), pthA_y (show (plM (hC S) b si ei)[n]? = some x9 from hx9) (by omega)]; (obtain ⟨z1, z2, z3, z4, z5, z6⟩ := (show 0 ≤ q - 1 ∧ (q - 1).toNatClampNeg < 3 ∧ ¬ q = 0 ∧ ¬ q = 4 ∧ ¬ q = 5 ∧ ¬ q = 6 from (by first | exact q13 (Or.inl hx) | exact q13 (Or.inr (Or.inl hx)) | exact q13 (Or.inr (Or.inr hx)) | exact q13d c21 hx))); rw [if_neg z3, if_neg z4, if_neg z5, if_neg z6], hk9⟩
          · refine ⟨92, 154, by rw [hx]; rfl, by decide, ?_⟩
            refine fV.run iX7_path_154_6 oX7_path_154_6 (pc' := 163) (L' := [(0, .ref 0), (1, .int (nI si)), (2, .int (nI ei)), (3, .int (nI n)), (4, .int q)]) (st' := [.int (q - 1), .int (nI n), .ref 24]) (S' := S9) rfl trivial ?_
            refine fV.to (L' := [(0, .ref 0), (1, .int (nI si)), (2, .int (nI ei)), (3, .int (nI n)), (4, .int q)]) (st' := [.int (nI (q - 1).toNatClampNeg), .int (nI n), .ref 24]) rfl rfl (congrArg (fun z9 => ([.int z9, .int (nI n), .ref 24] : List Value)) (show (q - 1 : Int32) = nI (q - 1).toNatClampNeg from (nclamp (show 0 ≤ q - 1 ∧ (q - 1).toNatClampNeg < 3 ∧ ¬ q = 0 ∧ ¬ q = 4 ∧ ¬ q = 5 ∧ ¬ q = 6 from by first | exact q13 (Or.inl hx) | exact q13 (Or.inr (Or.inl hx)) | exact q13 (Or.inr (Or.inr hx)) | exact q13d c21 hx).1).symm)) rfl ?_
            refine fV.callV (M2 := mX1_wallOf) (d := d + 9) (o := 24) (av := [.int (nI n), .int (nI (q - 1).toNatClampNeg)]) (rest := []) kX1_wallOf dX7_path_163 lX7_153 rfl rfl rfl (Nat.le_of_ble_eq_true rfl) (fRoom (by decide)) ⟨Nat.le_refl _, Nat.le_refl _⟩ (qX1_wallOf (S := S9) (t := (q - 1).toNatClampNeg) hb16 hF9 hp9 hx9 (show 0 ≤ q - 1 ∧ (q - 1).toNatClampNeg < 3 ∧ ¬ q = 0 ∧ ¬ q = 4 ∧ ¬ q = 5 ∧ ¬ q = 6 from by first | exact q13 (Or.inl hx) | exact q13 (Or.inr (Or.inl hx)) | exact q13 (Or.inr (Or.inr hx)) | exact q13d c21 hx).2.1) ?_
            rintro _ S9 ⟨rfl, h9⟩
            rw [h9]
            clear h9 S9
            refine fV.to (pc' := 166) (L' := [(0, .ref 0), (1, .int (nI si)), (2, .int (nI ei)), (3, .int (nI n)), (4, .int q)]) (st' := [.int (wOf x9.1 (q - 1).toNatClampNeg)]) (S' := S9) rfl rfl rfl rfl ?_
            refine fV.run iX7_path_166_1 oX7_path_166_1 (pc' := 167) (L' := [(0, .ref 0), (1, .int (nI si)), (2, .int (nI ei)), (3, .int (nI n)), (4, .int q)]) (st' := [.long (Int32.toInt64 (wOf x9.1 (q - 1).toNatClampNeg))]) (S' := S9) rfl trivial ?_
            exact fV.lret rfl dX7_path_167 ⟨by unfold oPath; rw [if_pos (show thr (hC S) (nI si) (nI ei) from ⟨⟨nI_pos' (by omega), by rw [show (hC S).2.2.1.1 = nI c from H.2.2.1.1, nI_ltI (by omega) (by omega)]; exact hsi⟩, nI_pos' (by omega), by rw [show (hC S).2.2.2.1.1 = nI e from H.2.2.2.1.1, nI_ltI (by omega) (by omega)]; exact hei⟩), if_pos (by grind [fB]), if_pos (nI_pos' (by omega)), nI_clamp (by omega), nI_clamp (by omega), pthA_y (show (plM (hC S) b si ei)[n]? = some x9 from hx9) (by omega)]; (obtain ⟨z1, z2, z3, z4, z5, z6⟩ := (show 0 ≤ q - 1 ∧ (q - 1).toNatClampNeg < 3 ∧ ¬ q = 0 ∧ ¬ q = 4 ∧ ¬ q = 5 ∧ ¬ q = 6 from (by first | exact q13 (Or.inl hx) | exact q13 (Or.inr (Or.inl hx)) | exact q13 (Or.inr (Or.inr hx)) | exact q13d c21 hx))); rw [if_neg z3, if_neg z4, if_neg z5, if_neg z6], hk9⟩
          · refine ⟨52, 114, by rw [hx]; rfl, by decide, ?_⟩
            refine fV.run iX7_path_114_5 oX7_path_114_5 (pc' := 123) (L' := [(0, .ref 0), (1, .int (nI si)), (2, .int (nI ei)), (3, .int (nI n)), (4, .int q)]) (st' := [.long (gB S9 26 (nI n).toNatClampNeg)]) (S' := S9) (P := vp_in (nI n) 3857 ∧ True) rfl ⟨(vp_in_nI (by omega) (by decide)), trivial⟩ ?_
            refine fV.to (L' := [(0, .ref 0), (1, .int (nI si)), (2, .int (nI ei)), (3, .int (nI n)), (4, .int q)]) (st' := [.long x9.2]) rfl rfl (by rw [show (gB S9 26 (nI n).toNatClampNeg : Int64) = x9.2 from by rw [nI_clamp (by omega)]; exact (hF9.2.2.2 n x9 hx9).2.1]) rfl ?_
            exact fV.lret rfl dX7_path_123 ⟨by unfold oPath; rw [if_pos (show thr (hC S) (nI si) (nI ei) from ⟨⟨nI_pos' (by omega), by rw [show (hC S).2.2.1.1 = nI c from H.2.2.1.1, nI_ltI (by omega) (by omega)]; exact hsi⟩, nI_pos' (by omega), by rw [show (hC S).2.2.2.1.1 = nI e from H.2.2.2.1.1, nI_ltI (by omega) (by omega)]; exact hei⟩), if_pos (by grind [fB]), if_pos (nI_pos' (by omega)), nI_clamp (by omega), nI_clamp (by omega), pthA_y (show (plM (hC S) b si ei)[n]? = some x9 from hx9) (by omega)]; (have ht : q = 4 := i_of_toInt hx _ (by decide)); subst ht; rfl, hk9⟩
          · refine ⟨62, 124, by rw [hx]; rfl, by decide, ?_⟩
            refine fV.run iX7_path_124_9 oX7_path_124_9 (pc' := 139) (L' := [(0, .ref 0), (1, .int (nI si)), (2, .int (nI ei)), (3, .int (nI n)), (4, .int q)]) (st' := [.ref 6, .int (gA S9 17 (nI si).toNatClampNeg), .int (nI n), .ref 0]) (S' := S9) (P := vp_in (nI si) 4 ∧ True) rfl ⟨(vp_in_nI (by omega) (by decide)), trivial⟩ ?_
            refine fV.callV (M2 := mX7_energyOf) (d := d + 9) (o := 0) (av := [.int (nI n), .int (gA S9 17 (nI si).toNatClampNeg), .ref 6]) (rest := []) kX7_energyOf dX7_path_139 lX7_146 rfl rfl rfl (Nat.le_of_ble_eq_true rfl) (fRoom (by decide)) ⟨Nat.le_refl _, Nat.le_refl _⟩ (qX7_en_6 (S := S9) hb16 hF9 hp9 hq9 hx9 hsf9) ?_
            rintro _ S8 ⟨rfl, h9⟩
            rw [h9, e2, e6, e17, nI_clamp (by omega)]
            clear h9 S8
            refine fV.to (pc' := 142) (L' := [(0, .ref 0), (1, .int (nI si)), (2, .int (nI ei)), (3, .int (nI n)), (4, .int q)]) (st' := [.long (enF (gA S 2) (gA S 6) (gA S 17 si) x9)]) (S' := S9) rfl rfl rfl rfl ?_
            exact fV.lret rfl dX7_path_142 ⟨by unfold oPath; rw [if_pos (show thr (hC S) (nI si) (nI ei) from ⟨⟨nI_pos' (by omega), by rw [show (hC S).2.2.1.1 = nI c from H.2.2.1.1, nI_ltI (by omega) (by omega)]; exact hsi⟩, nI_pos' (by omega), by rw [show (hC S).2.2.2.1.1 = nI e from H.2.2.2.1.1, nI_ltI (by omega) (by omega)]; exact hei⟩), if_pos (by grind [fB]), if_pos (nI_pos' (by omega)), nI_clamp (by omega), nI_clamp (by omega), pthA_y (show (plM (hC S) b si ei)[n]? = some x9 from hx9) (by omega)]; (have ht : q = 5 := i_of_toInt hx _ (by decide)); subst ht; rfl, hk9⟩
          · refine ⟨81, 143, by rw [hx]; rfl, by decide, ?_⟩
            refine fV.run iX7_path_143_5 oX7_path_143_5 (pc' := 152) (L' := [(0, .ref 0), (1, .int (nI si)), (2, .int (nI ei)), (3, .int (nI n)), (4, .int q)]) (st' := [.int (gA S9 27 (nI n).toNatClampNeg)]) (S' := S9) (P := vp_in (nI n) 3857 ∧ True) rfl ⟨(vp_in_nI (by omega) (by decide)), trivial⟩ ?_
            refine fV.to (L' := [(0, .ref 0), (1, .int (nI si)), (2, .int (nI ei)), (3, .int (nI n)), (4, .int q)]) (st' := [.int (tickF x9.2)]) rfl rfl (by rw [show (gA S9 27 (nI n).toNatClampNeg : Int32) = tickF x9.2 from by rw [nI_clamp (by omega)]; exact (hF9.2.2.2 n x9 hx9).2.2]) rfl ?_
            refine fV.run iX7_path_152_1 oX7_path_152_1 (pc' := 153) (L' := [(0, .ref 0), (1, .int (nI si)), (2, .int (nI ei)), (3, .int (nI n)), (4, .int q)]) (st' := [.long (Int32.toInt64 (tickF x9.2))]) (S' := S9) rfl trivial ?_
            exact fV.lret rfl dX7_path_153 ⟨by unfold oPath; rw [if_pos (show thr (hC S) (nI si) (nI ei) from ⟨⟨nI_pos' (by omega), by rw [show (hC S).2.2.1.1 = nI c from H.2.2.1.1, nI_ltI (by omega) (by omega)]; exact hsi⟩, nI_pos' (by omega), by rw [show (hC S).2.2.2.1.1 = nI e from H.2.2.2.1.1, nI_ltI (by omega) (by omega)]; exact hei⟩), if_pos (by grind [fB]), if_pos (nI_pos' (by omega)), nI_clamp (by omega), nI_clamp (by omega), pthA_y (show (plM (hC S) b si ei)[n]? = some x9 from hx9) (by omega)]; (have ht : q = 6 := i_of_toInt hx _ (by decide)); subst ht; rfl, hk9⟩
        · refine fV.run iX7_path_154_6 oX7_path_154_6 (pc' := 163) (L' := [(0, .ref 0), (1, .int (nI si)), (2, .int (nI ei)), (3, .int (nI n)), (4, .int q)]) (st' := [.int (q - 1), .int (nI n), .ref 24]) (S' := S9) rfl trivial ?_
          refine fV.to (L' := [(0, .ref 0), (1, .int (nI si)), (2, .int (nI ei)), (3, .int (nI n)), (4, .int q)]) (st' := [.int (nI (q - 1).toNatClampNeg), .int (nI n), .ref 24]) rfl rfl (congrArg (fun z9 => ([.int z9, .int (nI n), .ref 24] : List Value)) (show (q - 1 : Int32) = nI (q - 1).toNatClampNeg from (nclamp (show 0 ≤ q - 1 ∧ (q - 1).toNatClampNeg < 3 ∧ ¬ q = 0 ∧ ¬ q = 4 ∧ ¬ q = 5 ∧ ¬ q = 6 from by first | exact q13 (Or.inl hx) | exact q13 (Or.inr (Or.inl hx)) | exact q13 (Or.inr (Or.inr hx)) | exact q13d c21 hx).1).symm)) rfl ?_
          refine fV.callV (M2 := mX1_wallOf) (d := d + 9) (o := 24) (av := [.int (nI n), .int (nI (q - 1).toNatClampNeg)]) (rest := []) kX1_wallOf dX7_path_163 lX7_153 rfl rfl rfl (Nat.le_of_ble_eq_true rfl) (fRoom (by decide)) ⟨Nat.le_refl _, Nat.le_refl _⟩ (qX1_wallOf (S := S9) (t := (q - 1).toNatClampNeg) hb16 hF9 hp9 hx9 (show 0 ≤ q - 1 ∧ (q - 1).toNatClampNeg < 3 ∧ ¬ q = 0 ∧ ¬ q = 4 ∧ ¬ q = 5 ∧ ¬ q = 6 from by first | exact q13 (Or.inl hx) | exact q13 (Or.inr (Or.inl hx)) | exact q13 (Or.inr (Or.inr hx)) | exact q13d c21 hx).2.1) ?_
          rintro _ S9 ⟨rfl, h9⟩
          rw [h9]
          clear h9 S9
          refine fV.to (pc' := 166) (L' := [(0, .ref 0), (1, .int (nI si)), (2, .int (nI ei)), (3, .int (nI n)), (4, .int q)]) (st' := [.int (wOf x9.1 (q - 1).toNatClampNeg)]) (S' := S9) rfl rfl rfl rfl ?_
          refine fV.run iX7_path_166_1 oX7_path_166_1 (pc' := 167) (L' := [(0, .ref 0), (1, .int (nI si)), (2, .int (nI ei)), (3, .int (nI n)), (4, .int q)]) (st' := [.long (Int32.toInt64 (wOf x9.1 (q - 1).toNatClampNeg))]) (S' := S9) rfl trivial ?_
          exact fV.lret rfl dX7_path_167 ⟨by unfold oPath; rw [if_pos (show thr (hC S) (nI si) (nI ei) from ⟨⟨nI_pos' (by omega), by rw [show (hC S).2.2.1.1 = nI c from H.2.2.1.1, nI_ltI (by omega) (by omega)]; exact hsi⟩, nI_pos' (by omega), by rw [show (hC S).2.2.2.1.1 = nI e from H.2.2.2.1.1, nI_ltI (by omega) (by omega)]; exact hei⟩), if_pos (by grind [fB]), if_pos (nI_pos' (by omega)), nI_clamp (by omega), nI_clamp (by omega), pthA_y (show (plM (hC S) b si ei)[n]? = some x9 from hx9) (by omega)]; (obtain ⟨z1, z2, z3, z4, z5, z6⟩ := (show 0 ≤ q - 1 ∧ (q - 1).toNatClampNeg < 3 ∧ ¬ q = 0 ∧ ¬ q = 4 ∧ ¬ q = 5 ∧ ¬ q = 6 from (by first | exact q13 (Or.inl hx) | exact q13 (Or.inr (Or.inl hx)) | exact q13 (Or.inr (Or.inr hx)) | exact q13d c21 hx))); rw [if_neg z3, if_neg z4, if_neg z5, if_neg z6], hk9⟩
      · refine fV.run iX7_path_56_1 oX7_path_56_1 (pc' := 59) (L' := [(0, .ref 0), (1, .int (nI si)), (2, .int (nI ei)), (3, .int i), (4, .int q)]) (st' := [.long (-1)]) (S' := S9) rfl trivial ?_
        exact fV.lret rfl dX7_path_59 ⟨by unfold oPath; rw [if_pos (show thr (hC S) (nI si) (nI ei) from ⟨⟨nI_pos' (by omega), by rw [show (hC S).2.2.1.1 = nI c from H.2.2.1.1, nI_ltI (by omega) (by omega)]; exact hsi⟩, nI_pos' (by omega), by rw [show (hC S).2.2.2.1.1 = nI e from H.2.2.2.1.1, nI_ltI (by omega) (by omega)]; exact hei⟩), if_pos (by grind [fB]), nI_clamp (by omega), nI_clamp (by omega)]; rw [path_none (fun h0 => show (plM (hC S) b si ei).length ≤ i.toNatClampNeg from pth_out hF9.1 hF9.2.1 h0 (fBd0.mp c53))], hk9⟩
    · refine fV.run iX7_path_24_1 oX7_path_24_1 (pc' := 27) (L' := [(0, .ref 0), (1, .int x), (2, .int y), (3, .int i), (4, .int q)]) (st' := [.long (-1002)]) (S' := S) rfl trivial ?_
      exact fV.lret rfl dX7_path_27 ⟨by unfold oPath; rw [if_pos (show thr (hC S) x y from by unfold thr; grind [fB, hC]), if_neg (by grind [fB])], kp.rf⟩
  · refine fV.run iX7_path_9_1 oX7_path_9_1 (pc' := 12) (L' := [(0, .ref 0), (1, .int x), (2, .int y), (3, .int i), (4, .int q)]) (st' := [.long (-1001)]) (S' := S) rfl trivial ?_
    exact fV.lret rfl dX7_path_12 ⟨by unfold oPath; rw [if_neg (show ¬ thr (hC S) x y from by unfold thr; grind [fB, hC])], kp.rf⟩
end
section
def iX7_worst_22_4 : List Instr := [.iload 4, .aload_n 0, .getfield 32, .getfield 114]
theorem oX7_worst_22_4 : fOkB cX7_worst 22 iX7_worst_22_4 = true := by decide +kernel
theorem bX7_worst_31 : fBk cX7_worst 31 (.if_icmp .ge) 98 := ⟨67, by decide +kernel, by decide⟩
def iX7_worst_98_1 : List Instr := [.iload_n 2]
theorem oX7_worst_98_1 : fOkB cX7_worst 98 iX7_worst_98_1 = true := by decide +kernel
theorem dX7_worst_99 : decode cX7_worst 99 = .ok (.ireturn, 1) := by decide +kernel
def iX7_worst_34_6 : List Instr := [.aload_n 0, .iload_n 1, .iload 4, .iconst 0, .aload_n 0, .getfield 67]
theorem oX7_worst_34_6 : fOkB cX7_worst 34 iX7_worst_34_6 = true := by decide +kernel
theorem dX7_worst_43 : decode cX7_worst 43 = .ok (.invokevirtual 128, 3) := by decide +kernel
def iX7_worst_46_5 : List Instr := [.aload_n 0, .aload_n 0, .getfield 35, .iload_n 1, .iaload]
theorem oX7_worst_46_5 : fOkB cX7_worst 46 iX7_worst_46_5 = true := by decide +kernel
theorem dX7_worst_53 : decode cX7_worst 53 = .ok (.invokevirtual 176, 3) := by decide +kernel
def iX7_worst_56_6 : List Instr := [.aload_n 0, .getfield 56, .getfield 179, .aload_n 0, .getfield 56, .getfield 183]
theorem oX7_worst_56_6 : fOkB cX7_worst 56 iX7_worst_56_6 = true := by decide +kernel
theorem dX7_worst_70 : decode cX7_worst 70 = .ok (.invokestatic 186, 3) := by decide +kernel
def iX7_worst_73_3 : List Instr := [.istore 5, .iload_n 2, .iconst (-1)]
theorem oX7_worst_73_3 : fOkB cX7_worst 73 iX7_worst_73_3 = true := by decide +kernel
theorem bX7_worst_77 : fBk cX7_worst 77 (.if_icmp .eq) 86 := ⟨9, by decide +kernel, by decide⟩
def iX7_worst_86_6 : List Instr := [.iload 4, .istore_n 2, .iload 5, .istore_n 3, .iinc 4 1, .goto (-73)]
theorem oX7_worst_86_6 : fOkB cX7_worst 86 iX7_worst_86_6 = true := by decide +kernel
def iX7_worst_80_2 : List Instr := [.iload 5, .iload_n 3]
theorem oX7_worst_80_2 : fOkB cX7_worst 80 iX7_worst_80_2 = true := by decide +kernel
theorem bX7_worst_83 : fBk cX7_worst 83 (.if_icmp .ge) 92 := ⟨9, by decide +kernel, by decide⟩
def iX7_worst_92_2 : List Instr := [.iinc 4 1, .goto (-73)]
theorem oX7_worst_92_2 : fOkB cX7_worst 92 iX7_worst_92_2 = true := by decide +kernel
set_option maxRecDepth 100000 in
theorem lpX7_worst {G : fG} {d : Nat} {S : fS} {a b c e si : Nat} (H : hOk (hC S) a b c e) (HG : hGeo S b) (hsi : si < c) : ∀ (u k : Nat) (S1 : fS), k + u = e → kp S S1 → fV G mX7_worst (fZm G (d + 10) (fun r S' => r = some (.int (wst (hC S) b si e).1) ∧ kp S S')) 22 [(0, .ref 0), (1, .int (nI si)), (2, .int (wst (hC S) b si k).1), (3, .int (wst (hC S) b si k).2), (4, .int (nI k))] [] S1 := by
  have hb16 : b ≤ 16 := H.2.1.2.1
  have hc4 : c ≤ 4 := H.2.2.1.2.1
  have he8 : e ≤ 8 := H.2.2.2.1.2.1
  intro u
  induction u with
  | zero =>
    intro k S1 hu hkp
    have he : gI S1 14 2 = nI e := (congrArg (fun q => q.2.2.2.1.1) hkp.1).trans H.2.2.2.1.1
    refine fV.run iX7_worst_22_4 oX7_worst_22_4 (pc' := 31) (L' := [(0, .ref 0), (1, .int (nI si)), (2, .int ((wst (hC S) b si k).1)), (3, .int ((wst (hC S) b si k).2)), (4, .int (nI k))]) (st' := [.int (gI S1 14 2), .int (nI k)]) (S' := S1) rfl trivial ?_
    refine fV.icmp_ge bX7_worst_31 (fun c31 => ?_) (fun c31 => ?_)
    · refine fV.run iX7_worst_98_1 oX7_worst_98_1 (pc' := 99) (L' := [(0, .ref 0), (1, .int (nI si)), (2, .int ((wst (hC S) b si k).1)), (3, .int ((wst (hC S) b si k).2)), (4, .int (nI k))]) (st' := [.int ((wst (hC S) b si k).1)]) (S' := S1) rfl trivial ?_
      exact fV.iret rfl dX7_worst_99 ⟨by rw [show k = e by omega], hkp⟩
    · exact absurd c31 (by rw [show gI S1 14 2 = nI e from he, nI_leI (by omega) (by omega)]; omega)
  | succ u ih =>
    intro k S1 hu hkp
    have he : gI S1 14 2 = nI e := (congrArg (fun q => q.2.2.2.1.1) hkp.1).trans H.2.2.2.1.1
    have H1 : hOk (hC S1) a b c e := by rw [hkp.1]; exact H
    have HG1 : hGeo S1 b := hkp.geo HG
    have hm3 : gI S1 0 9 ≤ 3 := H1.2.2.2.2.1.2
    have hm := most_N (m := gI S1 0 9) H1.2.2.2.2.1.1 hm3
    refine fV.run iX7_worst_22_4 oX7_worst_22_4 (pc' := 31) (L' := [(0, .ref 0), (1, .int (nI si)), (2, .int ((wst (hC S) b si k).1)), (3, .int ((wst (hC S) b si k).2)), (4, .int (nI k))]) (st' := [.int (gI S1 14 2), .int (nI k)]) (S' := S1) rfl trivial ?_
    refine fV.icmp_ge bX7_worst_31 (fun c31 => ?_) (fun c31 => ?_)
    · exact absurd c31 (by rw [show gI S1 14 2 = nI e from he, nI_leI (by omega) (by omega)]; omega)
    · refine fV.run iX7_worst_34_6 oX7_worst_34_6 (pc' := 43) (L' := [(0, .ref 0), (1, .int (nI si)), (2, .int ((wst (hC S) b si k).1)), (3, .int ((wst (hC S) b si k).2)), (4, .int (nI k))]) (st' := [.int (gI S1 0 9), .int 0, .int (nI k), .int (nI si), .ref 0]) (S' := S1) rfl trivial ?_
      refine fV.callV (M2 := mX7_find) (d := d + 9) (o := 0) (av := [.int (nI si), .int (nI k), .int 0, .int (gI S1 0 9)]) (rest := []) kX7_find dX7_worst_43 lX7_128 rfl rfl rfl (Nat.le_of_ble_eq_true rfl) (fRoom (by decide)) ⟨Nat.le_refl _, Nat.le_refl _⟩ (qX7_find (S := S1) (lo := 0) (N := (gI S1 0 9).toNatClampNeg + 1) H1 HG1 hsi (show k < e by omega) (by omega) hm.1 hm.2.2 hm3) ?_
      rintro _ S9 ⟨rfl, hk9, hF9⟩
      obtain ⟨hp9, hq9, hsf9, e2, e6, e17, ebo⟩ := fnd (S := S1) (lo := 0) (n := (gI S1 0 9).toNatClampNeg + 1) H1 hsi (show k < e by omega) hk9 (by omega)
      refine fV.to (pc' := 46) (L' := [(0, .ref 0), (1, .int (nI si)), (2, .int ((wst (hC S) b si k).1)), (3, .int ((wst (hC S) b si k).2)), (4, .int (nI k))]) (st' := []) (S' := S9) rfl rfl rfl rfl ?_
      refine fV.run iX7_worst_46_5 oX7_worst_46_5 (pc' := 53) (L' := [(0, .ref 0), (1, .int (nI si)), (2, .int ((wst (hC S) b si k).1)), (3, .int ((wst (hC S) b si k).2)), (4, .int (nI k))]) (st' := [.int (gA S9 17 (nI si).toNatClampNeg), .ref 0]) (S' := S9) (P := vp_in (nI si) 4 ∧ True) rfl ⟨(vp_in_nI (by omega) (by decide)), trivial⟩ ?_
      refine fV.callV (M2 := mX7_sumUp) (d := d + 9) (o := 0) (av := [.int (gA S9 17 (nI si).toNatClampNeg)]) (rest := []) kX7_sumUp dX7_worst_53 lX7_176 rfl rfl rfl (Nat.le_of_ble_eq_true rfl) (fRoom (by decide)) ⟨Nat.le_refl _, Nat.le_refl _⟩ (qX7_sumUp (S := S9) hb16 hF9 hp9 hq9 hsf9) ?_
      rintro _ S8 ⟨rfl, h9⟩
      rw [e2, e6, ebo, e17, nI_clamp (by omega)] at h9
      have h9b : S8 = (wJ (wJ (wJ S9 28 0 (eS (hC S1) b si k)) 28 1 (lS (hC S1) b si k)) 28 2 (dS (hC S1) b si k)) := h9
      rw [hkp.1] at h9b
      rw [h9b]
      refine fV.to (pc' := 56) (L' := [(0, .ref 0), (1, .int (nI si)), (2, .int ((wst (hC S) b si k).1)), (3, .int ((wst (hC S) b si k).2)), (4, .int (nI k))]) (st' := []) (S' := (wJ (wJ (wJ S9 28 0 (eS (hC S) b si k)) 28 1 (lS (hC S) b si k)) 28 2 (dS (hC S) b si k))) rfl rfl rfl rfl ?_
      refine fV.run iX7_worst_56_6 oX7_worst_56_6 (pc' := 70) (L' := [(0, .ref 0), (1, .int (nI si)), (2, .int ((wst (hC S) b si k).1)), (3, .int ((wst (hC S) b si k).2)), (4, .int (nI k))]) (st' := [.long (lS (hC S) b si k), .long (eS (hC S) b si k)]) (S' := (wJ (wJ (wJ S9 28 0 (eS (hC S) b si k)) 28 1 (lS (hC S) b si k)) 28 2 (dS (hC S) b si k))) rfl trivial ?_
      refine fV.callS (M2 := mX7_clarityOf) (d := d + 9) (av := [.long (eS (hC S) b si k), .long (lS (hC S) b si k)]) (rest := []) kX7_clarityOf dX7_worst_70 lX7_186 rfl rfl (Nat.le_of_ble_eq_true rfl) (fRoom (by decide)) ⟨Nat.le_refl _, Nat.le_refl _⟩ (qX7_cl _ _) ?_
      rintro _ S9 ⟨rfl, h9⟩
      rw [h9]
      clear h9 S9
      refine fV.to (pc' := 73) (L' := [(0, .ref 0), (1, .int (nI si)), (2, .int ((wst (hC S) b si k).1)), (3, .int ((wst (hC S) b si k).2)), (4, .int (nI k))]) (st' := [.int (clF (eS (hC S) b si k) (lS (hC S) b si k))]) (S' := (wJ (wJ (wJ S9 28 0 (eS (hC S) b si k)) 28 1 (lS (hC S) b si k)) 28 2 (dS (hC S) b si k))) rfl rfl rfl rfl ?_
      refine fV.run iX7_worst_73_3 oX7_worst_73_3 (pc' := 77) (L' := [(0, .ref 0), (1, .int (nI si)), (2, .int ((wst (hC S) b si k).1)), (3, .int ((wst (hC S) b si k).2)), (4, .int (nI k)), (5, .int (clF (eS (hC S) b si k) (lS (hC S) b si k)))]) (st' := [.int (-1), .int ((wst (hC S) b si k).1)]) (S' := (wJ (wJ (wJ S9 28 0 (eS (hC S) b si k)) 28 1 (lS (hC S) b si k)) 28 2 (dS (hC S) b si k))) rfl trivial ?_
      refine fV.icmp_eq bX7_worst_77 (fun c77 => ?_) (fun c77 => ?_)
      · refine fV.run iX7_worst_86_6 oX7_worst_86_6 (pc' := 22) (L' := [(0, .ref 0), (1, .int (nI si)), (2, .int (nI k)), (3, .int (clF (eS (hC S) b si k) (lS (hC S) b si k))), (4, .int ((nI k) + 1)), (5, .int (clF (eS (hC S) b si k) (lS (hC S) b si k)))]) (st' := []) (S' := (wJ (wJ (wJ S9 28 0 (eS (hC S) b si k)) 28 1 (lS (hC S) b si k)) 28 2 (dS (hC S) b si k))) rfl trivial ?_
        refine fV.pick (L' := [(0, .ref 0), (1, .int (nI si)), (2, .int (nI k)), (3, .int (clF (eS (hC S) b si k) (lS (hC S) b si k))), (4, .int ((nI k) + 1))]) [0, 1, 2, 3, 4] rfl ?_
        refine fV.to (L' := [(0, .ref 0), (1, .int (nI si)), (2, .int (wst (hC S) b si (k + 1)).1), (3, .int (wst (hC S) b si (k + 1)).2), (4, .int (nI (k + 1)))]) rfl (by rw [show wst (hC S) b si (k + 1) = (nI k, clF (eS (hC S) b si k) (lS (hC S) b si k)) from if_pos (by first | exact Or.inl c77 | exact Or.inr (by grind)), nI_1]) rfl rfl (ih (k + 1) _ (by omega) (hkp.tr (hk9.tr ⟨rfl, rfl, rfl, rfl, rfl, rfl⟩)))
      · refine fV.run iX7_worst_80_2 oX7_worst_80_2 (pc' := 83) (L' := [(0, .ref 0), (1, .int (nI si)), (2, .int ((wst (hC S) b si k).1)), (3, .int ((wst (hC S) b si k).2)), (4, .int (nI k)), (5, .int (clF (eS (hC S) b si k) (lS (hC S) b si k)))]) (st' := [.int ((wst (hC S) b si k).2), .int (clF (eS (hC S) b si k) (lS (hC S) b si k))]) (S' := (wJ (wJ (wJ S9 28 0 (eS (hC S) b si k)) 28 1 (lS (hC S) b si k)) 28 2 (dS (hC S) b si k))) rfl trivial ?_
        refine fV.icmp_ge bX7_worst_83 (fun c83 => ?_) (fun c83 => ?_)
        · refine fV.run iX7_worst_92_2 oX7_worst_92_2 (pc' := 22) (L' := [(0, .ref 0), (1, .int (nI si)), (2, .int ((wst (hC S) b si k).1)), (3, .int ((wst (hC S) b si k).2)), (4, .int ((nI k) + 1)), (5, .int (clF (eS (hC S) b si k) (lS (hC S) b si k)))]) (st' := []) (S' := (wJ (wJ (wJ S9 28 0 (eS (hC S) b si k)) 28 1 (lS (hC S) b si k)) 28 2 (dS (hC S) b si k))) rfl trivial ?_
          refine fV.pick (L' := [(0, .ref 0), (1, .int (nI si)), (2, .int ((wst (hC S) b si k).1)), (3, .int ((wst (hC S) b si k).2)), (4, .int ((nI k) + 1))]) [0, 1, 2, 3, 4] rfl ?_
          refine fV.to (L' := [(0, .ref 0), (1, .int (nI si)), (2, .int (wst (hC S) b si (k + 1)).1), (3, .int (wst (hC S) b si (k + 1)).2), (4, .int (nI (k + 1)))]) rfl (by rw [show wst (hC S) b si (k + 1) = wst (hC S) b si k from if_neg (by grind), nI_1]) rfl rfl (ih (k + 1) _ (by omega) (hkp.tr (hk9.tr ⟨rfl, rfl, rfl, rfl, rfl, rfl⟩)))
        · refine fV.run iX7_worst_86_6 oX7_worst_86_6 (pc' := 22) (L' := [(0, .ref 0), (1, .int (nI si)), (2, .int (nI k)), (3, .int (clF (eS (hC S) b si k) (lS (hC S) b si k))), (4, .int ((nI k) + 1)), (5, .int (clF (eS (hC S) b si k) (lS (hC S) b si k)))]) (st' := []) (S' := (wJ (wJ (wJ S9 28 0 (eS (hC S) b si k)) 28 1 (lS (hC S) b si k)) 28 2 (dS (hC S) b si k))) rfl trivial ?_
          refine fV.pick (L' := [(0, .ref 0), (1, .int (nI si)), (2, .int (nI k)), (3, .int (clF (eS (hC S) b si k) (lS (hC S) b si k))), (4, .int ((nI k) + 1))]) [0, 1, 2, 3, 4] rfl ?_
          refine fV.to (L' := [(0, .ref 0), (1, .int (nI si)), (2, .int (wst (hC S) b si (k + 1)).1), (3, .int (wst (hC S) b si (k + 1)).2), (4, .int (nI (k + 1)))]) rfl (by rw [show wst (hC S) b si (k + 1) = (nI k, clF (eS (hC S) b si k) (lS (hC S) b si k)) from if_pos (by first | exact Or.inl c77 | exact Or.inr (by grind)), nI_1]) rfl rfl (ih (k + 1) _ (by omega) (hkp.tr (hk9.tr ⟨rfl, rfl, rfl, rfl, rfl, rfl⟩)))
def iX7_worst_0_3 : List Instr := [.aload_n 0, .getfield 28, .iload_n 1]
theorem oX7_worst_0_3 : fOkB cX7_worst 0 iX7_worst_0_3 = true := by decide +kernel
theorem dX7_worst_5 : decode cX7_worst 5 = .ok (.invokevirtual 101, 3) := by decide +kernel
theorem bX7_worst_8 : fBk cX7_worst 8 (.ifCond .ne) 15 := ⟨7, by decide +kernel, by decide⟩
def iX7_worst_15_6 : List Instr := [.iconst (-1), .istore_n 2, .iconst 0, .istore_n 3, .iconst 0, .istore 4]
theorem oX7_worst_15_6 : fOkB cX7_worst 15 iX7_worst_15_6 = true := by decide +kernel
def iX7_worst_11_1 : List Instr := [.sipush (-1001)]
theorem oX7_worst_11_1 : fOkB cX7_worst 11 iX7_worst_11_1 = true := by decide +kernel
theorem dX7_worst_14 : decode cX7_worst 14 = .ok (.ireturn, 1) := by decide +kernel
set_option maxRecDepth 100000 in
theorem qX7_worst {G : fG} {d : Nat} {S : fS} (x : Int32) {a b c e : Nat} (H : hOk (hC S) a b c e) (HG : hGeo S b) : fCtr G (d + 10) mX7_worst [.ref 0, .int x] S (fun r S' => r = some (.int (oWorst (hC S) b e x)) ∧ kp S S') := by
  refine fCtr.of bXX7_worst (Nat.le_of_ble_eq_true rfl) rfl ?_
  have hb : gI S 4 6 = nI b := H.2.1.1
  have hb16 : b ≤ 16 := H.2.1.2.1
  have ha8 : a ≤ 8 := H.1.2.2.1
  have hc4 : c ≤ 4 := H.2.2.1.2.1
  have he8 : e ≤ 8 := H.2.2.2.1.2.1
  have hm3 : gI S 0 9 ≤ 3 := H.2.2.2.2.1.2
  have hm := most_N (m := gI S 0 9) H.2.2.2.2.1.1 hm3
  refine fV.run iX7_worst_0_3 oX7_worst_0_3 (pc' := 5) (L' := [(0, .ref 0), (1, .int x)]) (st' := [.int x, .ref 11]) (S' := S) rfl trivial ?_
  refine fV.callV (M2 := mX2_has) (d := d + 9) (o := 11) (av := [.int x]) (rest := []) kX2_has dX7_worst_5 lX7_101 rfl rfl rfl (Nat.le_of_ble_eq_true rfl) (fRoom (by decide)) ⟨Nat.le_refl _, Nat.le_refl _⟩ (qX2_has_11 _) ?_
  rintro _ S9 ⟨rfl, h9⟩
  rw [h9]
  clear h9 S9
  refine fV.to (pc' := 8) (L' := [(0, .ref 0), (1, .int x)]) (st' := [.int (fB (decide (0 ≤ x ∧ x < (gI S 11 2))))]) (S' := S) rfl rfl rfl rfl ?_
  refine fV.if_ne bX7_worst_8 (fun c8 => ?_) (fun c8 => ?_)
  · refine fV.run iX7_worst_15_6 oX7_worst_15_6 (pc' := 22) (L' := [(0, .ref 0), (1, .int x), (2, .int (-1)), (3, .int 0), (4, .int 0)]) (st' := []) (S' := S) rfl trivial ?_
    obtain ⟨si, hsi, rfl⟩ := n_in (x := x) (n := c) (by omega) (by grind [fB]) (by rw [← show gI S 11 2 = nI c from H.2.2.1.1]; grind [fB])
    rw [show oWorst (hC S) b e (nI si) = (wst (hC S) b si e).1 by unfold oWorst; rw [if_pos ⟨nI_pos' (by omega), by rw [show (hC S).2.2.1.1 = nI c from H.2.2.1.1, nI_ltI (by omega) (by omega)]; exact hsi⟩, nI_clamp (by omega)]]
    exact lpX7_worst H HG hsi e 0 S (by omega) kp.rf
  · refine fV.run iX7_worst_11_1 oX7_worst_11_1 (pc' := 14) (L' := [(0, .ref 0), (1, .int x)]) (st' := [.int (-1001)]) (S' := S) rfl trivial ?_
    exact fV.iret rfl dX7_worst_14 ⟨by unfold oWorst; rw [if_neg (by grind [fB, hC])], kp.rf⟩
end
