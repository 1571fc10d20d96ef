section
-- ===== PART A: goes FIRST, ahead of the names: the tables' words, and 'selects' of the private methods out of them =====
/-- a private method of a class that the tables say can be made, by its rows of tables_1 -/
def lw_okq (q : MethodName × Nat) : Prop := (q.1.cls ≠ "java/lang/invoke/MethodHandle" ∧ q.1.cls ≠ "java/lang/invoke/VarHandle") ∧ Cond.instantiable q.1.cls q.2 ∈ tables_1 ∧ Cond.privateMethod q.1 ∈ tables_1 ∧ Cond.instanceMethod q.1 ∈ tables_1
theorem lw_p0 : lw_okq (⟨"HallHeard", "lineOfHall", "()I"⟩, 11) := ⟨⟨by decide +kernel, by decide +kernel⟩, List.mem_of_getElem? (i := 13) (by decide +kernel), List.mem_of_getElem? (i := 358) (by decide +kernel), List.mem_of_getElem? (i := 359) (by decide +kernel)⟩
theorem lw_p1 : lw_okq (⟨"HallHeard", "lostInHall", "()I"⟩, 11) := ⟨⟨by decide +kernel, by decide +kernel⟩, List.mem_of_getElem? (i := 13) (by decide +kernel), List.mem_of_getElem? (i := 362) (by decide +kernel), List.mem_of_getElem? (i := 363) (by decide +kernel)⟩
theorem lw_p2 : lw_okq (⟨"HallHeard", "decayOfHall", "()I"⟩, 11) := ⟨⟨by decide +kernel, by decide +kernel⟩, List.mem_of_getElem? (i := 13) (by decide +kernel), List.mem_of_getElem? (i := 366) (by decide +kernel), List.mem_of_getElem? (i := 367) (by decide +kernel)⟩
theorem lw_p3 : lw_okq (⟨"HallHeard", "areThere", "(II)Z"⟩, 11) := ⟨⟨by decide +kernel, by decide +kernel⟩, List.mem_of_getElem? (i := 13) (by decide +kernel), List.mem_of_getElem? (i := 374) (by decide +kernel), List.mem_of_getElem? (i := 375) (by decide +kernel)⟩
theorem lw_p4 : lw_okq (⟨"HallHeard", "find", "(IIII)V"⟩, 11) := ⟨⟨by decide +kernel, by decide +kernel⟩, List.mem_of_getElem? (i := 13) (by decide +kernel), List.mem_of_getElem? (i := 378) (by decide +kernel), List.mem_of_getElem? (i := 379) (by decide +kernel)⟩
theorem lw_p5 : lw_okq (⟨"HallHeard", "startRoute", "(II)V"⟩, 11) := ⟨⟨by decide +kernel, by decide +kernel⟩, List.mem_of_getElem? (i := 13) (by decide +kernel), List.mem_of_getElem? (i := 386) (by decide +kernel), List.mem_of_getElem? (i := 387) (by decide +kernel)⟩
theorem lw_p6 : lw_okq (⟨"HallHeard", "tryRows", "(II)V"⟩, 11) := ⟨⟨by decide +kernel, by decide +kernel⟩, List.mem_of_getElem? (i := 13) (by decide +kernel), List.mem_of_getElem? (i := 394) (by decide +kernel), List.mem_of_getElem? (i := 395) (by decide +kernel)⟩
theorem lw_p7 : lw_okq (⟨"HallHeard$Route", "setBounce", "(IILHallHeard$Walls;)Z"⟩, 8) := ⟨⟨by decide +kernel, by decide +kernel⟩, List.mem_of_getElem? (i := 100) (by decide +kernel), List.mem_of_getElem? (i := 402) (by decide +kernel), List.mem_of_getElem? (i := 403) (by decide +kernel)⟩
theorem lw_p8 : lw_okq (⟨"HallHeard$Route", "isOnWall", "(IIJJLHallHeard$Walls;)Z"⟩, 8) := ⟨⟨by decide +kernel, by decide +kernel⟩, List.mem_of_getElem? (i := 100) (by decide +kernel), List.mem_of_getElem? (i := 409) (by decide +kernel), List.mem_of_getElem? (i := 410) (by decide +kernel)⟩
theorem lw_p9 : lw_okq (⟨"HallHeard$Route", "sidewaysAt", "(IIJJ)J"⟩, 8) := ⟨⟨by decide +kernel, by decide +kernel⟩, List.mem_of_getElem? (i := 100) (by decide +kernel), List.mem_of_getElem? (i := 413) (by decide +kernel), List.mem_of_getElem? (i := 414) (by decide +kernel)⟩
theorem lw_p10 : lw_okq (⟨"HallHeard$Route", "bouncesAtEnd", "(II)Z"⟩, 8) := ⟨⟨by decide +kernel, by decide +kernel⟩, List.mem_of_getElem? (i := 100) (by decide +kernel), List.mem_of_getElem? (i := 424) (by decide +kernel), List.mem_of_getElem? (i := 425) (by decide +kernel)⟩
theorem lw_p11 : lw_okq (⟨"HallHeard$Route", "meets", "(IILHallHeard$Walls;)Z"⟩, 8) := ⟨⟨by decide +kernel, by decide +kernel⟩, List.mem_of_getElem? (i := 100) (by decide +kernel), List.mem_of_getElem? (i := 428) (by decide +kernel), List.mem_of_getElem? (i := 429) (by decide +kernel)⟩
theorem lw_p12 : lw_okq (⟨"HallHeard$Route", "overlaps", "(IILHallHeard$Walls;)Z"⟩, 8) := ⟨⟨by decide +kernel, by decide +kernel⟩, List.mem_of_getElem? (i := 100) (by decide +kernel), List.mem_of_getElem? (i := 432) (by decide +kernel), List.mem_of_getElem? (i := 433) (by decide +kernel)⟩
theorem lw_p13 : lw_okq (⟨"HallHeard", "energyOf", "(II[I)J"⟩, 11) := ⟨⟨by decide +kernel, by decide +kernel⟩, List.mem_of_getElem? (i := 13) (by decide +kernel), List.mem_of_getElem? (i := 467) (by decide +kernel), List.mem_of_getElem? (i := 468) (by decide +kernel)⟩
theorem lw_p14 : lw_okq (⟨"HallHeard", "isWallOrNone", "(I)Z"⟩, 11) := ⟨⟨by decide +kernel, by decide +kernel⟩, List.mem_of_getElem? (i := 13) (by decide +kernel), List.mem_of_getElem? (i := 478) (by decide +kernel), List.mem_of_getElem? (i := 479) (by decide +kernel)⟩
theorem lw_p15 : lw_okq (⟨"HallHeard", "lengthenRoute", "(I)V"⟩, 11) := ⟨⟨by decide +kernel, by decide +kernel⟩, List.mem_of_getElem? (i := 13) (by decide +kernel), List.mem_of_getElem? (i := 482) (by decide +kernel), List.mem_of_getElem? (i := 483) (by decide +kernel)⟩
def lw_privs_1 : List (MethodName × Nat) := [(⟨"HallHeard", "lineOfHall", "()I"⟩, 11), (⟨"HallHeard", "lostInHall", "()I"⟩, 11), (⟨"HallHeard", "decayOfHall", "()I"⟩, 11), (⟨"HallHeard", "areThere", "(II)Z"⟩, 11), (⟨"HallHeard", "find", "(IIII)V"⟩, 11), (⟨"HallHeard", "startRoute", "(II)V"⟩, 11), (⟨"HallHeard", "tryRows", "(II)V"⟩, 11), (⟨"HallHeard$Route", "setBounce", "(IILHallHeard$Walls;)Z"⟩, 8), (⟨"HallHeard$Route", "isOnWall", "(IIJJLHallHeard$Walls;)Z"⟩, 8), (⟨"HallHeard$Route", "sidewaysAt", "(IIJJ)J"⟩, 8), (⟨"HallHeard$Route", "bouncesAtEnd", "(II)Z"⟩, 8), (⟨"HallHeard$Route", "meets", "(IILHallHeard$Walls;)Z"⟩, 8), (⟨"HallHeard$Route", "overlaps", "(IILHallHeard$Walls;)Z"⟩, 8), (⟨"HallHeard", "energyOf", "(II[I)J"⟩, 11), (⟨"HallHeard", "isWallOrNone", "(I)Z"⟩, 11), (⟨"HallHeard", "lengthenRoute", "(I)V"⟩, 11)]
theorem lw_r1 : ∀ q ∈ lw_privs_1, lw_okq q := List.forall_mem_cons.mpr ⟨lw_p0, List.forall_mem_cons.mpr ⟨lw_p1, List.forall_mem_cons.mpr ⟨lw_p2, List.forall_mem_cons.mpr ⟨lw_p3, List.forall_mem_cons.mpr ⟨lw_p4, List.forall_mem_cons.mpr ⟨lw_p5, List.forall_mem_cons.mpr ⟨lw_p6, List.forall_mem_cons.mpr ⟨lw_p7, List.forall_mem_cons.mpr ⟨lw_p8, List.forall_mem_cons.mpr ⟨lw_p9, List.forall_mem_cons.mpr ⟨lw_p10, List.forall_mem_cons.mpr ⟨lw_p11, List.forall_mem_cons.mpr ⟨lw_p12, List.forall_mem_cons.mpr ⟨lw_p13, List.forall_mem_cons.mpr ⟨lw_p14, List.forall_mem_cons.mpr ⟨lw_p15, fun _ h => absurd h List.not_mem_nil⟩⟩⟩⟩⟩⟩⟩⟩⟩⟩⟩⟩⟩⟩⟩⟩
theorem lw_p16 : lw_okq (⟨"HallHeard", "sumUp", "(I)V"⟩, 11) := ⟨⟨by decide +kernel, by decide +kernel⟩, List.mem_of_getElem? (i := 13) (by decide +kernel), List.mem_of_getElem? (i := 490) (by decide +kernel), List.mem_of_getElem? (i := 491) (by decide +kernel)⟩
theorem lw_p17 : lw_okq (⟨"HallHeard", "isEarly", "(I)Z"⟩, 11) := ⟨⟨by decide +kernel, by decide +kernel⟩, List.mem_of_getElem? (i := 13) (by decide +kernel), List.mem_of_getElem? (i := 498) (by decide +kernel), List.mem_of_getElem? (i := 499) (by decide +kernel)⟩
theorem lw_p18 : lw_okq (⟨"HallHeard", "isSet", "(I)Z"⟩, 11) := ⟨⟨by decide +kernel, by decide +kernel⟩, List.mem_of_getElem? (i := 13) (by decide +kernel), List.mem_of_getElem? (i := 526) (by decide +kernel), List.mem_of_getElem? (i := 527) (by decide +kernel)⟩
theorem lw_p19 : lw_okq (⟨"HallHeard$Choice", "groupOf", "(LHallHeard$Found;I)I"⟩, 13) := ⟨⟨by decide +kernel, by decide +kernel⟩, List.mem_of_getElem? (i := 182) (by decide +kernel), List.mem_of_getElem? (i := 545) (by decide +kernel), List.mem_of_getElem? (i := 546) (by decide +kernel)⟩
theorem lw_p20 : lw_okq (⟨"HallHeard", "choose", "(II)V"⟩, 11) := ⟨⟨by decide +kernel, by decide +kernel⟩, List.mem_of_getElem? (i := 13) (by decide +kernel), List.mem_of_getElem? (i := 550) (by decide +kernel), List.mem_of_getElem? (i := 551) (by decide +kernel)⟩
theorem lw_p21 : lw_okq (⟨"HallHeard", "hearGroup", "(I)V"⟩, 11) := ⟨⟨by decide +kernel, by decide +kernel⟩, List.mem_of_getElem? (i := 13) (by decide +kernel), List.mem_of_getElem? (i := 554) (by decide +kernel), List.mem_of_getElem? (i := 555) (by decide +kernel)⟩
theorem lw_p22 : lw_okq (⟨"HallHeardModel", "isStuff", "(I)Z"⟩, 30) := ⟨⟨by decide +kernel, by decide +kernel⟩, List.mem_of_getElem? (i := 562) (by decide +kernel), List.mem_of_getElem? (i := 672) (by decide +kernel), List.mem_of_getElem? (i := 673) (by decide +kernel)⟩
theorem lw_p23 : lw_okq (⟨"HallHeardModel", "isWall", "(I)Z"⟩, 30) := ⟨⟨by decide +kernel, by decide +kernel⟩, List.mem_of_getElem? (i := 562) (by decide +kernel), List.mem_of_getElem? (i := 683) (by decide +kernel), List.mem_of_getElem? (i := 684) (by decide +kernel)⟩
theorem lw_p24 : lw_okq (⟨"HallHeardModel", "isSource", "(I)Z"⟩, 30) := ⟨⟨by decide +kernel, by decide +kernel⟩, List.mem_of_getElem? (i := 562) (by decide +kernel), List.mem_of_getElem? (i := 703) (by decide +kernel), List.mem_of_getElem? (i := 704) (by decide +kernel)⟩
theorem lw_p25 : lw_okq (⟨"HallHeardModel", "isSeat", "(I)Z"⟩, 30) := ⟨⟨by decide +kernel, by decide +kernel⟩, List.mem_of_getElem? (i := 562) (by decide +kernel), List.mem_of_getElem? (i := 707) (by decide +kernel), List.mem_of_getElem? (i := 708) (by decide +kernel)⟩
theorem lw_p26 : lw_okq (⟨"HallHeardModel", "lengthOf", "(I)I"⟩, 30) := ⟨⟨by decide +kernel, by decide +kernel⟩, List.mem_of_getElem? (i := 562) (by decide +kernel), List.mem_of_getElem? (i := 721) (by decide +kernel), List.mem_of_getElem? (i := 722) (by decide +kernel)⟩
theorem lw_p27 : lw_okq (⟨"HallHeardModel", "line", "()I"⟩, 30) := ⟨⟨by decide +kernel, by decide +kernel⟩, List.mem_of_getElem? (i := 562) (by decide +kernel), List.mem_of_getElem? (i := 732) (by decide +kernel), List.mem_of_getElem? (i := 733) (by decide +kernel)⟩
theorem lw_p28 : lw_okq (⟨"HallHeardModel", "lost", "()I"⟩, 30) := ⟨⟨by decide +kernel, by decide +kernel⟩, List.mem_of_getElem? (i := 562) (by decide +kernel), List.mem_of_getElem? (i := 736) (by decide +kernel), List.mem_of_getElem? (i := 737) (by decide +kernel)⟩
theorem lw_p29 : lw_okq (⟨"HallHeardModel", "decay", "()I"⟩, 30) := ⟨⟨by decide +kernel, by decide +kernel⟩, List.mem_of_getElem? (i := 562) (by decide +kernel), List.mem_of_getElem? (i := 740) (by decide +kernel), List.mem_of_getElem? (i := 741) (by decide +kernel)⟩
theorem lw_p30 : lw_okq (⟨"HallHeardModel", "areThere", "(II)Z"⟩, 30) := ⟨⟨by decide +kernel, by decide +kernel⟩, List.mem_of_getElem? (i := 562) (by decide +kernel), List.mem_of_getElem? (i := 748) (by decide +kernel), List.mem_of_getElem? (i := 749) (by decide +kernel)⟩
theorem lw_p31 : lw_okq (⟨"HallHeardModel", "findPaths", "(II)V"⟩, 30) := ⟨⟨by decide +kernel, by decide +kernel⟩, List.mem_of_getElem? (i := 562) (by decide +kernel), List.mem_of_getElem? (i := 753) (by decide +kernel), List.mem_of_getElem? (i := 754) (by decide +kernel)⟩
def lw_privs_2 : List (MethodName × Nat) := [(⟨"HallHeard", "sumUp", "(I)V"⟩, 11), (⟨"HallHeard", "isEarly", "(I)Z"⟩, 11), (⟨"HallHeard", "isSet", "(I)Z"⟩, 11), (⟨"HallHeard$Choice", "groupOf", "(LHallHeard$Found;I)I"⟩, 13), (⟨"HallHeard", "choose", "(II)V"⟩, 11), (⟨"HallHeard", "hearGroup", "(I)V"⟩, 11), (⟨"HallHeardModel", "isStuff", "(I)Z"⟩, 30), (⟨"HallHeardModel", "isWall", "(I)Z"⟩, 30), (⟨"HallHeardModel", "isSource", "(I)Z"⟩, 30), (⟨"HallHeardModel", "isSeat", "(I)Z"⟩, 30), (⟨"HallHeardModel", "lengthOf", "(I)I"⟩, 30), (⟨"HallHeardModel", "line", "()I"⟩, 30), (⟨"HallHeardModel", "lost", "()I"⟩, 30), (⟨"HallHeardModel", "decay", "()I"⟩, 30), (⟨"HallHeardModel", "areThere", "(II)Z"⟩, 30), (⟨"HallHeardModel", "findPaths", "(II)V"⟩, 30)]
theorem lw_r2 : ∀ q ∈ lw_privs_2, lw_okq q := List.forall_mem_cons.mpr ⟨lw_p16, List.forall_mem_cons.mpr ⟨lw_p17, List.forall_mem_cons.mpr ⟨lw_p18, List.forall_mem_cons.mpr ⟨lw_p19, List.forall_mem_cons.mpr ⟨lw_p20, List.forall_mem_cons.mpr ⟨lw_p21, List.forall_mem_cons.mpr ⟨lw_p22, List.forall_mem_cons.mpr ⟨lw_p23, List.forall_mem_cons.mpr ⟨lw_p24, List.forall_mem_cons.mpr ⟨lw_p25, List.forall_mem_cons.mpr ⟨lw_p26, List.forall_mem_cons.mpr ⟨lw_p27, List.forall_mem_cons.mpr ⟨lw_p28, List.forall_mem_cons.mpr ⟨lw_p29, List.forall_mem_cons.mpr ⟨lw_p30, List.forall_mem_cons.mpr ⟨lw_p31, fun _ h => absurd h List.not_mem_nil⟩⟩⟩⟩⟩⟩⟩⟩⟩⟩⟩⟩⟩⟩⟩⟩
theorem lw_p32 : lw_okq (⟨"HallHeardModel", "findOrder", "(III)V"⟩, 30) := ⟨⟨by decide +kernel, by decide +kernel⟩, List.mem_of_getElem? (i := 562) (by decide +kernel), List.mem_of_getElem? (i := 757) (by decide +kernel), List.mem_of_getElem? (i := 758) (by decide +kernel)⟩
theorem lw_p33 : lw_okq (⟨"HallHeardModel", "tryRow", "(III)V"⟩, 30) := ⟨⟨by decide +kernel, by decide +kernel⟩, List.mem_of_getElem? (i := 562) (by decide +kernel), List.mem_of_getElem? (i := 761) (by decide +kernel), List.mem_of_getElem? (i := 762) (by decide +kernel)⟩
theorem lw_p34 : lw_okq (⟨"HallHeardModel", "findBounces", "(II)Z"⟩, 30) := ⟨⟨by decide +kernel, by decide +kernel⟩, List.mem_of_getElem? (i := 562) (by decide +kernel), List.mem_of_getElem? (i := 765) (by decide +kernel), List.mem_of_getElem? (i := 766) (by decide +kernel)⟩
theorem lw_p35 : lw_okq (⟨"HallHeardModel", "axisOf", "(I)I"⟩, 30) := ⟨⟨by decide +kernel, by decide +kernel⟩, List.mem_of_getElem? (i := 562) (by decide +kernel), List.mem_of_getElem? (i := 769) (by decide +kernel), List.mem_of_getElem? (i := 770) (by decide +kernel)⟩
theorem lw_p36 : lw_okq (⟨"HallHeardModel", "lineOf", "(I)I"⟩, 30) := ⟨⟨by decide +kernel, by decide +kernel⟩, List.mem_of_getElem? (i := 562) (by decide +kernel), List.mem_of_getElem? (i := 774) (by decide +kernel), List.mem_of_getElem? (i := 775) (by decide +kernel)⟩
theorem lw_p37 : lw_okq (⟨"HallHeardModel", "cross", "(II)Z"⟩, 30) := ⟨⟨by decide +kernel, by decide +kernel⟩, List.mem_of_getElem? (i := 562) (by decide +kernel), List.mem_of_getElem? (i := 778) (by decide +kernel), List.mem_of_getElem? (i := 779) (by decide +kernel)⟩
theorem lw_p38 : lw_okq (⟨"HallHeardModel", "isOnAt", "(IIJJ)Z"⟩, 30) := ⟨⟨by decide +kernel, by decide +kernel⟩, List.mem_of_getElem? (i := 562) (by decide +kernel), List.mem_of_getElem? (i := 782) (by decide +kernel), List.mem_of_getElem? (i := 783) (by decide +kernel)⟩
theorem lw_p39 : lw_okq (⟨"HallHeardModel", "placeAt", "(IIJJ)J"⟩, 30) := ⟨⟨by decide +kernel, by decide +kernel⟩, List.mem_of_getElem? (i := 562) (by decide +kernel), List.mem_of_getElem? (i := 786) (by decide +kernel), List.mem_of_getElem? (i := 787) (by decide +kernel)⟩
theorem lw_p40 : lw_okq (⟨"HallHeardModel", "lowOf", "(I)I"⟩, 30) := ⟨⟨by decide +kernel, by decide +kernel⟩, List.mem_of_getElem? (i := 562) (by decide +kernel), List.mem_of_getElem? (i := 790) (by decide +kernel), List.mem_of_getElem? (i := 791) (by decide +kernel)⟩
theorem lw_p41 : lw_okq (⟨"HallHeardModel", "highOf", "(I)I"⟩, 30) := ⟨⟨by decide +kernel, by decide +kernel⟩, List.mem_of_getElem? (i := 562) (by decide +kernel), List.mem_of_getElem? (i := 794) (by decide +kernel), List.mem_of_getElem? (i := 795) (by decide +kernel)⟩
theorem lw_p42 : lw_okq (⟨"HallHeardModel", "isSeen", "()Z"⟩, 30) := ⟨⟨by decide +kernel, by decide +kernel⟩, List.mem_of_getElem? (i := 562) (by decide +kernel), List.mem_of_getElem? (i := 798) (by decide +kernel), List.mem_of_getElem? (i := 799) (by decide +kernel)⟩
theorem lw_p43 : lw_okq (⟨"HallHeardModel", "meets", "(II)Z"⟩, 30) := ⟨⟨by decide +kernel, by decide +kernel⟩, List.mem_of_getElem? (i := 562) (by decide +kernel), List.mem_of_getElem? (i := 802) (by decide +kernel), List.mem_of_getElem? (i := 803) (by decide +kernel)⟩
theorem lw_p44 : lw_okq (⟨"HallHeardModel", "wallOf", "(II)I"⟩, 30) := ⟨⟨by decide +kernel, by decide +kernel⟩, List.mem_of_getElem? (i := 562) (by decide +kernel), List.mem_of_getElem? (i := 813) (by decide +kernel), List.mem_of_getElem? (i := 814) (by decide +kernel)⟩
theorem lw_p45 : lw_okq (⟨"HallHeardModel", "energyOf", "(II)J"⟩, 30) := ⟨⟨by decide +kernel, by decide +kernel⟩, List.mem_of_getElem? (i := 562) (by decide +kernel), List.mem_of_getElem? (i := 817) (by decide +kernel), List.mem_of_getElem? (i := 818) (by decide +kernel)⟩
theorem lw_p46 : lw_okq (⟨"HallHeardModel", "tickOf", "(I)I"⟩, 30) := ⟨⟨by decide +kernel, by decide +kernel⟩, List.mem_of_getElem? (i := 562) (by decide +kernel), List.mem_of_getElem? (i := 822) (by decide +kernel), List.mem_of_getElem? (i := 823) (by decide +kernel)⟩
theorem lw_p47 : lw_okq (⟨"HallHeardModel", "heardBy", "(II)J"⟩, 30) := ⟨⟨by decide +kernel, by decide +kernel⟩, List.mem_of_getElem? (i := 562) (by decide +kernel), List.mem_of_getElem? (i := 837) (by decide +kernel), List.mem_of_getElem? (i := 838) (by decide +kernel)⟩
def lw_privs_3 : List (MethodName × Nat) := [(⟨"HallHeardModel", "findOrder", "(III)V"⟩, 30), (⟨"HallHeardModel", "tryRow", "(III)V"⟩, 30), (⟨"HallHeardModel", "findBounces", "(II)Z"⟩, 30), (⟨"HallHeardModel", "axisOf", "(I)I"⟩, 30), (⟨"HallHeardModel", "lineOf", "(I)I"⟩, 30), (⟨"HallHeardModel", "cross", "(II)Z"⟩, 30), (⟨"HallHeardModel", "isOnAt", "(IIJJ)Z"⟩, 30), (⟨"HallHeardModel", "placeAt", "(IIJJ)J"⟩, 30), (⟨"HallHeardModel", "lowOf", "(I)I"⟩, 30), (⟨"HallHeardModel", "highOf", "(I)I"⟩, 30), (⟨"HallHeardModel", "isSeen", "()Z"⟩, 30), (⟨"HallHeardModel", "meets", "(II)Z"⟩, 30), (⟨"HallHeardModel", "wallOf", "(II)I"⟩, 30), (⟨"HallHeardModel", "energyOf", "(II)J"⟩, 30), (⟨"HallHeardModel", "tickOf", "(I)I"⟩, 30), (⟨"HallHeardModel", "heardBy", "(II)J"⟩, 30)]
theorem lw_r3 : ∀ q ∈ lw_privs_3, lw_okq q := List.forall_mem_cons.mpr ⟨lw_p32, List.forall_mem_cons.mpr ⟨lw_p33, List.forall_mem_cons.mpr ⟨lw_p34, List.forall_mem_cons.mpr ⟨lw_p35, List.forall_mem_cons.mpr ⟨lw_p36, List.forall_mem_cons.mpr ⟨lw_p37, List.forall_mem_cons.mpr ⟨lw_p38, List.forall_mem_cons.mpr ⟨lw_p39, List.forall_mem_cons.mpr ⟨lw_p40, List.forall_mem_cons.mpr ⟨lw_p41, List.forall_mem_cons.mpr ⟨lw_p42, List.forall_mem_cons.mpr ⟨lw_p43, List.forall_mem_cons.mpr ⟨lw_p44, List.forall_mem_cons.mpr ⟨lw_p45, List.forall_mem_cons.mpr ⟨lw_p46, List.forall_mem_cons.mpr ⟨lw_p47, fun _ h => absurd h List.not_mem_nil⟩⟩⟩⟩⟩⟩⟩⟩⟩⟩⟩⟩⟩⟩⟩⟩
theorem lw_p48 : lw_okq (⟨"HallHeardModel", "leastTick", "()I"⟩, 30) := ⟨⟨by decide +kernel, by decide +kernel⟩, List.mem_of_getElem? (i := 562) (by decide +kernel), List.mem_of_getElem? (i := 841) (by decide +kernel), List.mem_of_getElem? (i := 842) (by decide +kernel)⟩
def lw_privs_4 : List (MethodName × Nat) := [(⟨"HallHeardModel", "leastTick", "()I"⟩, 30)]
theorem lw_r4 : ∀ q ∈ lw_privs_4, lw_okq q := List.forall_mem_cons.mpr ⟨lw_p48, fun _ h => absurd h List.not_mem_nil⟩
def lw_privs : List (MethodName × Nat) := lw_privs_1 ++ (lw_privs_2 ++ (lw_privs_3 ++ (lw_privs_4)))
def lw_tbl : List Cond := k2_sels lw_privs ++ tables_1
theorem lw_privs_ok : ∀ q ∈ lw_privs, lw_okq q := by
  show ∀ q ∈ lw_privs_1 ++ (lw_privs_2 ++ (lw_privs_3 ++ (lw_privs_4))), lw_okq q
  exact List.forall_mem_append.mpr ⟨lw_r1, List.forall_mem_append.mpr ⟨lw_r2, List.forall_mem_append.mpr ⟨lw_r3, lw_r4⟩⟩⟩
end
section
def RX0 : String := "HallHeard$Choice"
def TX0 : u_T := fun k => match k with
  | 0 => ("HallHeard$Choice", "walls", "[I", true)
  | 1 => ("HallHeard$Choice", "stuffOf", "[I", true)
  | 2 => ("HallHeard$Choice", "grouped", "[I", true)
  | 3 => ("HallHeard$Choice", "starts", "[I", true)
  | 4 => ("HallHeard$Choice", "early", "[J", true)
  | 5 => ("HallHeard$Choice", "later", "[J", true)
  | 6 => ("HallHeard$Choice", "size", "I", false)
  | 7 => ("HallHeard$Choice", "money", "I", false)
  | 8 => ("HallHeard$Choice", "power", "I", false)
  | 9 => ("HallHeard$Choice", "isMade", "Z", false)
  | 10 => ("HallHeard$Choice", "clarity", "I", false)
  | 11 => ("HallHeard$Choice", "cost", "I", false)
  | _ => ("HallHeard$Choice", "figures", "I", false)
def tyX0 : Nat → FieldType := fun k => match k with
  | 0 => .array .int
  | 1 => .array .int
  | 2 => .array .int
  | 3 => .array .int
  | 4 => .array .long
  | 5 => .array .long
  | 6 => .int
  | 7 => .int
  | 8 => .int
  | 9 => .boolean
  | 10 => .int
  | 11 => .int
  | _ => .int
abbrev wsX00 : List Cond := u_ws RX0 TX0 13
theorem nmX0 : ∀ a, a < 13 → ∀ b, b < 13 → a ≠ b → (TX0 a).2.1 ≠ (TX0 b).2.1 := by decide +kernel
theorem tyX0_ok : ∀ k, k < 13 → parseFieldDescriptor (TX0 k).2.2.1 = some (tyX0 k) := by decide +kernel
abbrev cX0_init : ByteArray := prog_2_method_1_code
def yX0_init : MethodName := ⟨RX0, "<init>", "()V"⟩
abbrev cX0_begin : ByteArray := prog_2_method_2_code
def yX0_begin : MethodName := ⟨RX0, "begin", "(LHallHeard$Walls;III)V"⟩
abbrev cX0_group : ByteArray := prog_2_method_3_code
def yX0_group : MethodName := ⟨RX0, "group", "(LHallHeard$Found;)V"⟩
abbrev cX0_groupOf : ByteArray := prog_2_method_4_code
def yX0_groupOf : MethodName := ⟨RX0, "groupOf", "(LHallHeard$Found;I)I"⟩
abbrev cX0_weigh : ByteArray := prog_2_method_5_code
def yX0_weigh : MethodName := ⟨RX0, "weigh", "(II)V"⟩
def RX1 : String := "HallHeard$Found"
def TX1 : u_T := fun k => match k with
  | 0 => ("HallHeard$Found", "rows", "[I", true)
  | 1 => ("HallHeard$Found", "squares", "[J", true)
  | 2 => ("HallHeard$Found", "ticks", "[I", true)
  | 3 => ("HallHeard$Found", "held", "I", false)
  | _ => ("HallHeard$Found", "least", "I", false)
def tyX1 : Nat → FieldType := fun k => match k with
  | 0 => .array .int
  | 1 => .array .long
  | 2 => .array .int
  | 3 => .int
  | _ => .int
abbrev wsX10 : List Cond := u_ws RX1 TX1 5
theorem nmX1 : ∀ a, a < 5 → ∀ b, b < 5 → a ≠ b → (TX1 a).2.1 ≠ (TX1 b).2.1 := by decide +kernel
theorem tyX1_ok : ∀ k, k < 5 → parseFieldDescriptor (TX1 k).2.2.1 = some (tyX1 k) := by decide +kernel
abbrev cX1_init : ByteArray := prog_3_method_1_code
def yX1_init : MethodName := ⟨RX1, "<init>", "()V"⟩
abbrev cX1_clear : ByteArray := prog_3_method_2_code
def yX1_clear : MethodName := ⟨RX1, "clear", "()V"⟩
abbrev cX1_add : ByteArray := prog_3_method_3_code
def yX1_add : MethodName := ⟨RX1, "add", "(LHallHeard$Route;)V"⟩
abbrev cX1_wallOf : ByteArray := prog_3_method_4_code
def yX1_wallOf : MethodName := ⟨RX1, "wallOf", "(II)I"⟩
abbrev cX1_orderOf : ByteArray := prog_3_method_5_code
def yX1_orderOf : MethodName := ⟨RX1, "orderOf", "(I)I"⟩
abbrev cX1_wholeRoot : ByteArray := prog_3_method_6_code
def yX1_wholeRoot : MethodName := ⟨RX1, "wholeRoot", "(J)I"⟩
def RX2 : String := "HallHeard$Points"
def TX2 : u_T := fun k => match k with
  | 0 => ("HallHeard$Points", "x", "[I", true)
  | 1 => ("HallHeard$Points", "y", "[I", true)
  | _ => ("HallHeard$Points", "held", "I", false)
def tyX2 : Nat → FieldType := fun k => match k with
  | 0 => .array .int
  | 1 => .array .int
  | _ => .int
abbrev wsX20 : List Cond := u_ws RX2 TX2 3
theorem nmX2 : ∀ a, a < 3 → ∀ b, b < 3 → a ≠ b → (TX2 a).2.1 ≠ (TX2 b).2.1 := by decide +kernel
theorem tyX2_ok : ∀ k, k < 3 → parseFieldDescriptor (TX2 k).2.2.1 = some (tyX2 k) := by decide +kernel
abbrev cX2_init : ByteArray := prog_4_method_1_code
def yX2_init : MethodName := ⟨RX2, "<init>", "(I)V"⟩
abbrev cX2_has : ByteArray := prog_4_method_2_code
def yX2_has : MethodName := ⟨RX2, "has", "(I)Z"⟩
abbrev cX2_add : ByteArray := prog_4_method_3_code
def yX2_add : MethodName := ⟨RX2, "add", "(II)I"⟩
abbrev cX2_put : ByteArray := prog_4_method_4_code
def yX2_put : MethodName := ⟨RX2, "put", "(III)V"⟩
def RX3 : String := "HallHeard$Route"
def TX3 : u_T := fun k => match k with
  | 0 => ("HallHeard$Route", "row", "[I", true)
  | 1 => ("HallHeard$Route", "images", "[I", true)
  | 2 => ("HallHeard$Route", "eyes", "[I", true)
  | 3 => ("HallHeard$Route", "parts", "[J", true)
  | 4 => ("HallHeard$Route", "wholes", "[J", true)
  | 5 => ("HallHeard$Route", "seatX", "I", false)
  | 6 => ("HallHeard$Route", "seatY", "I", false)
  | _ => ("HallHeard$Route", "order", "I", false)
def tyX3 : Nat → FieldType := fun k => match k with
  | 0 => .array .int
  | 1 => .array .int
  | 2 => .array .int
  | 3 => .array .long
  | 4 => .array .long
  | 5 => .int
  | 6 => .int
  | _ => .int
abbrev wsX30 : List Cond := u_ws RX3 TX3 8
theorem nmX3 : ∀ a, a < 8 → ∀ b, b < 8 → a ≠ b → (TX3 a).2.1 ≠ (TX3 b).2.1 := by decide +kernel
theorem tyX3_ok : ∀ k, k < 8 → parseFieldDescriptor (TX3 k).2.2.1 = some (tyX3 k) := by decide +kernel
abbrev cX3_init : ByteArray := prog_5_method_1_code
def yX3_init : MethodName := ⟨RX3, "<init>", "()V"⟩
abbrev cX3_start : ByteArray := prog_5_method_2_code
def yX3_start : MethodName := ⟨RX3, "start", "(IIII)V"⟩
abbrev cX3_put : ByteArray := prog_5_method_3_code
def yX3_put : MethodName := ⟨RX3, "put", "(IILHallHeard$Walls;)V"⟩
abbrev cX3_mirror : ByteArray := prog_5_method_4_code
def yX3_mirror : MethodName := ⟨RX3, "mirror", "([IIIILHallHeard$Walls;)V"⟩
abbrev cX3_lengthSquared : ByteArray := prog_5_method_5_code
def yX3_lengthSquared : MethodName := ⟨RX3, "lengthSquared", "()J"⟩
abbrev cX3_hasBounces : ByteArray := prog_5_method_6_code
def yX3_hasBounces : MethodName := ⟨RX3, "hasBounces", "(LHallHeard$Walls;)Z"⟩
abbrev cX3_setBounce : ByteArray := prog_5_method_7_code
def yX3_setBounce : MethodName := ⟨RX3, "setBounce", "(IILHallHeard$Walls;)Z"⟩
abbrev cX3_isOnWall : ByteArray := prog_5_method_8_code
def yX3_isOnWall : MethodName := ⟨RX3, "isOnWall", "(IIJJLHallHeard$Walls;)Z"⟩
abbrev cX3_sidewaysAt : ByteArray := prog_5_method_9_code
def yX3_sidewaysAt : MethodName := ⟨RX3, "sidewaysAt", "(IIJJ)J"⟩
abbrev cX3_isSeen : ByteArray := prog_5_method_10_code
def yX3_isSeen : MethodName := ⟨RX3, "isSeen", "(LHallHeard$Walls;)Z"⟩
abbrev cX3_bouncesAtEnd : ByteArray := prog_5_method_11_code
def yX3_bouncesAtEnd : MethodName := ⟨RX3, "bouncesAtEnd", "(II)Z"⟩
abbrev cX3_meets : ByteArray := prog_5_method_12_code
def yX3_meets : MethodName := ⟨RX3, "meets", "(IILHallHeard$Walls;)Z"⟩
abbrev cX3_overlaps : ByteArray := prog_5_method_13_code
def yX3_overlaps : MethodName := ⟨RX3, "overlaps", "(IILHallHeard$Walls;)Z"⟩
def RX4 : String := "HallHeard$Stuffs"
def TX4 : u_T := fun k => match k with
  | 0 => ("HallHeard$Stuffs", "shares", "[I", true)
  | 1 => ("HallHeard$Stuffs", "costs", "[I", true)
  | _ => ("HallHeard$Stuffs", "held", "I", false)
def tyX4 : Nat → FieldType := fun k => match k with
  | 0 => .array .int
  | 1 => .array .int
  | _ => .int
abbrev wsX40 : List Cond := u_ws RX4 TX4 3
theorem nmX4 : ∀ a, a < 3 → ∀ b, b < 3 → a ≠ b → (TX4 a).2.1 ≠ (TX4 b).2.1 := by decide +kernel
theorem tyX4_ok : ∀ k, k < 3 → parseFieldDescriptor (TX4 k).2.2.1 = some (tyX4 k) := by decide +kernel
abbrev cX4_init : ByteArray := prog_6_method_1_code
def yX4_init : MethodName := ⟨RX4, "<init>", "()V"⟩
abbrev cX4_has : ByteArray := prog_6_method_2_code
def yX4_has : MethodName := ⟨RX4, "has", "(I)Z"⟩
abbrev cX4_add : ByteArray := prog_6_method_3_code
def yX4_add : MethodName := ⟨RX4, "add", "(II)I"⟩
def RX5 : String := "HallHeard$Sums"
def TX5 : u_T := fun k => match k with
  | 0 => ("HallHeard$Sums", "early", "J", false)
  | 1 => ("HallHeard$Sums", "later", "J", false)
  | _ => ("HallHeard$Sums", "delayed", "J", false)
def tyX5 : Nat → FieldType := fun k => match k with
  | 0 => .long
  | 1 => .long
  | _ => .long
abbrev wsX50 : List Cond := u_ws RX5 TX5 3
theorem nmX5 : ∀ a, a < 3 → ∀ b, b < 3 → a ≠ b → (TX5 a).2.1 ≠ (TX5 b).2.1 := by decide +kernel
theorem tyX5_ok : ∀ k, k < 3 → parseFieldDescriptor (TX5 k).2.2.1 = some (tyX5 k) := by decide +kernel
abbrev cX5_init : ByteArray := prog_7_method_1_code
def yX5_init : MethodName := ⟨RX5, "<init>", "()V"⟩
abbrev cX5_clear : ByteArray := prog_7_method_2_code
def yX5_clear : MethodName := ⟨RX5, "clear", "()V"⟩
def RX6 : String := "HallHeard$Walls"
def TX6 : u_T := fun k => match k with
  | 0 => ("HallHeard$Walls", "coordinates", "[I", true)
  | 1 => ("HallHeard$Walls", "stuffOf", "[I", true)
  | 2 => ("HallHeard$Walls", "axis", "[I", true)
  | 3 => ("HallHeard$Walls", "line", "[I", true)
  | 4 => ("HallHeard$Walls", "low", "[I", true)
  | 5 => ("HallHeard$Walls", "high", "[I", true)
  | _ => ("HallHeard$Walls", "held", "I", false)
def tyX6 : Nat → FieldType := fun k => match k with
  | 0 => .array .int
  | 1 => .array .int
  | 2 => .array .int
  | 3 => .array .int
  | 4 => .array .int
  | 5 => .array .int
  | _ => .int
abbrev wsX60 : List Cond := u_ws RX6 TX6 7
theorem nmX6 : ∀ a, a < 7 → ∀ b, b < 7 → a ≠ b → (TX6 a).2.1 ≠ (TX6 b).2.1 := by decide +kernel
theorem tyX6_ok : ∀ k, k < 7 → parseFieldDescriptor (TX6 k).2.2.1 = some (tyX6 k) := by decide +kernel
abbrev cX6_init : ByteArray := prog_8_method_1_code
def yX6_init : MethodName := ⟨RX6, "<init>", "()V"⟩
abbrev cX6_has : ByteArray := prog_8_method_2_code
def yX6_has : MethodName := ⟨RX6, "has", "(I)Z"⟩
abbrev cX6_add : ByteArray := prog_8_method_3_code
def yX6_add : MethodName := ⟨RX6, "add", "(IIIII)I"⟩
abbrev cX6_lengthOf : ByteArray := prog_8_method_4_code
def yX6_lengthOf : MethodName := ⟨RX6, "lengthOf", "(I)I"⟩
def RX7 : String := "HallHeard"
def TX7 : u_T := fun k => match k with
  | 0 => ("HallHeard", "stuffs", "LHallHeard$Stuffs;", true)
  | 1 => ("HallHeard", "walls", "LHallHeard$Walls;", true)
  | 2 => ("HallHeard", "sources", "LHallHeard$Points;", true)
  | 3 => ("HallHeard", "seats", "LHallHeard$Points;", true)
  | 4 => ("HallHeard", "powers", "[I", true)
  | 5 => ("HallHeard", "route", "LHallHeard$Route;", true)
  | 6 => ("HallHeard", "found", "LHallHeard$Found;", true)
  | 7 => ("HallHeard", "sums", "LHallHeard$Sums;", true)
  | 8 => ("HallHeard", "choice", "LHallHeard$Choice;", true)
  | 9 => ("HallHeard", "most", "I", false)
  | _ => ("HallHeard", "border", "I", false)
def tyX7 : Nat → FieldType := fun k => match k with
  | 0 => .object "HallHeard$Stuffs"
  | 1 => .object "HallHeard$Walls"
  | 2 => .object "HallHeard$Points"
  | 3 => .object "HallHeard$Points"
  | 4 => .array .int
  | 5 => .object "HallHeard$Route"
  | 6 => .object "HallHeard$Found"
  | 7 => .object "HallHeard$Sums"
  | 8 => .object "HallHeard$Choice"
  | 9 => .int
  | _ => .int
abbrev wsX70 : List Cond := u_ws RX7 TX7 11
theorem nmX7 : ∀ a, a < 11 → ∀ b, b < 11 → a ≠ b → (TX7 a).2.1 ≠ (TX7 b).2.1 := by decide +kernel
theorem tyX7_ok : ∀ k, k < 11 → parseFieldDescriptor (TX7 k).2.2.1 = some (tyX7 k) := by decide +kernel
abbrev cX7_init : ByteArray := prog_1_method_1_code
def yX7_init : MethodName := ⟨RX7, "<init>", "()V"⟩
abbrev cX7_stuff : ByteArray := prog_1_method_2_code
def yX7_stuff : MethodName := ⟨RX7, "stuff", "(II)I"⟩
abbrev cX7_wall : ByteArray := prog_1_method_3_code
def yX7_wall : MethodName := ⟨RX7, "wall", "(IIIII)I"⟩
abbrev cX7_cover : ByteArray := prog_1_method_4_code
def yX7_cover : MethodName := ⟨RX7, "cover", "(II)I"⟩
abbrev cX7_back : ByteArray := prog_1_method_5_code
def yX7_back : MethodName := ⟨RX7, "back", "()I"⟩
abbrev cX7_source : ByteArray := prog_1_method_6_code
def yX7_source : MethodName := ⟨RX7, "source", "(III)I"⟩
abbrev cX7_seat : ByteArray := prog_1_method_7_code
def yX7_seat : MethodName := ⟨RX7, "seat", "(II)I"⟩
abbrev cX7_move : ByteArray := prog_1_method_8_code
def yX7_move : MethodName := ⟨RX7, "move", "(IIII)I"⟩
abbrev cX7_rule : ByteArray := prog_1_method_9_code
def yX7_rule : MethodName := ⟨RX7, "rule", "(II)I"⟩
abbrev cX7_told : ByteArray := prog_1_method_10_code
def yX7_told : MethodName := ⟨RX7, "told", "(II)I"⟩
abbrev cX7_count : ByteArray := prog_1_method_11_code
def yX7_count : MethodName := ⟨RX7, "count", "(I)I"⟩
abbrev cX7_paths : ByteArray := prog_1_method_12_code
def yX7_paths : MethodName := ⟨RX7, "paths", "(III)I"⟩
abbrev cX7_path : ByteArray := prog_1_method_13_code
def yX7_path : MethodName := ⟨RX7, "path", "(IIII)J"⟩
abbrev cX7_sees : ByteArray := prog_1_method_14_code
def yX7_sees : MethodName := ⟨RX7, "sees", "(IIIII)I"⟩
abbrev cX7_heard : ByteArray := prog_1_method_15_code
def yX7_heard : MethodName := ⟨RX7, "heard", "(III)J"⟩
abbrev cX7_at : ByteArray := prog_1_method_16_code
def yX7_at : MethodName := ⟨RX7, "at", "(III)J"⟩
abbrev cX7_left : ByteArray := prog_1_method_17_code
def yX7_left : MethodName := ⟨RX7, "left", "(JI)J"⟩
abbrev cX7_worst : ByteArray := prog_1_method_18_code
def yX7_worst : MethodName := ⟨RX7, "worst", "(I)I"⟩
abbrev cX7_best : ByteArray := prog_1_method_19_code
def yX7_best : MethodName := ⟨RX7, "best", "(IIIII)I"⟩
abbrev cX7_isWithin : ByteArray := prog_1_method_20_code
def yX7_isWithin : MethodName := ⟨RX7, "isWithin", "(III)Z"⟩
abbrev cX7_isPoint : ByteArray := prog_1_method_21_code
def yX7_isPoint : MethodName := ⟨RX7, "isPoint", "(II)Z"⟩
abbrev cX7_areThere : ByteArray := prog_1_method_22_code
def yX7_areThere : MethodName := ⟨RX7, "areThere", "(II)Z"⟩
abbrev cX7_isWallOrNone : ByteArray := prog_1_method_23_code
def yX7_isWallOrNone : MethodName := ⟨RX7, "isWallOrNone", "(I)Z"⟩
abbrev cX7_isSet : ByteArray := prog_1_method_24_code
def yX7_isSet : MethodName := ⟨RX7, "isSet", "(I)Z"⟩
abbrev cX7_lineOfHall : ByteArray := prog_1_method_25_code
def yX7_lineOfHall : MethodName := ⟨RX7, "lineOfHall", "()I"⟩
abbrev cX7_lostInHall : ByteArray := prog_1_method_26_code
def yX7_lostInHall : MethodName := ⟨RX7, "lostInHall", "()I"⟩
abbrev cX7_decayOfHall : ByteArray := prog_1_method_27_code
def yX7_decayOfHall : MethodName := ⟨RX7, "decayOfHall", "()I"⟩
abbrev cX7_startRoute : ByteArray := prog_1_method_28_code
def yX7_startRoute : MethodName := ⟨RX7, "startRoute", "(II)V"⟩
abbrev cX7_lengthenRoute : ByteArray := prog_1_method_29_code
def yX7_lengthenRoute : MethodName := ⟨RX7, "lengthenRoute", "(I)V"⟩
abbrev cX7_find : ByteArray := prog_1_method_30_code
def yX7_find : MethodName := ⟨RX7, "find", "(IIII)V"⟩
abbrev cX7_tryRows : ByteArray := prog_1_method_31_code
def yX7_tryRows : MethodName := ⟨RX7, "tryRows", "(II)V"⟩
abbrev cX7_energyOf : ByteArray := prog_1_method_32_code
def yX7_energyOf : MethodName := ⟨RX7, "energyOf", "(II[I)J"⟩
abbrev cX7_isEarly : ByteArray := prog_1_method_33_code
def yX7_isEarly : MethodName := ⟨RX7, "isEarly", "(I)Z"⟩
abbrev cX7_sumUp : ByteArray := prog_1_method_34_code
def yX7_sumUp : MethodName := ⟨RX7, "sumUp", "(I)V"⟩
abbrev cX7_clarityOf : ByteArray := prog_1_method_35_code
def yX7_clarityOf : MethodName := ⟨RX7, "clarityOf", "(JJ)I"⟩
abbrev cX7_centreOf : ByteArray := prog_1_method_36_code
def yX7_centreOf : MethodName := ⟨RX7, "centreOf", "(JJ)J"⟩
abbrev cX7_choose : ByteArray := prog_1_method_37_code
def yX7_choose : MethodName := ⟨RX7, "choose", "(II)V"⟩
abbrev cX7_hearGroup : ByteArray := prog_1_method_38_code
def yX7_hearGroup : MethodName := ⟨RX7, "hearGroup", "(I)V"⟩
def RX8 : String := "HallHeardModel"
def TX8 : u_T := fun k => match k with
  | 0 => ("HallHeardModel", "stuffs", "I", false)
  | 1 => ("HallHeardModel", "shares", "[I", true)
  | 2 => ("HallHeardModel", "costs", "[I", true)
  | 3 => ("HallHeardModel", "walls", "I", false)
  | 4 => ("HallHeardModel", "ends", "[I", true)
  | 5 => ("HallHeardModel", "stuffOf", "[I", true)
  | 6 => ("HallHeardModel", "sources", "I", false)
  | 7 => ("HallHeardModel", "sourceX", "[I", true)
  | 8 => ("HallHeardModel", "sourceY", "[I", true)
  | 9 => ("HallHeardModel", "powers", "[I", true)
  | 10 => ("HallHeardModel", "seats", "I", false)
  | 11 => ("HallHeardModel", "seatX", "[I", true)
  | 12 => ("HallHeardModel", "seatY", "[I", true)
  | 13 => ("HallHeardModel", "most", "I", false)
  | 14 => ("HallHeardModel", "border", "I", false)
  | 15 => ("HallHeardModel", "start", "[J", true)
  | 16 => ("HallHeardModel", "way", "[J", true)
  | 17 => ("HallHeardModel", "turn", "[J", true)
  | 18 => ("HallHeardModel", "shift", "[J", true)
  | 19 => ("HallHeardModel", "shareN", "[J", true)
  | 20 => ("HallHeardModel", "shareD", "[J", true)
  | 21 => ("HallHeardModel", "row", "[I", true)
  | 22 => ("HallHeardModel", "order", "I", false)
  | 23 => ("HallHeardModel", "crossN", "J", false)
  | 24 => ("HallHeardModel", "crossD", "J", false)
  | 25 => ("HallHeardModel", "many", "I", false)
  | 26 => ("HallHeardModel", "pathRow", "[I", true)
  | 27 => ("HallHeardModel", "pathOrder", "[I", true)
  | 28 => ("HallHeardModel", "pathSquare", "[J", true)
  | _ => ("HallHeardModel", "kept", "[I", true)
def tyX8 : Nat → FieldType := fun k => match k with
  | 0 => .int
  | 1 => .array .int
  | 2 => .array .int
  | 3 => .int
  | 4 => .array .int
  | 5 => .array .int
  | 6 => .int
  | 7 => .array .int
  | 8 => .array .int
  | 9 => .array .int
  | 10 => .int
  | 11 => .array .int
  | 12 => .array .int
  | 13 => .int
  | 14 => .int
  | 15 => .array .long
  | 16 => .array .long
  | 17 => .array .long
  | 18 => .array .long
  | 19 => .array .long
  | 20 => .array .long
  | 21 => .array .int
  | 22 => .int
  | 23 => .long
  | 24 => .long
  | 25 => .int
  | 26 => .array .int
  | 27 => .array .int
  | 28 => .array .long
  | _ => .array .int
abbrev wsX80 : List Cond := u_ws RX8 TX8 30
theorem nmX8 : ∀ a, a < 30 → ∀ b, b < 30 → a ≠ b → (TX8 a).2.1 ≠ (TX8 b).2.1 := by decide +kernel
theorem tyX8_ok : ∀ k, k < 30 → parseFieldDescriptor (TX8 k).2.2.1 = some (tyX8 k) := by decide +kernel
abbrev cX8_init : ByteArray := prog_10_method_1_code
def yX8_init : MethodName := ⟨RX8, "<init>", "()V"⟩
abbrev cX8_in : ByteArray := prog_10_method_3_code
def yX8_in : MethodName := ⟨RX8, "in", "(JJJ)Z"⟩
abbrev cX8_isPoint : ByteArray := prog_10_method_4_code
def yX8_isPoint : MethodName := ⟨RX8, "isPoint", "(II)Z"⟩
abbrev cX8_stuff : ByteArray := prog_10_method_5_code
def yX8_stuff : MethodName := ⟨RX8, "stuff", "(II)I"⟩
abbrev cX8_isStuff : ByteArray := prog_10_method_6_code
def yX8_isStuff : MethodName := ⟨RX8, "isStuff", "(I)Z"⟩
abbrev cX8_isWall : ByteArray := prog_10_method_7_code
def yX8_isWall : MethodName := ⟨RX8, "isWall", "(I)Z"⟩
abbrev cX8_wall : ByteArray := prog_10_method_8_code
def yX8_wall : MethodName := ⟨RX8, "wall", "(IIIII)I"⟩
abbrev cX8_cover : ByteArray := prog_10_method_9_code
def yX8_cover : MethodName := ⟨RX8, "cover", "(II)I"⟩
abbrev cX8_back : ByteArray := prog_10_method_10_code
def yX8_back : MethodName := ⟨RX8, "back", "()I"⟩
abbrev cX8_source : ByteArray := prog_10_method_11_code
def yX8_source : MethodName := ⟨RX8, "source", "(III)I"⟩
abbrev cX8_seat : ByteArray := prog_10_method_12_code
def yX8_seat : MethodName := ⟨RX8, "seat", "(II)I"⟩
abbrev cX8_isSource : ByteArray := prog_10_method_13_code
def yX8_isSource : MethodName := ⟨RX8, "isSource", "(I)Z"⟩
abbrev cX8_isSeat : ByteArray := prog_10_method_14_code
def yX8_isSeat : MethodName := ⟨RX8, "isSeat", "(I)Z"⟩
abbrev cX8_move : ByteArray := prog_10_method_15_code
def yX8_move : MethodName := ⟨RX8, "move", "(IIII)I"⟩
abbrev cX8_rule : ByteArray := prog_10_method_16_code
def yX8_rule : MethodName := ⟨RX8, "rule", "(II)I"⟩
abbrev cX8_size : ByteArray := prog_10_method_17_code
def yX8_size : MethodName := ⟨RX8, "size", "(I)I"⟩
abbrev cX8_lengthOf : ByteArray := prog_10_method_18_code
def yX8_lengthOf : MethodName := ⟨RX8, "lengthOf", "(I)I"⟩
abbrev cX8_told : ByteArray := prog_10_method_19_code
def yX8_told : MethodName := ⟨RX8, "told", "(II)I"⟩
abbrev cX8_line : ByteArray := prog_10_method_20_code
def yX8_line : MethodName := ⟨RX8, "line", "()I"⟩
abbrev cX8_lost : ByteArray := prog_10_method_21_code
def yX8_lost : MethodName := ⟨RX8, "lost", "()I"⟩
abbrev cX8_decay : ByteArray := prog_10_method_22_code
def yX8_decay : MethodName := ⟨RX8, "decay", "()I"⟩
abbrev cX8_count : ByteArray := prog_10_method_23_code
def yX8_count : MethodName := ⟨RX8, "count", "(I)I"⟩
abbrev cX8_axisOf : ByteArray := prog_10_method_24_code
def yX8_axisOf : MethodName := ⟨RX8, "axisOf", "(I)I"⟩
abbrev cX8_lineOf : ByteArray := prog_10_method_25_code
def yX8_lineOf : MethodName := ⟨RX8, "lineOf", "(I)I"⟩
abbrev cX8_lowOf : ByteArray := prog_10_method_26_code
def yX8_lowOf : MethodName := ⟨RX8, "lowOf", "(I)I"⟩
abbrev cX8_highOf : ByteArray := prog_10_method_27_code
def yX8_highOf : MethodName := ⟨RX8, "highOf", "(I)I"⟩
abbrev cX8_placeAt : ByteArray := prog_10_method_28_code
def yX8_placeAt : MethodName := ⟨RX8, "placeAt", "(IIJJ)J"⟩
abbrev cX8_cross : ByteArray := prog_10_method_29_code
def yX8_cross : MethodName := ⟨RX8, "cross", "(II)Z"⟩
abbrev cX8_isOnAt : ByteArray := prog_10_method_30_code
def yX8_isOnAt : MethodName := ⟨RX8, "isOnAt", "(IIJJ)Z"⟩
abbrev cX8_findBounces : ByteArray := prog_10_method_31_code
def yX8_findBounces : MethodName := ⟨RX8, "findBounces", "(II)Z"⟩
abbrev cX8_meets : ByteArray := prog_10_method_32_code
def yX8_meets : MethodName := ⟨RX8, "meets", "(II)Z"⟩
abbrev cX8_isSeen : ByteArray := prog_10_method_33_code
def yX8_isSeen : MethodName := ⟨RX8, "isSeen", "()Z"⟩
abbrev cX8_tryRow : ByteArray := prog_10_method_34_code
def yX8_tryRow : MethodName := ⟨RX8, "tryRow", "(III)V"⟩
abbrev cX8_findOrder : ByteArray := prog_10_method_35_code
def yX8_findOrder : MethodName := ⟨RX8, "findOrder", "(III)V"⟩
abbrev cX8_findPaths : ByteArray := prog_10_method_36_code
def yX8_findPaths : MethodName := ⟨RX8, "findPaths", "(II)V"⟩
abbrev cX8_wallOf : ByteArray := prog_10_method_37_code
def yX8_wallOf : MethodName := ⟨RX8, "wallOf", "(II)I"⟩
abbrev cX8_energyOf : ByteArray := prog_10_method_38_code
def yX8_energyOf : MethodName := ⟨RX8, "energyOf", "(II)J"⟩
abbrev cX8_tickOf : ByteArray := prog_10_method_39_code
def yX8_tickOf : MethodName := ⟨RX8, "tickOf", "(I)I"⟩
abbrev cX8_areThere : ByteArray := prog_10_method_40_code
def yX8_areThere : MethodName := ⟨RX8, "areThere", "(II)Z"⟩
abbrev cX8_paths : ByteArray := prog_10_method_41_code
def yX8_paths : MethodName := ⟨RX8, "paths", "(III)I"⟩
abbrev cX8_path : ByteArray := prog_10_method_42_code
def yX8_path : MethodName := ⟨RX8, "path", "(IIII)J"⟩
abbrev cX8_sees : ByteArray := prog_10_method_43_code
def yX8_sees : MethodName := ⟨RX8, "sees", "(IIIII)I"⟩
abbrev cX8_leastTick : ByteArray := prog_10_method_44_code
def yX8_leastTick : MethodName := ⟨RX8, "leastTick", "()I"⟩
abbrev cX8_heardBy : ByteArray := prog_10_method_45_code
def yX8_heardBy : MethodName := ⟨RX8, "heardBy", "(II)J"⟩
abbrev cX8_heard : ByteArray := prog_10_method_46_code
def yX8_heard : MethodName := ⟨RX8, "heard", "(III)J"⟩
abbrev cX8_at : ByteArray := prog_10_method_47_code
def yX8_at : MethodName := ⟨RX8, "at", "(III)J"⟩
abbrev cX8_left : ByteArray := prog_10_method_48_code
def yX8_left : MethodName := ⟨RX8, "left", "(JI)J"⟩
abbrev cX8_worst : ByteArray := prog_10_method_49_code
def yX8_worst : MethodName := ⟨RX8, "worst", "(I)I"⟩
abbrev cX8_bits : ByteArray := prog_10_method_50_code
def yX8_bits : MethodName := ⟨RX8, "bits", "(I)I"⟩
abbrev cX8_best : ByteArray := prog_10_method_51_code
def yX8_best : MethodName := ⟨RX8, "best", "(IIIII)I"⟩
def RJ6 : String := "java/lang/Integer"
def TJ6 : u_T := fun k => match k with
  | _ => ("", "", "", false)
def tyJ6 : Nat → FieldType := fun k => match k with
  | _ => .int
abbrev wsJ60 : List Cond := u_ws RJ6 TJ6 0
theorem nmJ6 : ∀ a, a < 0 → ∀ b, b < 0 → a ≠ b → (TJ6 a).2.1 ≠ (TJ6 b).2.1 := by decide +kernel
theorem tyJ6_ok : ∀ k, k < 0 → parseFieldDescriptor (TJ6 k).2.2.1 = some (tyJ6 k) := by decide +kernel
abbrev cJ6_bitCount_0f7a4 : ByteArray := prog_11_method_49_code
def yJ6_bitCount_0f7a4 : MethodName := ⟨RJ6, "bitCount", "(I)I"⟩
def RJ9 : String := "java/lang/Math"
def TJ9 : u_T := fun k => match k with
  | _ => ("", "", "", false)
def tyJ9 : Nat → FieldType := fun k => match k with
  | _ => .int
abbrev wsJ90 : List Cond := u_ws RJ9 TJ9 0
theorem nmJ9 : ∀ a, a < 0 → ∀ b, b < 0 → a ≠ b → (TJ9 a).2.1 ≠ (TJ9 b).2.1 := by decide +kernel
theorem tyJ9_ok : ∀ k, k < 0 → parseFieldDescriptor (TJ9 k).2.2.1 = some (tyJ9 k) := by decide +kernel
abbrev cJ9_abs_067f4 : ByteArray := prog_12_method_61_code
def yJ9_abs_067f4 : MethodName := ⟨RJ9, "abs", "(J)J"⟩
abbrev cJ9_max_7cf53 : ByteArray := prog_12_method_65_code
def yJ9_max_7cf53 : MethodName := ⟨RJ9, "max", "(II)I"⟩
abbrev cJ9_min_7cf53 : ByteArray := prog_12_method_69_code
def yJ9_min_7cf53 : MethodName := ⟨RJ9, "min", "(II)I"⟩
def RL : String := "HallHeardLaw"
abbrev cL_law : ByteArray := code
def yL_law : MethodName := ⟨RL, "law", "([I)Z"⟩
abbrev vwCl : List vw_C := [(RX0, TX0, 13), (RX1, TX1, 5), (RX2, TX2, 3), (RX3, TX3, 8), (RX4, TX4, 3), (RX5, TX5, 3), (RX6, TX6, 7), (RX7, TX7, 11), (RX8, TX8, 30)]
theorem inX0 : ∀ w ∈ wsX00, w ∈ lw_tbl := by decide +kernel
theorem inX1 : ∀ w ∈ wsX10, w ∈ lw_tbl := by decide +kernel
theorem inX2 : ∀ w ∈ wsX20, w ∈ lw_tbl := by decide +kernel
theorem inX3 : ∀ w ∈ wsX30, w ∈ lw_tbl := by decide +kernel
theorem inX4 : ∀ w ∈ wsX40, w ∈ lw_tbl := by decide +kernel
theorem inX5 : ∀ w ∈ wsX50, w ∈ lw_tbl := by decide +kernel
theorem inX6 : ∀ w ∈ wsX60, w ∈ lw_tbl := by decide +kernel
theorem inX7 : ∀ w ∈ wsX70, w ∈ lw_tbl := by decide +kernel
theorem inX8 : ∀ w ∈ wsX80, w ∈ lw_tbl := by decide +kernel
def fTB : List Cond := lw_tbl.filter goodWord
theorem fTB_good (w : Cond) (h : w ∈ fTB) : goodWord w = true := (List.mem_filter.mp h).2
theorem fTB_in (w : Cond) (h : w ∈ fTB) : w ∈ lw_tbl := (List.mem_filter.mp h).1
theorem fTB_of {w : Cond} (h : w ∈ lw_tbl) (hg : goodWord w = true) : w ∈ fTB := List.mem_filter.mpr ⟨h, hg⟩
theorem fTB_at {w : Cond} (i : Nat) (h : lw_tbl[i]? = some w) (hg : goodWord w = true) : w ∈ fTB := fTB_of (List.mem_of_getElem? h) hg
theorem inT0 : ∀ w ∈ wsX00, w ∈ fTB := fun w h => fTB_of (inX0 w h) ((by decide +kernel : ∀ w ∈ wsX00, goodWord w = true) w h)
theorem inT1 : ∀ w ∈ wsX10, w ∈ fTB := fun w h => fTB_of (inX1 w h) ((by decide +kernel : ∀ w ∈ wsX10, goodWord w = true) w h)
theorem inT2 : ∀ w ∈ wsX20, w ∈ fTB := fun w h => fTB_of (inX2 w h) ((by decide +kernel : ∀ w ∈ wsX20, goodWord w = true) w h)
theorem inT3 : ∀ w ∈ wsX30, w ∈ fTB := fun w h => fTB_of (inX3 w h) ((by decide +kernel : ∀ w ∈ wsX30, goodWord w = true) w h)
theorem inT4 : ∀ w ∈ wsX40, w ∈ fTB := fun w h => fTB_of (inX4 w h) ((by decide +kernel : ∀ w ∈ wsX40, goodWord w = true) w h)
theorem inT5 : ∀ w ∈ wsX50, w ∈ fTB := fun w h => fTB_of (inX5 w h) ((by decide +kernel : ∀ w ∈ wsX50, goodWord w = true) w h)
theorem inT6 : ∀ w ∈ wsX60, w ∈ fTB := fun w h => fTB_of (inX6 w h) ((by decide +kernel : ∀ w ∈ wsX60, goodWord w = true) w h)
theorem inT7 : ∀ w ∈ wsX70, w ∈ fTB := fun w h => fTB_of (inX7 w h) ((by decide +kernel : ∀ w ∈ wsX70, goodWord w = true) w h)
theorem inT8 : ∀ w ∈ wsX80, w ∈ fTB := fun w h => fTB_of (inX8 w h) ((by decide +kernel : ∀ w ∈ wsX80, goodWord w = true) w h)
end
section
/-! THE FRAME: a small machine over numbers (a heap of fixed cells), and that the JVM does what it does. -/
/-- a half of the state: int fields (cell, slot), long fields, int arrays (cell, place), long arrays -/
abbrev fH : Type := (Nat → Nat → Int32) × (Nat → Nat → Int64) × (Nat → Nat → Int32) × (Nat → Nat → Int64)
/-- the state: the half of the landed program (cells below 36), the half of the reference -/
abbrev fS : Type := fH × fH
def fup {α : Type} (f : Nat → α) (k : Nat) (x : α) : Nat → α := fun j => if j = k then x else f j
theorem fup_s {α : Type} (f : Nat → α) (k : Nat) (x : α) : fup f k x k = x := if_pos rfl
theorem fup_n {α : Type} (f : Nat → α) {k j : Nat} (x : α) (h : j ≠ k) : fup f k x j = f j := if_neg h
def gI (S : fS) (o k : Nat) : Int32 := bif Nat.blt o 36 then S.1.1 o k else S.2.1 o k
def gJ (S : fS) (o k : Nat) : Int64 := bif Nat.blt o 36 then S.1.2.1 o k else S.2.2.1 o k
def gA (S : fS) (o : Nat) : Nat → Int32 := bif Nat.blt o 36 then S.1.2.2.1 o else S.2.2.2.1 o
def gB (S : fS) (o : Nat) : Nat → Int64 := bif Nat.blt o 36 then S.1.2.2.2 o else S.2.2.2.2 o
def wI (S : fS) (o k : Nat) (x : Int32) : fS := bif Nat.blt o 36 then ((fup S.1.1 o (fup (S.1.1 o) k x), S.1.2), S.2) else (S.1, (fup S.2.1 o (fup (S.2.1 o) k x), S.2.2))
def wJ (S : fS) (o k : Nat) (x : Int64) : fS := bif Nat.blt o 36 then ((S.1.1, fup S.1.2.1 o (fup (S.1.2.1 o) k x), S.1.2.2), S.2) else (S.1, (S.2.1, fup S.2.2.1 o (fup (S.2.2.1 o) k x), S.2.2.2))
def wA (S : fS) (o : Nat) (g : Nat → Int32) : fS := bif Nat.blt o 36 then ((S.1.1, S.1.2.1, fup S.1.2.2.1 o g, S.1.2.2.2), S.2) else (S.1, (S.2.1, S.2.2.1, fup S.2.2.2.1 o g, S.2.2.2.2))
def wB (S : fS) (o : Nat) (g : Nat → Int64) : fS := bif Nat.blt o 36 then ((S.1.1, S.1.2.1, S.1.2.2.1, fup S.1.2.2.2 o g), S.2) else (S.1, (S.2.1, S.2.2.1, S.2.2.2.1, fup S.2.2.2.2 o g))
section ReadWrite
variable (S : fS) (o k a b : Nat)
theorem gI_wI (x : Int32) : gI (wI S o k x) a b = if a = o then (if b = k then x else gI S a b) else gI S a b := by
  unfold gI wI
  cases h : Nat.blt o 36 <;> cases h2 : Nat.blt a 36 <;> simp only [cond_true, cond_false, fup] <;> (by_cases e : a = o)
  all_goals first | (subst e; rw [h] at h2; cases h2; done) | (subst e; simp [fup]; done) | (simp [e]; done)
theorem gJ_wJ (x : Int64) : gJ (wJ S o k x) a b = if a = o then (if b = k then x else gJ S a b) else gJ S a b := by
  unfold gJ wJ
  cases h : Nat.blt o 36 <;> cases h2 : Nat.blt a 36 <;> simp only [cond_true, cond_false, fup] <;> (by_cases e : a = o)
  all_goals first | (subst e; rw [h] at h2; cases h2; done) | (subst e; simp [fup]; done) | (simp [e]; done)
theorem gA_wA (g : Nat → Int32) : gA (wA S o g) a = if a = o then g else gA S a := by
  unfold gA wA
  cases h : Nat.blt o 36 <;> cases h2 : Nat.blt a 36 <;> simp only [cond_true, cond_false, fup] <;> (by_cases e : a = o)
  all_goals first | (subst e; rw [h] at h2; cases h2; done) | (subst e; simp [fup]; done) | (simp [e]; done)
theorem gB_wB (g : Nat → Int64) : gB (wB S o g) a = if a = o then g else gB S a := by
  unfold gB wB
  cases h : Nat.blt o 36 <;> cases h2 : Nat.blt a 36 <;> simp only [cond_true, cond_false, fup] <;> (by_cases e : a = o)
  all_goals first | (subst e; rw [h] at h2; cases h2; done) | (subst e; simp [fup]; done) | (simp [e]; done)
theorem gI_wJ (x : Int64) : gI (wJ S o k x) = gI S := by funext a b; unfold gI wJ; cases Nat.blt o 36 <;> rfl
theorem gI_wA (g : Nat → Int32) : gI (wA S o g) = gI S := by funext a b; unfold gI wA; cases Nat.blt o 36 <;> rfl
theorem gI_wB (g : Nat → Int64) : gI (wB S o g) = gI S := by funext a b; unfold gI wB; cases Nat.blt o 36 <;> rfl
theorem gJ_wI (x : Int32) : gJ (wI S o k x) = gJ S := by funext a b; unfold gJ wI; cases Nat.blt o 36 <;> rfl
theorem gJ_wA (g : Nat → Int32) : gJ (wA S o g) = gJ S := by funext a b; unfold gJ wA; cases Nat.blt o 36 <;> rfl
theorem gJ_wB (g : Nat → Int64) : gJ (wB S o g) = gJ S := by funext a b; unfold gJ wB; cases Nat.blt o 36 <;> rfl
theorem gA_wI (x : Int32) : gA (wI S o k x) = gA S := by funext a; unfold gA wI; cases Nat.blt o 36 <;> rfl
theorem gA_wJ (x : Int64) : gA (wJ S o k x) = gA S := by funext a; unfold gA wJ; cases Nat.blt o 36 <;> rfl
theorem gA_wB (g : Nat → Int64) : gA (wB S o g) = gA S := by funext a; unfold gA wB; cases Nat.blt o 36 <;> rfl
theorem gB_wI (x : Int32) : gB (wI S o k x) = gB S := by funext a; unfold gB wI; cases Nat.blt o 36 <;> rfl
theorem gB_wJ (x : Int64) : gB (wJ S o k x) = gB S := by funext a; unfold gB wJ; cases Nat.blt o 36 <;> rfl
theorem gB_wA (g : Nat → Int32) : gB (wA S o g) = gB S := by funext a; unfold gB wA; cases Nat.blt o 36 <;> rfl
end ReadWrite
/-- the cells: an object (its kind below 20; its slots: 0 a reference and to which cell, 1 an int, 2 a long, 3 a boolean), 20 an int array, 21 a long array (its length) -/
def fLay : List (Nat × List (Nat × Nat)) := [
  (7, [(0, 1), (0, 4), (0, 11), (0, 14), (0, 17), (0, 18), (0, 24), (0, 28), (0, 29), (1, 0), (1, 0)]),
  (4, [(0, 2), (0, 3), (1, 0)]), (20, [(8, 0)]), (20, [(8, 0)]),
  (6, [(0, 5), (0, 6), (0, 7), (0, 8), (0, 9), (0, 10), (1, 0)]), (20, [(64, 0)]), (20, [(16, 0)]), (20, [(16, 0)]), (20, [(16, 0)]), (20, [(16, 0)]), (20, [(16, 0)]),
  (2, [(0, 12), (0, 13), (1, 0)]), (20, [(4, 0)]), (20, [(4, 0)]),
  (2, [(0, 15), (0, 16), (1, 0)]), (20, [(8, 0)]), (20, [(8, 0)]),
  (20, [(4, 0)]),
  (3, [(0, 19), (0, 20), (0, 21), (0, 22), (0, 23), (1, 0), (1, 0), (1, 0)]), (20, [(3, 0)]), (20, [(8, 0)]), (20, [(8, 0)]), (21, [(5, 0)]), (21, [(5, 0)]),
  (1, [(0, 25), (0, 26), (0, 27), (1, 0), (1, 0)]), (20, [(3857, 0)]), (21, [(3857, 0)]), (20, [(3857, 0)]),
  (5, [(2, 0), (2, 0), (2, 0)]),
  (0, [(0, 30), (0, 31), (0, 32), (0, 33), (0, 34), (0, 35), (1, 0), (1, 0), (1, 0), (3, 0), (1, 0), (1, 0), (1, 0)]), (20, [(4, 0)]), (20, [(16, 0)]), (20, [(3857, 0)]), (20, [(6, 0)]), (21, [(5, 0)]), (21, [(5, 0)]),
  (8, [(1, 0), (0, 37), (0, 38), (1, 0), (0, 39), (0, 40), (1, 0), (0, 41), (0, 42), (0, 43), (1, 0), (0, 44), (0, 45), (1, 0), (1, 0), (0, 46), (0, 47), (0, 48), (0, 49), (0, 50), (0, 51), (0, 52), (1, 0), (2, 0), (2, 0), (1, 0), (0, 53), (0, 54), (0, 55), (0, 56)]),
  (20, [(8, 0)]), (20, [(8, 0)]), (20, [(64, 0)]), (20, [(16, 0)]), (20, [(4, 0)]), (20, [(4, 0)]), (20, [(4, 0)]), (20, [(8, 0)]), (20, [(8, 0)]),
  (21, [(2, 0)]), (21, [(2, 0)]), (21, [(8, 0)]), (21, [(8, 0)]), (21, [(5, 0)]), (21, [(5, 0)]), (20, [(3, 0)]), (20, [(4000, 0)]), (20, [(4000, 0)]), (21, [(4000, 0)]), (20, [(16, 0)])]
theorem fLay_len : fLay.length = 57 := by decide
/-- a value of the small machine (its references are cells' numbers) as the JVM has it -/
def cv (ad : Nat → Nat) (v : Value) : Value := match v with
  | .ref o => .ref (ad o)
  | v => v
theorem cv_cat (ad : Nat → Nat) (v : Value) : (cv ad v).category = v.category := by cases v <;> rfl
def fFld (S : fS) (o k : Nat) (d : Nat × Nat) : Value := match d.1 with
  | 0 => .ref d.2
  | 2 => .long (gJ S o k)
  | _ => .int (gI S o k)
def fLen (e : Nat × List (Nat × Nat)) : Nat := (e.2.headD (0, 0)).1
def fCell (ad : Nat → Nat) (cI cJ : ClassId) (S : fS) (o : Nat) (e : Nat × List (Nat × Nat)) : va_E := match e.1 with
  | 20 => .inl (cI, fLen e, .inl (gA S o))
  | 21 => .inl (cJ, fLen e, .inr (.inl (gB S o)))
  | ci => .inr (ci, e.2.mapIdx fun k d => cv ad (fFld S o k d))
def fW (ad : Nat → Nat) (cI cJ : ClassId) (S : fS) : va_W := fLay.mapIdx fun o e => (ad o, fCell ad cI cJ S o e)
theorem fW_at (ad : Nat → Nat) (cI cJ : ClassId) (S : fS) {o : Nat} {e : Nat × List (Nat × Nat)} (h : fLay[o]? = some e) : (fW ad cI cJ S)[o]? = some (ad o, fCell ad cI cJ S o e) := by
  simp [fW, List.getElem?_mapIdx, h]
theorem fCell_obj (ad : Nat → Nat) (cI cJ : ClassId) (S : fS) (o ci : Nat) (fs : List (Nat × Nat)) (h : ci < 20) : fCell ad cI cJ S o (ci, fs) = .inr (ci, fs.mapIdx fun k d => cv ad (fFld S o k d)) := by
  unfold fCell
  split
  · rename_i q; simp only at q; omega
  · rename_i q; simp only at q; omega
  · rfl
theorem fCell_int (ad : Nat → Nat) (cI cJ : ClassId) (S : fS) (o : Nat) (fs : List (Nat × Nat)) : fCell ad cI cJ S o (20, fs) = .inl (cI, fLen (20, fs), .inl (gA S o)) := rfl
theorem fCell_long (ad : Nat → Nat) (cI cJ : ClassId) (S : fS) (o : Nat) (fs : List (Nat × Nat)) : fCell ad cI cJ S o (21, fs) = .inl (cJ, fLen (21, fs), .inr (.inl (gB S o))) := rfl
/-- a world with one cell changed -/
theorem fW_set (ad : Nat → Nat) (cI cJ : ClassId) (S S' : fS) {o : Nat} {e : Nat × List (Nat × Nat)} (h : fLay[o]? = some e) (hs : ∀ (a : Nat) (d : Nat × List (Nat × Nat)), fLay[a]? = some d → a ≠ o → fCell ad cI cJ S' a d = fCell ad cI cJ S a d) : (fW ad cI cJ S).set o (ad o, fCell ad cI cJ S' o e) = fW ad cI cJ S' := by
  apply List.ext_getElem?
  intro i
  by_cases hi : i = o
  · subst hi
    rw [List.getElem?_set_self (by simp only [fW, List.length_mapIdx]; exact (List.getElem?_eq_some_iff.mp h).1), fW_at ad cI cJ S' h]
  · rw [List.getElem?_set_ne (Ne.symm hi)]
    simp only [fW, List.getElem?_mapIdx]
    cases hd : fLay[i]? with
    | none => rfl
    | some d => simp only [Option.map_some]; rw [hs i d hd hi]
/-- a cell looks only at its own numbers -/
theorem fCell_eq (ad : Nat → Nat) (cI cJ : ClassId) (S S' : fS) (a : Nat) (d : Nat × List (Nat × Nat)) (hI : gI S' a = gI S a) (hJ : gJ S' a = gJ S a) (hA : gA S' a = gA S a) (hB : gB S' a = gB S a) : fCell ad cI cJ S' a d = fCell ad cI cJ S a d := by
  unfold fCell
  rw [hA, hB]
  have : (fun k d => cv ad (fFld S' a k d)) = (fun k d => cv ad (fFld S a k d)) := by
    funext k d
    unfold fFld
    rw [hI, hJ]
  rw [this]
end
section
/-! THE SMALL MACHINE'S STEP -/
abbrev fL : Type := List (Nat × Value)
abbrev fR : Type := Option (Option Prop × fL × List Value × fS)
def fGet : fL → Nat → Option Value
  | [], _ => none
  | q :: t, i => bif Nat.beq q.1 i then some q.2 else fGet t i
def fIns (i : Nat) (v : Value) : fL → fL
  | [] => [(i, v)]
  | q :: t => bif Nat.blt i q.1 then (i, v) :: q :: t else q :: fIns i v t
def fSet1 (L : fL) (i : Nat) (v : Value) : fL := fIns i v (L.filter (fun q => !(Nat.beq q.1 i) && !(Nat.beq (q.1 + 1) i && Nat.beq q.2.category 2)))
def fSet2 (L : fL) (i : Nat) (v : Value) : fL := fIns i v (L.filter (fun q => !(Nat.beq q.1 i) && (!(Nat.beq q.1 (i + 1)) && !(Nat.beq (q.1 + 1) i && Nat.beq q.2.category 2))))
/-- a constant as it is written -/
def fLit (n : Int) : Int32 := match n with
  | .ofNat k => OfNat.ofNat k
  | .negSucc k => -(OfNat.ofNat (k + 1))
def fLdI (L : fL) (i : Nat) (st : List Value) (S : fS) : fR := match fGet L i with
  | some (.int x) => some (none, L, .int x :: st, S)
  | _ => none
def fLdJ (L : fL) (i : Nat) (st : List Value) (S : fS) : fR := match fGet L i with
  | some (.long x) => some (none, L, .long x :: st, S)
  | _ => none
def fLdA (L : fL) (i : Nat) (st : List Value) (S : fS) : fR := match fGet L i with
  | some (.ref x) => some (none, L, .ref x :: st, S)
  | _ => none
def fStI (nl : Nat) (L : fL) (i : Nat) (st : List Value) (S : fS) : fR := match st with
  | .int x :: r => bif Nat.blt i nl then some (none, fSet1 L i (.int x), r, S) else none
  | _ => none
def fStA (nl : Nat) (L : fL) (i : Nat) (st : List Value) (S : fS) : fR := match st with
  | .ref x :: r => bif Nat.blt i nl then some (none, fSet1 L i (.ref x), r, S) else none
  | _ => none
def fStJ (nl : Nat) (L : fL) (i : Nat) (st : List Value) (S : fS) : fR := match st with
  | .long x :: r => bif Nat.blt (i + 1) nl then some (none, fSet2 L i (.long x), r, S) else none
  | _ => none
def fII (f : Int32 → Int32 → Int32) (L : fL) (st : List Value) (S : fS) : fR := match st with
  | .int y :: .int x :: r => some (none, L, .int (f x y) :: r, S)
  | _ => none
def fJJ (f : Int64 → Int64 → Int64) (L : fL) (st : List Value) (S : fS) : fR := match st with
  | .long y :: .long x :: r => some (none, L, .long (f x y) :: r, S)
  | _ => none
def fJI (f : Int64 → Int32 → Int64) (L : fL) (st : List Value) (S : fS) : fR := match st with
  | .int y :: .long x :: r => some (none, L, .long (f x y) :: r, S)
  | _ => none
def fIIq (f : Int32 → Int32 → Int32) (L : fL) (st : List Value) (S : fS) : fR := match st with
  | .int y :: .int x :: r => some (some (¬ y = 0), L, .int (f x y) :: r, S)
  | _ => none
def fJJq (f : Int64 → Int64 → Int64) (L : fL) (st : List Value) (S : fS) : fR := match st with
  | .long y :: .long x :: r => some (some (¬ y = 0), L, .long (f x y) :: r, S)
  | _ => none
def fCmp (L : fL) (st : List Value) (S : fS) : fR := match st with
  | .long y :: .long x :: r => some (none, L, .int (lg_cmp x y) :: r, S)
  | _ => none
def fUn (L : fL) (st : List Value) (S : fS) (f : Value → Option Value) : fR := match st with
  | v :: r => match f v with
    | some w => some (none, L, w :: r, S)
    | none => none
  | _ => none
def fI2L (v : Value) : Option Value := match v with
  | .int x => some (.long x.toInt64)
  | _ => none
def fL2I (v : Value) : Option Value := match v with
  | .long x => some (.int x.toInt32)
  | _ => none
def fIneg (v : Value) : Option Value := match v with
  | .int x => some (.int (-x))
  | _ => none
def fLneg (v : Value) : Option Value := match v with
  | .long x => some (.long (-x))
  | _ => none
def fDup (L : fL) (st : List Value) (S : fS) : fR := match st with
  | v :: r => bif Nat.beq v.category 1 then some (none, L, v :: v :: r, S) else none
  | _ => none
def fIinc (nl : Nat) (L : fL) (i : Nat) (n : Int) (st : List Value) (S : fS) : fR := match fGet L i with
  | some (.int x) => bif Nat.blt i nl then some (none, fSet1 L i (.int (x + fLit n)), st, S) else none
  | _ => none
def fGetf (d : Option (Nat × Nat)) (L : fL) (st : List Value) (S : fS) : fR := match d, st with
  | some (ci, k), .ref o :: r => match fLay[o]? with
    | some e => bif Nat.beq e.1 ci then (match e.2[k]? with
      | some d => some (none, L, fFld S o k d :: r, S)
      | none => none) else none
    | none => none
  | _, _ => none
def fPut1 (L : fL) (r : List Value) (S : fS) (o k : Nat) (t : Nat) (v : Value) : fR := match t, v with
  | 1, .int x => some (none, L, r, wI S o k x)
  | 2, .long x => some (none, L, r, wJ S o k x)
  | 3, .int x => some (some (x = 0 ∨ x = 1), L, r, wI S o k x)
  | _, _ => none
def fPutf (d : Option (Nat × Nat)) (L : fL) (st : List Value) (S : fS) : fR := match d, st with
  | some (ci, k), v :: .ref o :: r => match fLay[o]? with
    | some e => bif Nat.beq e.1 ci then (match e.2[k]? with
      | some d => fPut1 L r S o k d.1 v
      | none => none) else none
    | none => none
  | _, _ => none
def fIald (sc : Option (Nat × (Nat → Int32))) (L : fL) (st : List Value) (S : fS) : fR := match st with
  | .int i :: .ref o :: r => bif Nat.beq o 99 then (match sc with
      | some q => some (some (vp_in i q.1), L, .int (q.2 i.toNatClampNeg) :: r, S)
      | none => none)
    else match fLay[o]? with
      | some e => bif Nat.beq e.1 20 then some (some (vp_in i (fLen e)), L, .int (gA S o i.toNatClampNeg) :: r, S) else none
      | none => none
  | _ => none
def fLald (L : fL) (st : List Value) (S : fS) : fR := match st with
  | .int i :: .ref o :: r => match fLay[o]? with
      | some e => bif Nat.beq e.1 21 then some (some (vp_in i (fLen e)), L, .long (gB S o i.toNatClampNeg) :: r, S) else none
      | none => none
  | _ => none
def fIast (L : fL) (st : List Value) (S : fS) : fR := match st with
  | .int x :: .int i :: .ref o :: r => match fLay[o]? with
      | some e => bif Nat.beq e.1 20 then some (some (vp_in i (fLen e)), L, r, wA S o (upd (gA S o) i.toNatClampNeg x)) else none
      | none => none
  | _ => none
def fLast (L : fL) (st : List Value) (S : fS) : fR := match st with
  | .long x :: .int i :: .ref o :: r => match fLay[o]? with
      | some e => bif Nat.beq e.1 21 then some (some (vp_in i (fLen e)), L, r, wB S o (vp_updL (gB S o) i.toNatClampNeg x)) else none
      | none => none
  | _ => none
def fAlen (sc : Option (Nat × (Nat → Int32))) (L : fL) (st : List Value) (S : fS) : fR := match st with
  | .ref o :: r => bif Nat.beq o 99 then (match sc with
      | some q => some (none, L, .int (Int32.ofNat q.1) :: r, S)
      | none => none)
    else match fLay[o]? with
      | some e => bif Nat.beq e.1 20 then some (none, L, .int (OfNat.ofNat (fLen e)) :: r, S) else none
      | none => none
  | _ => none
def fKcI (d : Option Value) (L : fL) (st : List Value) (S : fS) : fR := match d with
  | some (.int x) => some (none, L, .int x :: st, S)
  | _ => none
def fKcJ (d : Option Value) (L : fL) (st : List Value) (S : fS) : fR := match d with
  | some (.long x) => some (none, L, .long x :: st, S)
  | _ => none
abbrev fSc : Type := Option (Nat × (Nat → Int32))
/-- one instruction that neither branches nor calls -/
def fStp (fl : Nat → Option (Nat × Nat)) (kc : Nat → Option Value) (nl : Nat) (sc : fSc) (i : Instr) (L : fL) (st : List Value) (S : fS) : fR := match i with
  | .iload_n k => fLdI L k.val st S
  | .iload k => fLdI L k st S
  | .lload_n k => fLdJ L k.val st S
  | .lload k => fLdJ L k st S
  | .aload_n k => fLdA L k.val st S
  | .aload k => fLdA L k st S
  | .istore_n k => fStI nl L k.val st S
  | .istore k => fStI nl L k st S
  | .lstore_n k => fStJ nl L k.val st S
  | .lstore k => fStJ nl L k st S
  | .astore_n k => fStA nl L k.val st S
  | .astore k => fStA nl L k st S
  | .iconst n => some (none, L, .int (fLit n) :: st, S)
  | .bipush n => bif decide (-128 ≤ n ∧ n < 128) then some (none, L, .int (fLit n) :: st, S) else none
  | .sipush n => bif decide (-32768 ≤ n ∧ n < 32768) then some (none, L, .int (fLit n) :: st, S) else none
  | .lconst n => some (none, L, .long (OfNat.ofNat n.val) :: st, S)
  | .ldc k => fKcI (kc k) L st S
  | .ldc_w k => fKcI (kc k) L st S
  | .ldc2_w k => fKcJ (kc k) L st S
  | .iadd => fII (fun x y => x + y) L st S
  | .isub => fII (fun x y => x - y) L st S
  | .imul => fII (fun x y => x * y) L st S
  | .iand => fII (fun x y => x &&& y) L st S
  | .ior => fII (fun x y => x ||| y) L st S
  | .ishl => fII (fun x y => x <<< (y &&& 31)) L st S
  | .ishr => fII (fun x y => x >>> (y &&& 31)) L st S
  | .iushr => fII (fun x y => (x.toUInt32 >>> (y.toUInt32 &&& Int32.toUInt32 31)).toInt32) L st S
  | .idiv => fIIq (fun x y => x / y) L st S
  | .irem => fIIq (fun x y => x - x / y * y) L st S
  | .ladd => fJJ (fun x y => x + y) L st S
  | .lsub => fJJ (fun x y => x - y) L st S
  | .lmul => fJJ (fun x y => x * y) L st S
  | .land => fJJ (fun x y => x &&& y) L st S
  | .lor => fJJ (fun x y => x ||| y) L st S
  | .ldiv => fJJq (fun x y => x / y) L st S
  | .lshl => fJI (fun x y => x <<< (y.toInt64 &&& 63)) L st S
  | .lshr => fJI (fun x y => x >>> (y.toInt64 &&& 63)) L st S
  | .lcmp => fCmp L st S
  | .i2l => fUn L st S fI2L
  | .l2i => fUn L st S fL2I
  | .ineg => fUn L st S fIneg
  | .lneg => fUn L st S fLneg
  | .dup => fDup L st S
  | .iinc k n => fIinc nl L k n st S
  | .getfield k => fGetf (fl k) L st S
  | .putfield k => fPutf (fl k) L st S
  | .iaload => fIald sc L st S
  | .laload => fLald L st S
  | .iastore => fIast L st S
  | .lastore => fLast L st S
  | .arraylength => fAlen sc L st S
  | .goto _ => some (none, L, st, S)
  | _ => none
def fIl (i : Instr) : Nat := match i with
  | .iload _ => 2
  | .lload _ => 2
  | .aload _ => 2
  | .istore _ => 2
  | .lstore _ => 2
  | .astore _ => 2
  | .bipush _ => 2
  | .ldc _ => 2
  | .sipush _ => 3
  | .ldc_w _ => 3
  | .ldc2_w _ => 3
  | .iinc _ _ => 3
  | .getfield _ => 3
  | .putfield _ => 3
  | .goto _ => 3
  | _ => 1
def fNext (i : Instr) (pc : Nat) : Nat := match i with
  | .goto off => ((pc : Int) + off).toNat
  | i => pc + fIl i
def fGo (i : Instr) (pc : Nat) : Bool := match i with
  | .goto off => decide (0 ≤ (pc : Int) + off)
  | _ => true
/-- the code has these instructions from there on, one behind the other -/
def fOkB (cc : ByteArray) : Nat → List Instr → Bool
  | _, [] => true
  | pc, i :: t => decide (decode cc pc = .ok (i, fIl i)) && (fGo i pc && fOkB cc (fNext i pc) t)
def fRun (fl : Nat → Option (Nat × Nat)) (kc : Nat → Option Value) (nl : Nat) (sc : fSc) : List Instr → Nat → fL → List Value → fS → Option (Prop × Nat × fL × List Value × fS)
  | [], pc, L, st, S => some (True, pc, L, st, S)
  | i :: t, pc, L, st, S => match fStp fl kc nl sc i L st S with
    | none => none
    | some (none, L', st', S') => fRun fl kc nl sc t (fNext i pc) L' st' S'
    | some (some P, L', st', S') => match fRun fl kc nl sc t (fNext i pc) L' st' S' with
      | none => none
      | some (P2, z) => some (P ∧ P2, z)
end
section
/-! THE JVM DOES WHAT THE SMALL MACHINE DOES -/
def fLs (ad : Nat → Nat) (L : fL) : fL := L.map fun q => (q.1, cv ad q.2)
theorem fGet_mem : ∀ {L : fL} {i : Nat} {v : Value}, fGet L i = some v → (i, v) ∈ L
  | [], _, _, h => by cases h
  | q :: t, i, v, h => by
    unfold fGet at h
    cases hq : Nat.beq q.1 i with
    | true =>
      rw [hq] at h
      have e := Nat.eq_of_beq_eq_true hq
      simp only [cond_true, Option.some.injEq] at h
      subst h
      subst e
      exact List.mem_cons_self
    | false =>
      rw [hq] at h
      exact List.mem_cons_of_mem _ (fGet_mem h)
theorem fIns_mem (i : Nat) (v : Value) : ∀ (L : fL) (q : Nat × Value), q ∈ fIns i v L → q = (i, v) ∨ q ∈ L
  | [], q, h => by simp [fIns] at h; exact Or.inl h
  | r :: t, q, h => by
    unfold fIns at h
    cases hq : Nat.blt i r.1 with
    | true => rw [hq] at h; simpa using h
    | false =>
      rw [hq] at h
      rcases List.mem_cons.mp h with e | e
      · exact Or.inr (e ▸ List.mem_cons_self)
      · rcases fIns_mem i v t q e with e | e
        · exact Or.inl e
        · exact Or.inr (List.mem_cons_of_mem _ e)
theorem fls_less {ls : Array Slot} {nL : Nat} {l l' : fL} (h : lv_has ls nL l) (hm : ∀ q ∈ l', q ∈ l) : lv_has ls nL l' := ⟨h.1, h.2.1, fun q hq => h.2.2 q (hm q hq)⟩
theorem fbeq (a b : Nat) : (a == b) = Nat.beq a b := by rw [Bool.eq_iff_iff]; simp
theorem fSet1_less (ad : Nat → Nat) (L : fL) (i : Nat) (v : Value) : ∀ q ∈ fLs ad (fSet1 L i v), q ∈ (i, cv ad v) :: (fLs ad L).filter (fun q => !(q.1 == i) && !(q.1 + 1 == i && q.2.category == 2)) := by
  intro q hq
  obtain ⟨r, hr, rfl⟩ := List.mem_map.mp hq
  rcases fIns_mem i v _ r hr with e | e
  · subst e; exact List.mem_cons_self
  · refine List.mem_cons_of_mem _ (List.mem_filter.mpr ⟨List.mem_map.mpr ⟨r, (List.mem_filter.mp e).1, rfl⟩, ?_⟩)
    have h2 := (List.mem_filter.mp e).2
    simp only [cv_cat, fbeq]
    exact h2
theorem fSet2_less (ad : Nat → Nat) (L : fL) (i : Nat) (v : Value) : ∀ q ∈ fLs ad (fSet2 L i v), q ∈ (i, cv ad v) :: (fLs ad L).filter (fun q => !(q.1 == i) && (!(q.1 == i + 1) && !(q.1 + 1 == i && q.2.category == 2))) := by
  intro q hq
  obtain ⟨r, hr, rfl⟩ := List.mem_map.mp hq
  rcases fIns_mem i v _ r hr with e | e
  · subst e; exact List.mem_cons_self
  · refine List.mem_cons_of_mem _ (List.mem_filter.mpr ⟨List.mem_map.mpr ⟨r, (List.mem_filter.mp e).1, rfl⟩, ?_⟩)
    have h2 := (List.mem_filter.mp e).2
    simp only [cv_cat, fbeq]
    exact h2
theorem fLit_ofInt (n : Int) : fLit n = Int32.ofInt n := by
  cases n with
  | ofNat k => rfl
  | negSucc k =>
    show -(Int32.ofNat (k + 1)) = Int32.ofInt (Int.negSucc k)
    rw [show Int.negSucc k = -((k + 1 : Nat) : Int) from rfl, Int32.ofInt_neg]
    rfl
theorem fLit_8 {n : Int} (h1 : -128 ≤ n) (h2 : n < 128) : (Int8.ofInt n).toInt32 = fLit n := by
  rw [fLit_ofInt]
  apply Int32.toInt_inj.mp
  rw [Int8.toInt_toInt32, Int8.toInt_ofInt, Int32.toInt_ofInt]
  have a : n.bmod 256 = n := by rw [Int.bmod_def]; omega
  have b : n.bmod 4294967296 = n := by rw [Int.bmod_def]; omega
  simp only [Int8.size, Int32.size] at *
  omega
theorem fLit_16 {n : Int} (h1 : -32768 ≤ n) (h2 : n < 32768) : (Int16.ofInt n).toInt32 = fLit n := by
  rw [fLit_ofInt]
  apply Int32.toInt_inj.mp
  rw [Int16.toInt_toInt32, Int16.toInt_ofInt, Int32.toInt_ofInt]
  have a : n.bmod 65536 = n := by rw [Int.bmod_def]; omega
  have b : n.bmod 4294967296 = n := by rw [Int.bmod_def]; omega
  simp only [Int16.size, Int32.size] at *
  omega
/-- what the tables must say of the constant pool's numbers -/
def fFlOk (own : String) (fl : Nat → Option (Nat × Nat)) : Prop := ∀ (idx ci k : Nat), fl idx = some (ci, k) → ∃ (C : String) (T : u_T) (N : Nat), vwCl[ci]? = some (C, T, N) ∧ k < N ∧ Cond.fieldLink own idx (T k).1 (T k).2.1 (T k).2.2.1 ∈ fTB
def fKcOk (own : String) (kc : Nat → Option Value) : Prop := ∀ idx : Nat, (∀ x : Int32, kc idx = some (.int x) → Cond.constant own idx x ∈ fTB) ∧ (∀ x : Int64, kc idx = some (.long x) → Cond.constantLong own idx x ∈ fTB)
def fScOk (sc : fSc) (ad : Nat → Nat) (A : Nat → Prop) (s : State) : Prop := match sc with
  | none => True
  | some q => va_X (ad 99) q.1 q.2 s s.heap ∧ ad 99 < s.heap.size ∧ ¬ A (ad 99)
theorem fin_ws {ci : Nat} {C : String} {T : u_T} {N : Nat} (h : vwCl[ci]? = some (C, T, N)) : (∀ w ∈ u_ws C T N, w ∈ fTB) ∧ ∃ ty0 : Nat → FieldType, (∀ k, k < N → parseFieldDescriptor (T k).2.2.1 = some (ty0 k)) ∧ (∀ a, a < N → ∀ b, b < N → a ≠ b → (T a).2.1 ≠ (T b).2.1) := by
  match ci, h with
  | 0, h => cases h; exact ⟨inT0, tyX0, tyX0_ok, nmX0⟩
  | 1, h => cases h; exact ⟨inT1, tyX1, tyX1_ok, nmX1⟩
  | 2, h => cases h; exact ⟨inT2, tyX2, tyX2_ok, nmX2⟩
  | 3, h => cases h; exact ⟨inT3, tyX3, tyX3_ok, nmX3⟩
  | 4, h => cases h; exact ⟨inT4, tyX4, tyX4_ok, nmX4⟩
  | 5, h => cases h; exact ⟨inT5, tyX5, tyX5_ok, nmX5⟩
  | 6, h => cases h; exact ⟨inT6, tyX6, tyX6_ok, nmX6⟩
  | 7, h => cases h; exact ⟨inT7, tyX7, tyX7_ok, nmX7⟩
  | 8, h => cases h; exact ⟨inT8, tyX8, tyX8_ok, nmX8⟩
  | k + 9, h => simp [vwCl] at h
/-- the layout and the tables' fields say the same -/
def fLayChk (e : Nat × List (Nat × Nat)) : Bool := match vwCl[e.1]? with
  | none => decide (20 ≤ e.1)
  | some q => decide (e.2.length = q.2.2) && decide (e.1 < 20) && (e.2.zipIdx.all fun d => match d.1.1 with
    | 1 => decide ((q.2.1 d.2).2.2 = ("I", false))
    | 2 => decide ((q.2.1 d.2).2.2 = ("J", false))
    | 3 => decide ((q.2.1 d.2).2.2 = ("Z", false))
    | _ => true)
theorem fLay_chk : ∀ e ∈ fLay, fLayChk e = true := by decide +kernel
theorem fLay_obj {o : Nat} {e : Nat × List (Nat × Nat)} {C : String} {T : u_T} {N : Nat} (h : fLay[o]? = some e) (hc : vwCl[e.1]? = some (C, T, N)) : e.2.length = N ∧ e.1 < 20 ∧ ∀ (k : Nat) (d : Nat × Nat), e.2[k]? = some d → (d.1 = 1 → (T k).2.2 = ("I", false)) ∧ (d.1 = 2 → (T k).2.2 = ("J", false)) ∧ (d.1 = 3 → (T k).2.2 = ("Z", false)) := by
  have q := fLay_chk e (List.mem_of_getElem? h)
  unfold fLayChk at q
  rw [hc] at q
  simp only [Bool.and_eq_true, decide_eq_true_eq, List.all_eq_true] at q
  refine ⟨q.1.1, q.1.2, fun k d hd => ?_⟩
  have hm : (d, k) ∈ e.2.zipIdx := by
    rw [List.mem_zipIdx_iff_getElem?]
    exact hd
  have z := q.2 (d, k) hm
  refine ⟨fun e1 => ?_, fun e1 => ?_, fun e1 => ?_⟩ <;> (simp only [e1, decide_eq_true_eq] at z; exact z)

section Sound
variable {p : Program} {l : Launch} {e : Env} {R : Room} {s : State} {m : MethodId} {args : Array Value} {below : List Frame} {meth : Method} {c : Code} {cells slots : Nat} {Q : State → Prop}
variable {D : va_G} {ad : Nat → Nat} {cI cJ : ClassId} {A : Nat → Prop} {own : String} {cc : ByteArray} {nl : Nat} {fl : Nat → Option (Nat × Nat)} {kc : Nat → Option Value} {sc : fSc}
variable {L L' : fL} {st st' : List Value} {S S' : fS} {H : Heap} {locs : List Loc} {ls : Array Slot} {pc : Nat} {P : Option Prop} {i : Instr}
theorem fLdI_inv {k : Nat} (h : fLdI L k st S = some (P, L', st', S')) : ∃ x, fGet L k = some (.int x) ∧ L' = L ∧ st' = .int x :: st ∧ S' = S := by
  unfold fLdI at h
  split at h
  · rename_i x hx
    simp only [Option.some.injEq, Prod.mk.injEq] at h
    exact ⟨x, hx, h.2.1.symm, h.2.2.1.symm, h.2.2.2.symm⟩
  · cases h
theorem fLdJ_inv {k : Nat} (h : fLdJ L k st S = some (P, L', st', S')) : ∃ x, fGet L k = some (.long x) ∧ L' = L ∧ st' = .long x :: st ∧ S' = S := by
  unfold fLdJ at h
  split at h
  · rename_i x hx
    simp only [Option.some.injEq, Prod.mk.injEq] at h
    exact ⟨x, hx, h.2.1.symm, h.2.2.1.symm, h.2.2.2.symm⟩
  · cases h
theorem fLdA_inv {k : Nat} (h : fLdA L k st S = some (P, L', st', S')) : ∃ x, fGet L k = some (.ref x) ∧ L' = L ∧ st' = .ref x :: st ∧ S' = S := by
  unfold fLdA at h
  split at h
  · rename_i x hx
    simp only [Option.some.injEq, Prod.mk.injEq] at h
    exact ⟨x, hx, h.2.1.symm, h.2.2.1.symm, h.2.2.2.symm⟩
  · cases h
theorem fStI_inv {k : Nat} (h : fStI nl L k st S = some (P, L', st', S')) : ∃ x, st = .int x :: st' ∧ k < nl ∧ L' = fSet1 L k (.int x) ∧ S' = S := by
  unfold fStI at h
  split at h
  · rename_i x r
    cases hb : Nat.blt k nl with
    | true =>
      rw [hb] at h
      simp only [cond_true, Option.some.injEq, Prod.mk.injEq] at h
      exact ⟨x, by rw [h.2.2.1], Nat.le_of_ble_eq_true hb, h.2.1.symm, h.2.2.2.symm⟩
    | false => rw [hb] at h; cases h
  · cases h
theorem fStA_inv {k : Nat} (h : fStA nl L k st S = some (P, L', st', S')) : ∃ x, st = .ref x :: st' ∧ k < nl ∧ L' = fSet1 L k (.ref x) ∧ S' = S := by
  unfold fStA at h
  split at h
  · rename_i x r
    cases hb : Nat.blt k nl with
    | true =>
      rw [hb] at h
      simp only [cond_true, Option.some.injEq, Prod.mk.injEq] at h
      exact ⟨x, by rw [h.2.2.1], Nat.le_of_ble_eq_true hb, h.2.1.symm, h.2.2.2.symm⟩
    | false => rw [hb] at h; cases h
  · cases h
theorem fStJ_inv {k : Nat} (h : fStJ nl L k st S = some (P, L', st', S')) : ∃ x, st = .long x :: st' ∧ k + 1 < nl ∧ L' = fSet2 L k (.long x) ∧ S' = S := by
  unfold fStJ at h
  split at h
  · rename_i x r
    cases hb : Nat.blt (k + 1) nl with
    | true =>
      rw [hb] at h
      simp only [cond_true, Option.some.injEq, Prod.mk.injEq] at h
      exact ⟨x, by rw [h.2.2.1], Nat.le_of_ble_eq_true hb, h.2.1.symm, h.2.2.2.symm⟩
    | false => rw [hb] at h; cases h
  · cases h
theorem fII_inv {f : Int32 → Int32 → Int32} (h : fII f L st S = some (P, L', st', S')) : ∃ x y r, st = .int y :: .int x :: r ∧ L' = L ∧ st' = .int (f x y) :: r ∧ S' = S := by
  unfold fII at h
  split at h
  · rename_i y x r
    simp only [Option.some.injEq, Prod.mk.injEq] at h
    exact ⟨x, y, r, rfl, h.2.1.symm, h.2.2.1.symm, h.2.2.2.symm⟩
  · cases h
theorem fJJ_inv {f : Int64 → Int64 → Int64} (h : fJJ f L st S = some (P, L', st', S')) : ∃ x y r, st = .long y :: .long x :: r ∧ L' = L ∧ st' = .long (f x y) :: r ∧ S' = S := by
  unfold fJJ at h
  split at h
  · rename_i y x r
    simp only [Option.some.injEq, Prod.mk.injEq] at h
    exact ⟨x, y, r, rfl, h.2.1.symm, h.2.2.1.symm, h.2.2.2.symm⟩
  · cases h
theorem fJI_inv {f : Int64 → Int32 → Int64} (h : fJI f L st S = some (P, L', st', S')) : ∃ x y r, st = .int y :: .long x :: r ∧ L' = L ∧ st' = .long (f x y) :: r ∧ S' = S := by
  unfold fJI at h
  split at h
  · rename_i y x r
    simp only [Option.some.injEq, Prod.mk.injEq] at h
    exact ⟨x, y, r, rfl, h.2.1.symm, h.2.2.1.symm, h.2.2.2.symm⟩
  · cases h
theorem fIIq_inv {f : Int32 → Int32 → Int32} (h : fIIq f L st S = some (P, L', st', S')) : ∃ x y r, st = .int y :: .int x :: r ∧ P = some (¬ y = 0) ∧ L' = L ∧ st' = .int (f x y) :: r ∧ S' = S := by
  unfold fIIq at h
  split at h
  · rename_i y x r
    simp only [Option.some.injEq, Prod.mk.injEq] at h
    exact ⟨x, y, r, rfl, h.1.symm, h.2.1.symm, h.2.2.1.symm, h.2.2.2.symm⟩
  · cases h
theorem fJJq_inv {f : Int64 → Int64 → Int64} (h : fJJq f L st S = some (P, L', st', S')) : ∃ x y r, st = .long y :: .long x :: r ∧ P = some (¬ y = 0) ∧ L' = L ∧ st' = .long (f x y) :: r ∧ S' = S := by
  unfold fJJq at h
  split at h
  · rename_i y x r
    simp only [Option.some.injEq, Prod.mk.injEq] at h
    exact ⟨x, y, r, rfl, h.1.symm, h.2.1.symm, h.2.2.1.symm, h.2.2.2.symm⟩
  · cases h
theorem fCmp_inv (h : fCmp L st S = some (P, L', st', S')) : ∃ x y r, st = .long y :: .long x :: r ∧ L' = L ∧ st' = .int (lg_cmp x y) :: r ∧ S' = S := by
  unfold fCmp at h
  split at h
  · rename_i y x r
    simp only [Option.some.injEq, Prod.mk.injEq] at h
    exact ⟨x, y, r, rfl, h.2.1.symm, h.2.2.1.symm, h.2.2.2.symm⟩
  · cases h
theorem fUn_inv {f : Value → Option Value} (h : fUn L st S f = some (P, L', st', S')) : ∃ v w r, st = v :: r ∧ f v = some w ∧ L' = L ∧ st' = w :: r ∧ S' = S := by
  unfold fUn at h
  split at h
  · rename_i v r
    split at h
    · rename_i w hw
      simp only [Option.some.injEq, Prod.mk.injEq] at h
      exact ⟨v, w, r, rfl, hw, h.2.1.symm, h.2.2.1.symm, h.2.2.2.symm⟩
    · cases h
  · cases h
theorem fDup_inv (h : fDup L st S = some (P, L', st', S')) : ∃ v r, st = v :: r ∧ v.category = 1 ∧ L' = L ∧ st' = v :: v :: r ∧ S' = S := by
  unfold fDup at h
  split at h
  · rename_i v r
    cases hb : Nat.beq v.category 1 with
    | true =>
      rw [hb] at h
      simp only [cond_true, Option.some.injEq, Prod.mk.injEq] at h
      exact ⟨v, r, rfl, Nat.eq_of_beq_eq_true hb, h.2.1.symm, h.2.2.1.symm, h.2.2.2.symm⟩
    | false => rw [hb] at h; cases h
  · cases h
theorem fIinc_inv {k : Nat} {n : Int} (h : fIinc nl L k n st S = some (P, L', st', S')) : ∃ x, fGet L k = some (.int x) ∧ k < nl ∧ L' = fSet1 L k (.int (x + fLit n)) ∧ st' = st ∧ S' = S := by
  unfold fIinc at h
  split at h
  · rename_i x hx
    cases hb : Nat.blt k nl with
    | true =>
      rw [hb] at h
      simp only [cond_true, Option.some.injEq, Prod.mk.injEq] at h
      exact ⟨x, hx, Nat.le_of_ble_eq_true hb, h.2.1.symm, h.2.2.1.symm, h.2.2.2.symm⟩
    | false => rw [hb] at h; cases h
  · cases h
theorem fKcI_inv {d : Option Value} (h : fKcI d L st S = some (P, L', st', S')) : ∃ x, d = some (.int x) ∧ L' = L ∧ st' = .int x :: st ∧ S' = S := by
  unfold fKcI at h
  split at h
  · rename_i x
    simp only [Option.some.injEq, Prod.mk.injEq] at h
    exact ⟨x, rfl, h.2.1.symm, h.2.2.1.symm, h.2.2.2.symm⟩
  · cases h
theorem fKcJ_inv {d : Option Value} (h : fKcJ d L st S = some (P, L', st', S')) : ∃ x, d = some (.long x) ∧ L' = L ∧ st' = .long x :: st ∧ S' = S := by
  unfold fKcJ at h
  split at h
  · rename_i x
    simp only [Option.some.injEq, Prod.mk.injEq] at h
    exact ⟨x, rfl, h.2.1.symm, h.2.2.1.symm, h.2.2.2.symm⟩
  · cases h
theorem fGetf_inv {z : Option (Nat × Nat)} (h : fGetf z L st S = some (P, L', st', S')) : ∃ ci k o r e d, z = some (ci, k) ∧ st = .ref o :: r ∧ fLay[o]? = some e ∧ e.1 = ci ∧ e.2[k]? = some d ∧ L' = L ∧ st' = fFld S o k d :: r ∧ S' = S := by
  unfold fGetf at h
  split at h
  · rename_i ci k o r
    split at h
    · rename_i e he
      cases hb : Nat.beq e.1 ci with
      | true =>
        rw [hb] at h
        simp only [cond_true] at h
        split at h
        · rename_i d hd
          simp only [Option.some.injEq, Prod.mk.injEq] at h
          exact ⟨ci, k, o, r, e, d, rfl, rfl, he, Nat.eq_of_beq_eq_true hb, hd, h.2.1.symm, h.2.2.1.symm, h.2.2.2.symm⟩
        · cases h
      | false => rw [hb] at h; cases h
    · cases h
  · cases h
theorem fPutf_inv {z : Option (Nat × Nat)} (h : fPutf z L st S = some (P, L', st', S')) : ∃ ci k o v e d, z = some (ci, k) ∧ st = v :: .ref o :: st' ∧ fLay[o]? = some e ∧ e.1 = ci ∧ e.2[k]? = some d ∧ L' = L ∧ ((∃ x, d.1 = 1 ∧ v = .int x ∧ S' = wI S o k x) ∨ (∃ x, d.1 = 2 ∧ v = .long x ∧ S' = wJ S o k x) ∨ (∃ x, d.1 = 3 ∧ v = .int x ∧ P = some (x = 0 ∨ x = 1) ∧ S' = wI S o k x)) := by
  unfold fPutf at h
  split at h
  · rename_i ci k v o r
    split at h
    · rename_i e he
      cases hb : Nat.beq e.1 ci with
      | true =>
        rw [hb] at h
        simp only [cond_true] at h
        split at h
        · rename_i d hd
          have hci := Nat.eq_of_beq_eq_true hb
          unfold fPut1 at h
          split at h
          · rename_i x h1
            simp only [Option.some.injEq, Prod.mk.injEq] at h
            exact ⟨ci, k, o, _, e, d, rfl, by rw [h.2.2.1], he, hci, hd, h.2.1.symm, Or.inl ⟨x, h1, rfl, h.2.2.2.symm⟩⟩
          · rename_i x h1
            simp only [Option.some.injEq, Prod.mk.injEq] at h
            exact ⟨ci, k, o, _, e, d, rfl, by rw [h.2.2.1], he, hci, hd, h.2.1.symm, Or.inr (Or.inl ⟨x, h1, rfl, h.2.2.2.symm⟩)⟩
          · rename_i x h1
            simp only [Option.some.injEq, Prod.mk.injEq] at h
            exact ⟨ci, k, o, _, e, d, rfl, by rw [h.2.2.1], he, hci, hd, h.2.1.symm, Or.inr (Or.inr ⟨x, h1, rfl, h.1.symm, h.2.2.2.symm⟩)⟩
          · cases h
        · cases h
      | false => rw [hb] at h; cases h
    · cases h
  · cases h
theorem fIald_inv (h : fIald sc L st S = some (P, L', st', S')) : ∃ i o r, st = .int i :: .ref o :: r ∧ L' = L ∧ S' = S ∧ ((o = 99 ∧ ∃ q, sc = some q ∧ P = some (vp_in i q.1) ∧ st' = .int (q.2 i.toNatClampNeg) :: r) ∨ (∃ e, fLay[o]? = some e ∧ e.1 = 20 ∧ P = some (vp_in i (fLen e)) ∧ st' = .int (gA S o i.toNatClampNeg) :: r)) := by
  unfold fIald at h
  split at h
  · rename_i i o r
    cases hb : Nat.beq o 99 with
    | true =>
      rw [hb] at h
      simp only [cond_true] at h
      split at h
      · rename_i q
        simp only [Option.some.injEq, Prod.mk.injEq] at h
        exact ⟨i, o, r, rfl, h.2.1.symm, h.2.2.2.symm, Or.inl ⟨Nat.eq_of_beq_eq_true hb, q, rfl, h.1.symm, h.2.2.1.symm⟩⟩
      · cases h
    | false =>
      rw [hb] at h
      simp only [cond_false] at h
      split at h
      · rename_i e he
        cases hb2 : Nat.beq e.1 20 with
        | true =>
          rw [hb2] at h
          simp only [cond_true, Option.some.injEq, Prod.mk.injEq] at h
          exact ⟨i, o, r, rfl, h.2.1.symm, h.2.2.2.symm, Or.inr ⟨e, he, Nat.eq_of_beq_eq_true hb2, h.1.symm, h.2.2.1.symm⟩⟩
        | false => rw [hb2] at h; cases h
      · cases h
  · cases h
theorem fLald_inv (h : fLald L st S = some (P, L', st', S')) : ∃ i o r e, st = .int i :: .ref o :: r ∧ L' = L ∧ S' = S ∧ fLay[o]? = some e ∧ e.1 = 21 ∧ P = some (vp_in i (fLen e)) ∧ st' = .long (gB S o i.toNatClampNeg) :: r := by
  unfold fLald at h
  split at h
  · rename_i i o r
    split at h
    · rename_i e he
      cases hb2 : Nat.beq e.1 21 with
      | true =>
        rw [hb2] at h
        simp only [cond_true, Option.some.injEq, Prod.mk.injEq] at h
        exact ⟨i, o, r, e, rfl, h.2.1.symm, h.2.2.2.symm, he, Nat.eq_of_beq_eq_true hb2, h.1.symm, h.2.2.1.symm⟩
      | false => rw [hb2] at h; cases h
    · cases h
  · cases h
theorem fIast_inv (h : fIast L st S = some (P, L', st', S')) : ∃ x i o e, st = .int x :: .int i :: .ref o :: st' ∧ L' = L ∧ fLay[o]? = some e ∧ e.1 = 20 ∧ P = some (vp_in i (fLen e)) ∧ S' = wA S o (upd (gA S o) i.toNatClampNeg x) := by
  unfold fIast at h
  split at h
  · rename_i x i o r
    split at h
    · rename_i e he
      cases hb2 : Nat.beq e.1 20 with
      | true =>
        rw [hb2] at h
        simp only [cond_true, Option.some.injEq, Prod.mk.injEq] at h
        exact ⟨x, i, o, e, by rw [h.2.2.1], h.2.1.symm, he, Nat.eq_of_beq_eq_true hb2, h.1.symm, h.2.2.2.symm⟩
      | false => rw [hb2] at h; cases h
    · cases h
  · cases h
theorem fLast_inv (h : fLast L st S = some (P, L', st', S')) : ∃ x i o e, st = .long x :: .int i :: .ref o :: st' ∧ L' = L ∧ fLay[o]? = some e ∧ e.1 = 21 ∧ P = some (vp_in i (fLen e)) ∧ S' = wB S o (vp_updL (gB S o) i.toNatClampNeg x) := by
  unfold fLast at h
  split at h
  · rename_i x i o r
    split at h
    · rename_i e he
      cases hb2 : Nat.beq e.1 21 with
      | true =>
        rw [hb2] at h
        simp only [cond_true, Option.some.injEq, Prod.mk.injEq] at h
        exact ⟨x, i, o, e, by rw [h.2.2.1], h.2.1.symm, he, Nat.eq_of_beq_eq_true hb2, h.1.symm, h.2.2.2.symm⟩
      | false => rw [hb2] at h; cases h
    · cases h
  · cases h
theorem fAlen_inv (h : fAlen sc L st S = some (P, L', st', S')) : ∃ o r, st = .ref o :: r ∧ L' = L ∧ S' = S ∧ ((o = 99 ∧ ∃ q, sc = some q ∧ st' = .int (Int32.ofNat q.1) :: r) ∨ (∃ e, fLay[o]? = some e ∧ e.1 = 20 ∧ st' = .int (OfNat.ofNat (fLen e)) :: r)) := by
  unfold fAlen at h
  split at h
  · rename_i o r
    cases hb : Nat.beq o 99 with
    | true =>
      rw [hb] at h
      simp only [cond_true] at h
      split at h
      · rename_i q
        simp only [Option.some.injEq, Prod.mk.injEq] at h
        exact ⟨o, r, rfl, h.2.1.symm, h.2.2.2.symm, Or.inl ⟨Nat.eq_of_beq_eq_true hb, q, rfl, h.2.2.1.symm⟩⟩
      · cases h
    | false =>
      rw [hb] at h
      simp only [cond_false] at h
      split at h
      · rename_i e he
        cases hb2 : Nat.beq e.1 20 with
        | true =>
          rw [hb2] at h
          simp only [cond_true, Option.some.injEq, Prod.mk.injEq] at h
          exact ⟨o, r, rfl, h.2.1.symm, h.2.2.2.symm, Or.inr ⟨e, he, Nat.eq_of_beq_eq_true hb2, h.2.2.1.symm⟩⟩
        | false => rw [hb2] at h; cases h
      · cases h
  · cases h
end Sound
end
section
/-! one step of the small machine is one step of the JVM -/
theorem fW_D {ad : Nat → Nat} (cI cJ : ClassId) {A : Nat → Prop} (hinj : ∀ a b, a < 57 → b < 57 → ad a = ad b → a = b) (hA : ∀ a, a < 57 → A (ad a)) (S : fS) : va_D A (fW ad cI cJ S) := by
  have key : ∀ (k : Nat) (q : Nat × va_E), (fW ad cI cJ S)[k]? = some q → k < 57 ∧ q.1 = ad k := by
    intro k q h
    have hk : k < (fW ad cI cJ S).length := (List.getElem?_eq_some_iff.mp h).1
    simp only [fW, List.length_mapIdx, fLay_len] at hk
    simp only [fW, List.getElem?_mapIdx] at h
    cases hd : fLay[k]? with
    | none => rw [hd] at h; cases h
    | some d => rw [hd] at h; cases h; exact ⟨hk, rfl⟩
  refine ⟨fun i j p q hi hj h => ?_, fun k q h => ?_⟩
  · obtain ⟨h1, e1⟩ := key i p hi
    obtain ⟨h2, e2⟩ := key j q hj
    exact hinj i j h1 h2 (by rw [← e1, ← e2, h])
  · obtain ⟨h1, e1⟩ := key k q h
    rw [e1]
    exact hA k h1
theorem fLay_lt {o : Nat} {e : Nat × List (Nat × Nat)} (h : fLay[o]? = some e) : o < 57 := by
  have := (List.getElem?_eq_some_iff.mp h).1
  rw [fLay_len] at this
  exact this
theorem fW_wI (ad : Nat → Nat) (cI cJ : ClassId) (S : fS) {o ci k : Nat} {fs : List (Nat × Nat)} {d : Nat × Nat} (x : Int32) (h : fLay[o]? = some (ci, fs)) (hci : ci < 20) (hd : fs[k]? = some d) (hk : d.1 = 1 ∨ d.1 = 3) : (fW ad cI cJ S).set o (ad o, .inr (ci, (fs.mapIdx fun k d => cv ad (fFld S o k d)).set k (.int x))) = fW ad cI cJ (wI S o k x) := by
  rw [← fW_set ad cI cJ S (wI S o k x) h (fun a d _ ha => fCell_eq ad cI cJ S _ a d (by funext b; rw [gI_wI, if_neg ha]) (by rw [gJ_wI]) (by rw [gA_wI]) (by rw [gB_wI])), fCell_obj _ _ _ _ _ _ _ hci]
  congr 4
  apply List.ext_getElem?
  intro j
  by_cases hj : j = k
  · subst hj
    have hl : j < fs.length := (List.getElem?_eq_some_iff.mp hd).1
    rw [List.getElem?_set_self (by simpa using hl), List.getElem?_mapIdx, hd]
    simp only [Option.map_some, fFld, gI_wI, if_true]
    rcases hk with e | e <;> rw [e] <;> rfl
  · rw [List.getElem?_set_ne (Ne.symm hj), List.getElem?_mapIdx, List.getElem?_mapIdx]
    cases hf : fs[j]? with
    | none => rfl
    | some d2 =>
      simp only [Option.map_some, fFld, gI_wI, if_true, if_neg hj, gJ_wI]
theorem fW_wJ (ad : Nat → Nat) (cI cJ : ClassId) (S : fS) {o ci k : Nat} {fs : List (Nat × Nat)} {d : Nat × Nat} (x : Int64) (h : fLay[o]? = some (ci, fs)) (hci : ci < 20) (hd : fs[k]? = some d) (hk : d.1 = 2) : (fW ad cI cJ S).set o (ad o, .inr (ci, (fs.mapIdx fun k d => cv ad (fFld S o k d)).set k (.long x))) = fW ad cI cJ (wJ S o k x) := by
  rw [← fW_set ad cI cJ S (wJ S o k x) h (fun a d _ ha => fCell_eq ad cI cJ S _ a d (by rw [gI_wJ]) (by funext b; rw [gJ_wJ, if_neg ha]) (by rw [gA_wJ]) (by rw [gB_wJ])), fCell_obj _ _ _ _ _ _ _ hci]
  congr 4
  apply List.ext_getElem?
  intro j
  by_cases hj : j = k
  · subst hj
    have hl : j < fs.length := (List.getElem?_eq_some_iff.mp hd).1
    rw [List.getElem?_set_self (by simpa using hl), List.getElem?_mapIdx, hd]
    simp only [Option.map_some, fFld, gJ_wJ, if_true]
    rw [hk]; rfl
  · rw [List.getElem?_set_ne (Ne.symm hj), List.getElem?_mapIdx, List.getElem?_mapIdx]
    cases hf : fs[j]? with
    | none => rfl
    | some d2 =>
      simp only [Option.map_some, fFld, gJ_wJ, if_true, if_neg hj, gI_wJ]
theorem fW_wA (ad : Nat → Nat) (cI cJ : ClassId) (S : fS) {o : Nat} {e : Nat × List (Nat × Nat)} (g : Nat → Int32) (h : fLay[o]? = some e) (hci : e.1 = 20) : (fW ad cI cJ S).set o (ad o, .inl (cI, fLen e, .inl g)) = fW ad cI cJ (wA S o g) := by
  obtain ⟨ci, fs⟩ := e
  simp only at hci
  subst hci
  rw [← fW_set ad cI cJ S (wA S o g) h (fun a d _ ha => fCell_eq ad cI cJ S _ a d (by rw [gI_wA]) (by rw [gJ_wA]) (by rw [gA_wA, if_neg ha]) (by rw [gB_wA])), fCell_int, gA_wA, if_pos rfl]
theorem fW_wB (ad : Nat → Nat) (cI cJ : ClassId) (S : fS) {o : Nat} {e : Nat × List (Nat × Nat)} (g : Nat → Int64) (h : fLay[o]? = some e) (hci : e.1 = 21) : (fW ad cI cJ S).set o (ad o, .inl (cJ, fLen e, .inr (.inl g))) = fW ad cI cJ (wB S o g) := by
  obtain ⟨ci, fs⟩ := e
  simp only at hci
  subst hci
  rw [← fW_set ad cI cJ S (wB S o g) h (fun a d _ ha => fCell_eq ad cI cJ S _ a d (by rw [gI_wB]) (by rw [gJ_wB]) (by rw [gA_wB]) (by rw [gB_wB, if_neg ha])), fCell_long, gB_wB, if_pos rfl]
abbrev fTy (cI cJ : ClassId) : List (ClassId × FieldType) := [(cI, .int), (cJ, .long)]
section SoundW
variable {p : Program} {l : Launch} {e : Env} {R : Room} {s : State} {m : MethodId} {args : Array Value} {below : List Frame} {meth : Method} {c : Code} {cells slots : Nat} {Q : State → Prop}
variable {D : va_G} {ad : Nat → Nat} {cI cJ : ClassId} {A : Nat → Prop} {own : String} {cc : ByteArray} {nl : Nat} {fl : Nat → Option (Nat × Nat)} {kc : Nat → Option Value} {sc : fSc}
variable {L L' : fL} {st st' : List Value} {S S' : fS} {H : Heap} {locs : List Loc} {ls : Array Slot} {pc : Nat} {P : Option Prop} {i : Instr}
/-- the context of a walk -/
def fCtx (p : Program) (s : State) (m : MethodId) (args : Array Value) (c : Code) (D : va_G) (ad : Nat → Nat) (cI cJ : ClassId) (A : Nat → Prop) (own : String) (cc : ByteArray) (fl : Nat → Option (Nat × Nat)) (kc : Nat → Option Value) (sc : fSc) : Prop :=
  p.tables.exec = Jvm.exec ∧ c.code = cc ∧ s.vm.findClass own = some m.cls ∧ (∀ w ∈ fTB, w.before args s = true) ∧ va_K D vwCl (fTy cI cJ) s ∧ (∀ a b, a < 57 → b < 57 → ad a = ad b → a = b) ∧ (∀ a, a < 57 → A (ad a)) ∧ fFlOk own fl ∧ fKcOk own kc ∧ fScOk sc ad A s
theorem fLs_get (hl : lv_has ls nl (fLs ad L)) {k : Nat} {v : Value} (h : fGet L k = some v) : ls[k]? = some (.val (cv ad v)) :=
  hl.2.2 (k, cv ad v) (List.mem_map.mpr ⟨(k, v), fGet_mem h, rfl⟩)
set_option maxHeartbeats 4000000 in
theorem fStpW (X : fCtx p s m args c D ad cI cJ A own cc fl kc sc) (h : fStp fl kc nl sc i L st S = some (P, L', st', S')) (hP : ∀ q, P = some q → q) (hd : decode cc pc = .ok (i, fIl i)) (hg : fGo i pc = true)
    (hPw : va_P D vwCl (fW ad cI cJ S) H) (hS : va_S A s.heap H locs) (hl : lv_has ls nl (fLs ad L))
    (k : ∀ (H' : Heap) (locs' : List Loc) (ls' : Array Slot), va_P D vwCl (fW ad cI cJ S') H' → va_S A s.heap H' locs' → lv_has ls' nl (fLs ad L') → W p l e R s m args below meth c H' locs' cells slots Q (F0 m (fNext i pc) ls' (st'.map (cv ad)))) :
    W p l e R s m args below meth c H locs cells slots Q (F0 m pc ls (st.map (cv ad))) := by
  obtain ⟨hx, hb, hown, hts, hK, hinj, hA, hfl, hkc, hsc⟩ := X
  have hD : va_D A (fW ad cI cJ S) := fW_D cI cJ hinj hA S
  cases i with
  | iload_n n => obtain ⟨x, h1, rfl, rfl, rfl⟩ := fLdI_inv h; exact lv_iload_n hx hb hd rfl (fLs_get hl h1) (k _ _ _ hPw hS hl)
  | iload n => obtain ⟨x, h1, rfl, rfl, rfl⟩ := fLdI_inv h; exact lv_iload hx hb hd (fLs_get hl h1) (k _ _ _ hPw hS hl)
  | lload_n n => obtain ⟨x, h1, rfl, rfl, rfl⟩ := fLdJ_inv h; exact lv_lload_n hx hb hd rfl (fLs_get hl h1) (k _ _ _ hPw hS hl)
  | lload n => obtain ⟨x, h1, rfl, rfl, rfl⟩ := fLdJ_inv h; exact lv_lload hx hb hd (fLs_get hl h1) (k _ _ _ hPw hS hl)
  | aload_n n => obtain ⟨x, h1, rfl, rfl, rfl⟩ := fLdA_inv h; exact lv_aload_n hx hb hd rfl (fLs_get hl h1) (k _ _ _ hPw hS hl)
  | aload n => obtain ⟨x, h1, rfl, rfl, rfl⟩ := fLdA_inv h; exact lv_aload hx hb hd (fLs_get hl h1) (k _ _ _ hPw hS hl)
  | istore_n n => obtain ⟨x, rfl, h1, rfl, rfl⟩ := fStI_inv h; exact lv_istore_n hx hb hd rfl hl h1 rfl (fun ls' hl' => k _ _ _ hPw hS (fls_less hl' (fSet1_less ad L _ _)))
  | istore n => obtain ⟨x, rfl, h1, rfl, rfl⟩ := fStI_inv h; exact lv_istore hx hb hd hl h1 rfl (fun ls' hl' => k _ _ _ hPw hS (fls_less hl' (fSet1_less ad L _ _)))
  | astore_n n => obtain ⟨x, rfl, h1, rfl, rfl⟩ := fStA_inv h; exact lv_astore_n hx hb hd rfl hl h1 rfl (fun ls' hl' => k _ _ _ hPw hS (fls_less hl' (fSet1_less ad L _ _)))
  | astore n => obtain ⟨x, rfl, h1, rfl, rfl⟩ := fStA_inv h; exact lv_astore hx hb hd hl h1 rfl (fun ls' hl' => k _ _ _ hPw hS (fls_less hl' (fSet1_less ad L _ _)))
  | lstore_n n => obtain ⟨x, rfl, h1, rfl, rfl⟩ := fStJ_inv h; exact lv_lstore_n hx hb hd rfl hl h1 rfl (fun ls' hl' => k _ _ _ hPw hS (fls_less hl' (fSet2_less ad L _ _)))
  | lstore n => obtain ⟨x, rfl, h1, rfl, rfl⟩ := fStJ_inv h; exact lv_lstore hx hb hd hl h1 rfl (fun ls' hl' => k _ _ _ hPw hS (fls_less hl' (fSet2_less ad L _ _)))
  | iconst n => cases h; exact lv_iconst hx hb hd (fLit_ofInt n).symm (k _ _ _ hPw hS hl)
  | bipush n =>
    unfold fStp at h
    by_cases hn : (-128 ≤ n ∧ n < 128)
    · simp only [hn, and_self, decide_true, cond_true, Option.some.injEq, Prod.mk.injEq] at h
      obtain ⟨-, rfl, rfl, rfl⟩ := h
      exact lv_bipush hx hb hd (fLit_8 hn.1 hn.2) (k _ _ _ hPw hS hl)
    · simp only [hn, decide_false, cond_false] at h
      cases h
  | sipush n =>
    unfold fStp at h
    by_cases hn : (-32768 ≤ n ∧ n < 32768)
    · simp only [hn, and_self, decide_true, cond_true, Option.some.injEq, Prod.mk.injEq] at h
      obtain ⟨-, rfl, rfl, rfl⟩ := h
      exact lv_sipush hx hb hd (fLit_16 hn.1 hn.2) (k _ _ _ hPw hS hl)
    · simp only [hn, decide_false, cond_false] at h
      cases h
  | lconst n => cases h; exact lv_lconst hx hb hd rfl (k _ _ _ hPw hS hl)
  | ldc n => obtain ⟨x, h1, rfl, rfl, rfl⟩ := fKcI_inv h; exact lv_ldc hx hb hown (hts _ ((hkc n).1 x h1)) hd (k _ _ _ hPw hS hl)
  | ldc_w n => obtain ⟨x, h1, rfl, rfl, rfl⟩ := fKcI_inv h; exact lv_ldcw hx hb hown (hts _ ((hkc n).1 x h1)) hd (k _ _ _ hPw hS hl)
  | ldc2_w n => obtain ⟨x, h1, rfl, rfl, rfl⟩ := fKcJ_inv h; exact lv_ldc2 hx hb hown (hts _ ((hkc n).2 x h1)) hd (k _ _ _ hPw hS hl)
  | iadd => obtain ⟨x, y, r, rfl, rfl, rfl, rfl⟩ := fII_inv h; exact lv_iadd hx hb hd (k _ _ _ hPw hS hl)
  | isub => obtain ⟨x, y, r, rfl, rfl, rfl, rfl⟩ := fII_inv h; exact lv_isub hx hb hd (k _ _ _ hPw hS hl)
  | imul => obtain ⟨x, y, r, rfl, rfl, rfl, rfl⟩ := fII_inv h; exact lv_imul hx hb hd (k _ _ _ hPw hS hl)
  | iand => obtain ⟨x, y, r, rfl, rfl, rfl, rfl⟩ := fII_inv h; exact lv_iand hx hb hd (k _ _ _ hPw hS hl)
  | ior => obtain ⟨x, y, r, rfl, rfl, rfl, rfl⟩ := fII_inv h; exact lv_ior hx hb hd (k _ _ _ hPw hS hl)
  | ishl => obtain ⟨x, y, r, rfl, rfl, rfl, rfl⟩ := fII_inv h; exact lv_ishl hx hb hd (k _ _ _ hPw hS hl)
  | ishr => obtain ⟨x, y, r, rfl, rfl, rfl, rfl⟩ := fII_inv h; exact lv_ishr hx hb hd (k _ _ _ hPw hS hl)
  | iushr => obtain ⟨x, y, r, rfl, rfl, rfl, rfl⟩ := fII_inv h; exact lv_iushr hx hb hd rfl (k _ _ _ hPw hS hl)
  | idiv => obtain ⟨x, y, r, rfl, rfl, rfl, rfl, rfl⟩ := fIIq_inv h; exact lv_idiv hx hb hd (hP _ rfl) (k _ _ _ hPw hS hl)
  | irem => obtain ⟨x, y, r, rfl, rfl, rfl, rfl, rfl⟩ := fIIq_inv h; exact lv_irem hx hb hd (hP _ rfl) (k _ _ _ hPw hS hl)
  | ladd => obtain ⟨x, y, r, rfl, rfl, rfl, rfl⟩ := fJJ_inv h; exact lv_ladd hx hb hd (k _ _ _ hPw hS hl)
  | lsub => obtain ⟨x, y, r, rfl, rfl, rfl, rfl⟩ := fJJ_inv h; exact lv_lsub hx hb hd (k _ _ _ hPw hS hl)
  | lmul => obtain ⟨x, y, r, rfl, rfl, rfl, rfl⟩ := fJJ_inv h; exact lv_lmul hx hb hd (k _ _ _ hPw hS hl)
  | land => obtain ⟨x, y, r, rfl, rfl, rfl, rfl⟩ := fJJ_inv h; exact lv_land hx hb hd (k _ _ _ hPw hS hl)
  | lor => obtain ⟨x, y, r, rfl, rfl, rfl, rfl⟩ := fJJ_inv h; exact lv_lor hx hb hd (k _ _ _ hPw hS hl)
  | ldiv => obtain ⟨x, y, r, rfl, rfl, rfl, rfl, rfl⟩ := fJJq_inv h; exact lv_ldiv hx hb hd (hP _ rfl) (k _ _ _ hPw hS hl)
  | lshl => obtain ⟨x, y, r, rfl, rfl, rfl, rfl⟩ := fJI_inv h; exact lv_lshl hx hb hd rfl (k _ _ _ hPw hS hl)
  | lshr => obtain ⟨x, y, r, rfl, rfl, rfl, rfl⟩ := fJI_inv h; exact lv_lshr hx hb hd rfl (k _ _ _ hPw hS hl)
  | lcmp => obtain ⟨x, y, r, rfl, rfl, rfl, rfl⟩ := fCmp_inv h; exact W.lcmp hx hb hd (k _ _ _ hPw hS hl)
  | i2l =>
    obtain ⟨v, w, r, rfl, h1, rfl, rfl, rfl⟩ := fUn_inv h
    cases v <;> cases h1
    exact lv_i2l hx hb hd rfl (k _ _ _ hPw hS hl)
  | l2i =>
    obtain ⟨v, w, r, rfl, h1, rfl, rfl, rfl⟩ := fUn_inv h
    cases v <;> cases h1
    exact lv_l2i hx hb hd rfl (k _ _ _ hPw hS hl)
  | ineg =>
    obtain ⟨v, w, r, rfl, h1, rfl, rfl, rfl⟩ := fUn_inv h
    cases v <;> cases h1
    exact lv_ineg hx hb hd (k _ _ _ hPw hS hl)
  | lneg =>
    obtain ⟨v, w, r, rfl, h1, rfl, rfl, rfl⟩ := fUn_inv h
    cases v <;> cases h1
    exact lv_lneg hx hb hd (k _ _ _ hPw hS hl)
  | dup => obtain ⟨v, r, rfl, h1, rfl, rfl, rfl⟩ := fDup_inv h; exact lv_dup hx hb hd (by rw [cv_cat]; exact h1) (k _ _ _ hPw hS hl)
  | iinc n q =>
    obtain ⟨x, h1, h2, rfl, rfl, rfl⟩ := fIinc_inv h
    obtain ⟨j, hj⟩ := List.getElem?_of_mem (List.mem_map.mpr ⟨(n, Value.int x), fGet_mem h1, rfl⟩ : (n, Value.int x) ∈ fLs ad L)
    exact lv_iinc hx hb hd hl hj (by rw [fLit_ofInt]) h2 rfl (fun ls' hl' => k _ _ _ hPw hS (fls_less hl' (fSet1_less ad L _ _)))
  | getfield n =>
    obtain ⟨ci, q, o, r, ee, dd, h1, rfl, he, rfl, hdd, rfl, rfl, rfl⟩ := fGetf_inv h
    obtain ⟨C, T, N, hc, hk, hw⟩ := hfl n _ _ h1
    obtain ⟨e1, e2, e3⟩ := fLay_obj he hc
    obtain ⟨ci, fs⟩ := ee
    have hat := fW_at ad cI cJ S' he
    rw [fCell_obj _ _ _ _ _ _ _ e2] at hat
    exact va_get hx hb hts (fin_ws hc).1 hown hK hPw o hat hc q hk (hts _ hw) (fun _ z => z) (by rw [List.getElem?_mapIdx, hdd]; rfl) hd (k _ _ _ hPw hS hl)
  | putfield n =>
    obtain ⟨ci, q, o, v, ee, dd, h1, rfl, he, rfl, hdd, rfl, hor⟩ := fPutf_inv h
    obtain ⟨C, T, N, hc, hk, hw⟩ := hfl n _ _ h1
    obtain ⟨e1, e2, e3⟩ := fLay_obj he hc
    obtain ⟨f1, ty0, f2, f3⟩ := fin_ws hc
    obtain ⟨ci, fs⟩ := ee
    have hat := fW_at ad cI cJ S he
    rw [fCell_obj _ _ _ _ _ _ _ e2] at hat
    have hlen : q < (fs.mapIdx fun k d => cv ad (fFld S o k d)).length := by simp only [List.length_mapIdx]; exact (List.getElem?_eq_some_iff.mp hdd).1
    rcases hor with ⟨x, t1, rfl, rfl⟩ | ⟨x, t1, rfl, rfl⟩ | ⟨x, t1, rfl, rfl, rfl⟩
    · have tt := (e3 q dd hdd).1 t1
      refine va_put hx hb hts f1 ty0 f2 f3 hown hK hPw hD hS o hat hc q hk (hts _ hw) (fun _ z => z) (by rw [tt]) (ty := .int) (v := .int x) (by rw [tt]; decide) rfl rfl hlen hd (fun H1 locs1 hP1 hD1 hS1 => k _ _ _ ?_ hS1 hl)
      rw [fW_wI ad cI cJ S x he e2 hdd (Or.inl t1)] at hP1
      exact hP1
    · have tt := (e3 q dd hdd).2.1 t1
      refine va_put hx hb hts f1 ty0 f2 f3 hown hK hPw hD hS o hat hc q hk (hts _ hw) (fun _ z => z) (by rw [tt]) (ty := .long) (v := .long x) (by rw [tt]; decide) rfl rfl hlen hd (fun H1 locs1 hP1 hD1 hS1 => k _ _ _ ?_ hS1 hl)
      rw [fW_wJ ad cI cJ S x he e2 hdd t1] at hP1
      exact hP1
    · have tt := (e3 q dd hdd).2.2 t1
      have hz := hP _ rfl
      refine va_put hx hb hts f1 ty0 f2 f3 hown hK hPw hD hS o hat hc q hk (hts _ hw) (fun _ z => z) (by rw [tt]) (ty := .boolean) (v := .int x) (by rw [tt]; decide) (by rcases hz with rfl | rfl <;> rfl) (by rcases hz with rfl | rfl <;> rfl) hlen hd (fun H1 locs1 hP1 hD1 hS1 => k _ _ _ ?_ hS1 hl)
      rw [fW_wI ad cI cJ S x he e2 hdd (Or.inr t1)] at hP1
      exact hP1
  | iaload =>
    obtain ⟨x, o, r, rfl, rfl, rfl, h1⟩ := fIald_inv h
    rcases h1 with ⟨rfl, q, rfl, rfl, rfl⟩ | ⟨ee, he, h20, rfl, rfl⟩
    · obtain ⟨g1, g2, g3⟩ := hsc
      exact va_sld hx hb g1 g2 g3 hS (hP _ rfl) hd (k _ _ _ hPw hS hl)
    · obtain ⟨ci, fs⟩ := ee
      simp only at h20
      subst h20
      exact va_iald hx hb hK hPw o 0 (fW_at ad cI cJ S' he) rfl (hP _ rfl) hd (k _ _ _ hPw hS hl)
  | laload =>
    obtain ⟨x, o, r, ee, rfl, rfl, rfl, he, h20, rfl, rfl⟩ := fLald_inv h
    obtain ⟨ci, fs⟩ := ee
    simp only at h20
    subst h20
    exact va_lald hx hb hK hPw o 1 (fW_at ad cI cJ S' he) rfl (hP _ rfl) hd (k _ _ _ hPw hS hl)
  | iastore =>
    obtain ⟨x, j, o, ee, rfl, rfl, he, h20, rfl, rfl⟩ := fIast_inv h
    obtain ⟨ci, fs⟩ := ee
    simp only at h20
    subst h20
    refine va_iast hx hb hK hPw hD hS o 0 (fW_at ad cI cJ S he) rfl (hP _ rfl) hd (fun H1 locs1 hP1 hD1 hS1 => k _ _ _ ?_ hS1 hl)
    rw [fW_wA ad cI cJ S _ he rfl] at hP1
    exact hP1
  | lastore =>
    obtain ⟨x, j, o, ee, rfl, rfl, he, h20, rfl, rfl⟩ := fLast_inv h
    obtain ⟨ci, fs⟩ := ee
    simp only at h20
    subst h20
    refine va_last hx hb hK hPw hD hS o 1 (fW_at ad cI cJ S he) rfl (hP _ rfl) hd (fun H1 locs1 hP1 hD1 hS1 => k _ _ _ ?_ hS1 hl)
    rw [fW_wB ad cI cJ S _ he rfl] at hP1
    exact hP1
  | arraylength =>
    obtain ⟨o, r, rfl, rfl, rfl, h1⟩ := fAlen_inv h
    rcases h1 with ⟨rfl, q, rfl, rfl⟩ | ⟨ee, he, h20, rfl⟩
    · obtain ⟨g1, g2, g3⟩ := hsc
      exact va_slen hx hb g1 g2 g3 hS hd (k _ _ _ hPw hS hl)
    · obtain ⟨ci, fs⟩ := ee
      simp only at h20
      subst h20
      exact va_alen hx hb hK hPw o 0 (fW_at ad cI cJ S' he) rfl rfl hd (k _ _ _ hPw hS hl)
  | goto off =>
    cases h
    have h0 : (0 : Int) ≤ (pc : Int) + off := of_decide_eq_true hg
    exact lv_goto hx hb hd (by show (pc : Int) + off = (((pc : Int) + off).toNat : Int); rw [Int.toNat_of_nonneg h0]) (k _ _ _ hPw hS hl)
  | _ => cases h
/-- a stretch of the small machine -/
theorem fRunW (X : fCtx p s m args c D ad cI cJ A own cc fl kc sc) : ∀ (is : List Instr) (P : Prop) (pc pc' : Nat) (L L' : fL) (st st' : List Value) (S S' : fS) (H : Heap) (locs : List Loc) (ls : Array Slot), fRun fl kc nl sc is pc L st S = some (P, pc', L', st', S') → P → fOkB cc pc is = true →
    va_P D vwCl (fW ad cI cJ S) H → va_S A s.heap H locs → lv_has ls nl (fLs ad L) →
    (∀ (H' : Heap) (locs' : List Loc) (ls' : Array Slot), va_P D vwCl (fW ad cI cJ S') H' → va_S A s.heap H' locs' → lv_has ls' nl (fLs ad L') → W p l e R s m args below meth c H' locs' cells slots Q (F0 m pc' ls' (st'.map (cv ad)))) →
    W p l e R s m args below meth c H locs cells slots Q (F0 m pc ls (st.map (cv ad))) := by
  intro is
  induction is with
  | nil =>
    intro P pc pc' L L' st st' S S' H locs ls h hP hok h1 h2 h3 k
    simp only [fRun, Option.some.injEq, Prod.mk.injEq] at h
    obtain ⟨-, rfl, rfl, rfl, rfl⟩ := h
    exact k _ _ _ h1 h2 h3
  | cons i t ih =>
    intro P pc pc' L L' st st' S S' H locs ls h hP hok h1 h2 h3 k
    simp only [fOkB, Bool.and_eq_true, decide_eq_true_eq] at hok
    unfold fRun at h
    split at h
    · cases h
    · rename_i L1 st1 S1 hs
      exact fStpW X hs (fun q hq => by cases hq) hok.1 hok.2.1 h1 h2 h3 (fun H' locs' ls' g1 g2 g3 => ih P _ _ _ _ _ _ _ _ _ _ _ h hP hok.2.2 g1 g2 g3 k)
    · rename_i P1 L1 st1 S1 hs
      split at h
      · cases h
      · rename_i P2 z hz
        simp only [Option.some.injEq, Prod.mk.injEq] at h
        obtain ⟨rfl, rfl⟩ := h
        exact fStpW X hs (fun q hq => by cases hq; exact hP.1) hok.1 hok.2.1 h1 h2 h3 (fun H' locs' ls' g1 g2 g3 => ih P2 _ _ _ _ _ _ _ _ _ _ _ hz hP.2 hok.2.2 g1 g2 g3 k)
end SoundW
end
