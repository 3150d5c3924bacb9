section
-- ===== PART A: goes FIRST, ahead of the names: the tables' words, and 'selects' of the private methods out of them =====
/-- a private method of a class that the tables say can be made, by its rows of tables_1 -/
def lw_okq (q : MethodName × Nat) : Prop := (q.1.cls ≠ "java/lang/invoke/MethodHandle" ∧ q.1.cls ≠ "java/lang/invoke/VarHandle") ∧ Cond.instantiable q.1.cls q.2 ∈ tables_1 ∧ Cond.privateMethod q.1 ∈ tables_1 ∧ Cond.instanceMethod q.1 ∈ tables_1
theorem lw_p0 : lw_okq (⟨"KittenStairs", "settled", "(I)I"⟩, 6) := ⟨⟨by decide +kernel, by decide +kernel⟩, List.mem_of_getElem? (i := 12) (by decide +kernel), List.mem_of_getElem? (i := 238) (by decide +kernel), List.mem_of_getElem? (i := 239) (by decide +kernel)⟩
theorem lw_p1 : lw_okq (⟨"KittenStairs$Stairs", "naps", "(I)Z"⟩, 14) := ⟨⟨by decide +kernel, by decide +kernel⟩, List.mem_of_getElem? (i := 20) (by decide +kernel), List.mem_of_getElem? (i := 273) (by decide +kernel), List.mem_of_getElem? (i := 274) (by decide +kernel)⟩
theorem lw_p2 : lw_okq (⟨"KittenStairs$Stairs", "isHeldBack", "(II)Z"⟩, 14) := ⟨⟨by decide +kernel, by decide +kernel⟩, List.mem_of_getElem? (i := 20) (by decide +kernel), List.mem_of_getElem? (i := 280) (by decide +kernel), List.mem_of_getElem? (i := 281) (by decide +kernel)⟩
theorem lw_p3 : lw_okq (⟨"KittenStairs$Stairs", "ballLasts", "(II)Z"⟩, 14) := ⟨⟨by decide +kernel, by decide +kernel⟩, List.mem_of_getElem? (i := 20) (by decide +kernel), List.mem_of_getElem? (i := 291) (by decide +kernel), List.mem_of_getElem? (i := 292) (by decide +kernel)⟩
theorem lw_p4 : lw_okq (⟨"KittenStairs$Stairs", "comeOver", "(II)V"⟩, 14) := ⟨⟨by decide +kernel, by decide +kernel⟩, List.mem_of_getElem? (i := 20) (by decide +kernel), List.mem_of_getElem? (i := 306) (by decide +kernel), List.mem_of_getElem? (i := 307) (by decide +kernel)⟩
theorem lw_p5 : lw_okq (⟨"KittenStairs$Plans", "isLater", "(III)Z"⟩, 4) := ⟨⟨by decide +kernel, by decide +kernel⟩, List.mem_of_getElem? (i := 44) (by decide +kernel), List.mem_of_getElem? (i := 353) (by decide +kernel), List.mem_of_getElem? (i := 354) (by decide +kernel)⟩
theorem lw_p6 : lw_okq (⟨"KittenStairs$Plans", "move", "(II)V"⟩, 4) := ⟨⟨by decide +kernel, by decide +kernel⟩, List.mem_of_getElem? (i := 44) (by decide +kernel), List.mem_of_getElem? (i := 357) (by decide +kernel), List.mem_of_getElem? (i := 358) (by decide +kernel)⟩
theorem lw_p7 : lw_okq (⟨"KittenStairs$Stairs", "wakeKittens", "()V"⟩, 14) := ⟨⟨by decide +kernel, by decide +kernel⟩, List.mem_of_getElem? (i := 20) (by decide +kernel), List.mem_of_getElem? (i := 373) (by decide +kernel), List.mem_of_getElem? (i := 374) (by decide +kernel)⟩
theorem lw_p8 : lw_okq (⟨"KittenStairs$Stairs", "refreshKittens", "()V"⟩, 14) := ⟨⟨by decide +kernel, by decide +kernel⟩, List.mem_of_getElem? (i := 20) (by decide +kernel), List.mem_of_getElem? (i := 385) (by decide +kernel), List.mem_of_getElem? (i := 386) (by decide +kernel)⟩
theorem lw_p9 : lw_okq (⟨"KittenStairs$Yarn", "mostKept", "(III)I"⟩, 3) := ⟨⟨by decide +kernel, by decide +kernel⟩, List.mem_of_getElem? (i := 26) (by decide +kernel), List.mem_of_getElem? (i := 473) (by decide +kernel), List.mem_of_getElem? (i := 474) (by decide +kernel)⟩
theorem lw_p10 : lw_okq (⟨"KittenStairs$Orders", "readOrder", "(LKittenStairs$Pad;)Z"⟩, 4) := ⟨⟨by decide +kernel, by decide +kernel⟩, List.mem_of_getElem? (i := 166) (by decide +kernel), List.mem_of_getElem? (i := 533) (by decide +kernel), List.mem_of_getElem? (i := 534) (by decide +kernel)⟩
theorem lw_p11 : lw_okq (⟨"KittenStairs$Orders", "readDigit", "(LKittenStairs$Pad;I)Z"⟩, 4) := ⟨⟨by decide +kernel, by decide +kernel⟩, List.mem_of_getElem? (i := 166) (by decide +kernel), List.mem_of_getElem? (i := 544) (by decide +kernel), List.mem_of_getElem? (i := 545) (by decide +kernel)⟩
theorem lw_p12 : lw_okq (⟨"KittenStairs$Orders", "digit", "(LKittenStairs$Pad;)I"⟩, 4) := ⟨⟨by decide +kernel, by decide +kernel⟩, List.mem_of_getElem? (i := 166) (by decide +kernel), List.mem_of_getElem? (i := 548) (by decide +kernel), List.mem_of_getElem? (i := 549) (by decide +kernel)⟩
theorem lw_p13 : lw_okq (⟨"KittenStairs$Orders", "keep", "(II)Z"⟩, 4) := ⟨⟨by decide +kernel, by decide +kernel⟩, List.mem_of_getElem? (i := 166) (by decide +kernel), List.mem_of_getElem? (i := 552) (by decide +kernel), List.mem_of_getElem? (i := 553) (by decide +kernel)⟩
theorem lw_p14 : lw_okq (⟨"KittenStairs$Orders", "readBy", "(LKittenStairs$Pad;I)Z"⟩, 4) := ⟨⟨by decide +kernel, by decide +kernel⟩, List.mem_of_getElem? (i := 166) (by decide +kernel), List.mem_of_getElem? (i := 559) (by decide +kernel), List.mem_of_getElem? (i := 560) (by decide +kernel)⟩
theorem lw_p15 : lw_okq (⟨"KittenStairs$Orders", "readSign", "(LKittenStairs$Pad;I)Z"⟩, 4) := ⟨⟨by decide +kernel, by decide +kernel⟩, List.mem_of_getElem? (i := 166) (by decide +kernel), List.mem_of_getElem? (i := 563) (by decide +kernel), List.mem_of_getElem? (i := 564) (by decide +kernel)⟩
def lw_privs_1 : List (MethodName × Nat) := [(⟨"KittenStairs", "settled", "(I)I"⟩, 6), (⟨"KittenStairs$Stairs", "naps", "(I)Z"⟩, 14), (⟨"KittenStairs$Stairs", "isHeldBack", "(II)Z"⟩, 14), (⟨"KittenStairs$Stairs", "ballLasts", "(II)Z"⟩, 14), (⟨"KittenStairs$Stairs", "comeOver", "(II)V"⟩, 14), (⟨"KittenStairs$Plans", "isLater", "(III)Z"⟩, 4), (⟨"KittenStairs$Plans", "move", "(II)V"⟩, 4), (⟨"KittenStairs$Stairs", "wakeKittens", "()V"⟩, 14), (⟨"KittenStairs$Stairs", "refreshKittens", "()V"⟩, 14), (⟨"KittenStairs$Yarn", "mostKept", "(III)I"⟩, 3), (⟨"KittenStairs$Orders", "readOrder", "(LKittenStairs$Pad;)Z"⟩, 4), (⟨"KittenStairs$Orders", "readDigit", "(LKittenStairs$Pad;I)Z"⟩, 4), (⟨"KittenStairs$Orders", "digit", "(LKittenStairs$Pad;)I"⟩, 4), (⟨"KittenStairs$Orders", "keep", "(II)Z"⟩, 4), (⟨"KittenStairs$Orders", "readBy", "(LKittenStairs$Pad;I)Z"⟩, 4), (⟨"KittenStairs$Orders", "readSign", "(LKittenStairs$Pad;I)Z"⟩, 4)]
theorem lw_r1 : ∀ q ∈ lw_privs_1, lw_okq q := List.forall_mem_cons.mpr ⟨lw_p0, List.forall_mem_cons.mpr ⟨lw_p1, List.forall_mem_cons.mpr ⟨lw_p2, List.forall_mem_cons.mpr ⟨lw_p3, List.forall_mem_cons.mpr ⟨lw_p4, List.forall_mem_cons.mpr ⟨lw_p5, List.forall_mem_cons.mpr ⟨lw_p6, List.forall_mem_cons.mpr ⟨lw_p7, List.forall_mem_cons.mpr ⟨lw_p8, List.forall_mem_cons.mpr ⟨lw_p9, List.forall_mem_cons.mpr ⟨lw_p10, List.forall_mem_cons.mpr ⟨lw_p11, List.forall_mem_cons.mpr ⟨lw_p12, List.forall_mem_cons.mpr ⟨lw_p13, List.forall_mem_cons.mpr ⟨lw_p14, List.forall_mem_cons.mpr ⟨lw_p15, fun _ h => absurd h List.not_mem_nil⟩⟩⟩⟩⟩⟩⟩⟩⟩⟩⟩⟩⟩⟩⟩⟩
theorem lw_p16 : lw_okq (⟨"KittenStairs$Orders", "number", "(LKittenStairs$Pad;)I"⟩, 4) := ⟨⟨by decide +kernel, by decide +kernel⟩, List.mem_of_getElem? (i := 166) (by decide +kernel), List.mem_of_getElem? (i := 567) (by decide +kernel), List.mem_of_getElem? (i := 568) (by decide +kernel)⟩
theorem lw_p17 : lw_okq (⟨"KittenStairs$Orders", "readNumber", "(LKittenStairs$Pad;I)Z"⟩, 4) := ⟨⟨by decide +kernel, by decide +kernel⟩, List.mem_of_getElem? (i := 166) (by decide +kernel), List.mem_of_getElem? (i := 571) (by decide +kernel), List.mem_of_getElem? (i := 572) (by decide +kernel)⟩
theorem lw_p18 : lw_okq (⟨"KittenStairs", "carryOneOut", "(I)I"⟩, 6) := ⟨⟨by decide +kernel, by decide +kernel⟩, List.mem_of_getElem? (i := 12) (by decide +kernel), List.mem_of_getElem? (i := 579) (by decide +kernel), List.mem_of_getElem? (i := 580) (by decide +kernel)⟩
theorem lw_p19 : lw_okq (⟨"KittenStairsModel", "changes", "()V"⟩, 10) := ⟨⟨by decide +kernel, by decide +kernel⟩, List.mem_of_getElem? (i := 608) (by decide +kernel), List.mem_of_getElem? (i := 661) (by decide +kernel), List.mem_of_getElem? (i := 662) (by decide +kernel)⟩
theorem lw_p20 : lw_okq (⟨"KittenStairsModel", "copies", "(II)V"⟩, 10) := ⟨⟨by decide +kernel, by decide +kernel⟩, List.mem_of_getElem? (i := 608) (by decide +kernel), List.mem_of_getElem? (i := 665) (by decide +kernel), List.mem_of_getElem? (i := 666) (by decide +kernel)⟩
theorem lw_p21 : lw_okq (⟨"KittenStairsModel", "kittenError", "(I)I"⟩, 10) := ⟨⟨by decide +kernel, by decide +kernel⟩, List.mem_of_getElem? (i := 608) (by decide +kernel), List.mem_of_getElem? (i := 673) (by decide +kernel), List.mem_of_getElem? (i := 674) (by decide +kernel)⟩
theorem lw_p22 : lw_okq (⟨"KittenStairsModel", "comes", "(I)I"⟩, 10) := ⟨⟨by decide +kernel, by decide +kernel⟩, List.mem_of_getElem? (i := 608) (by decide +kernel), List.mem_of_getElem? (i := 677) (by decide +kernel), List.mem_of_getElem? (i := 678) (by decide +kernel)⟩
theorem lw_p23 : lw_okq (⟨"KittenStairsModel", "leapError", "(II)I"⟩, 10) := ⟨⟨by decide +kernel, by decide +kernel⟩, List.mem_of_getElem? (i := 608) (by decide +kernel), List.mem_of_getElem? (i := 688) (by decide +kernel), List.mem_of_getElem? (i := 689) (by decide +kernel)⟩
theorem lw_p24 : lw_okq (⟨"KittenStairsModel", "isKitten", "(I)Z"⟩, 10) := ⟨⟨by decide +kernel, by decide +kernel⟩, List.mem_of_getElem? (i := 608) (by decide +kernel), List.mem_of_getElem? (i := 692) (by decide +kernel), List.mem_of_getElem? (i := 693) (by decide +kernel)⟩
theorem lw_p25 : lw_okq (⟨"KittenStairsModel", "reason", "(III)I"⟩, 10) := ⟨⟨by decide +kernel, by decide +kernel⟩, List.mem_of_getElem? (i := 608) (by decide +kernel), List.mem_of_getElem? (i := 700) (by decide +kernel), List.mem_of_getElem? (i := 701) (by decide +kernel)⟩
theorem lw_p26 : lw_okq (⟨"KittenStairsModel", "naps", "(II)Z"⟩, 10) := ⟨⟨by decide +kernel, by decide +kernel⟩, List.mem_of_getElem? (i := 608) (by decide +kernel), List.mem_of_getElem? (i := 704) (by decide +kernel), List.mem_of_getElem? (i := 705) (by decide +kernel)⟩
theorem lw_p27 : lw_okq (⟨"KittenStairsModel", "isHeldBack", "(III)Z"⟩, 10) := ⟨⟨by decide +kernel, by decide +kernel⟩, List.mem_of_getElem? (i := 608) (by decide +kernel), List.mem_of_getElem? (i := 711) (by decide +kernel), List.mem_of_getElem? (i := 712) (by decide +kernel)⟩
theorem lw_p28 : lw_okq (⟨"KittenStairsModel", "boundTo", "(II)I"⟩, 10) := ⟨⟨by decide +kernel, by decide +kernel⟩, List.mem_of_getElem? (i := 608) (by decide +kernel), List.mem_of_getElem? (i := 715) (by decide +kernel), List.mem_of_getElem? (i := 716) (by decide +kernel)⟩
theorem lw_p29 : lw_okq (⟨"KittenStairsModel", "boundEdges", "(III)I"⟩, 10) := ⟨⟨by decide +kernel, by decide +kernel⟩, List.mem_of_getElem? (i := 608) (by decide +kernel), List.mem_of_getElem? (i := 719) (by decide +kernel), List.mem_of_getElem? (i := 720) (by decide +kernel)⟩
theorem lw_p30 : lw_okq (⟨"KittenStairsModel", "areBoundAt", "(IIII)Z"⟩, 10) := ⟨⟨by decide +kernel, by decide +kernel⟩, List.mem_of_getElem? (i := 608) (by decide +kernel), List.mem_of_getElem? (i := 723) (by decide +kernel), List.mem_of_getElem? (i := 724) (by decide +kernel)⟩
theorem lw_p31 : lw_okq (⟨"KittenStairsModel", "ownerAt", "(III)I"⟩, 10) := ⟨⟨by decide +kernel, by decide +kernel⟩, List.mem_of_getElem? (i := 608) (by decide +kernel), List.mem_of_getElem? (i := 727) (by decide +kernel), List.mem_of_getElem? (i := 728) (by decide +kernel)⟩
def lw_privs_2 : List (MethodName × Nat) := [(⟨"KittenStairs$Orders", "number", "(LKittenStairs$Pad;)I"⟩, 4), (⟨"KittenStairs$Orders", "readNumber", "(LKittenStairs$Pad;I)Z"⟩, 4), (⟨"KittenStairs", "carryOneOut", "(I)I"⟩, 6), (⟨"KittenStairsModel", "changes", "()V"⟩, 10), (⟨"KittenStairsModel", "copies", "(II)V"⟩, 10), (⟨"KittenStairsModel", "kittenError", "(I)I"⟩, 10), (⟨"KittenStairsModel", "comes", "(I)I"⟩, 10), (⟨"KittenStairsModel", "leapError", "(II)I"⟩, 10), (⟨"KittenStairsModel", "isKitten", "(I)Z"⟩, 10), (⟨"KittenStairsModel", "reason", "(III)I"⟩, 10), (⟨"KittenStairsModel", "naps", "(II)Z"⟩, 10), (⟨"KittenStairsModel", "isHeldBack", "(III)Z"⟩, 10), (⟨"KittenStairsModel", "boundTo", "(II)I"⟩, 10), (⟨"KittenStairsModel", "boundEdges", "(III)I"⟩, 10), (⟨"KittenStairsModel", "areBoundAt", "(IIII)Z"⟩, 10), (⟨"KittenStairsModel", "ownerAt", "(III)I"⟩, 10)]
theorem lw_r2 : ∀ q ∈ lw_privs_2, lw_okq q := List.forall_mem_cons.mpr ⟨lw_p16, List.forall_mem_cons.mpr ⟨lw_p17, List.forall_mem_cons.mpr ⟨lw_p18, List.forall_mem_cons.mpr ⟨lw_p19, List.forall_mem_cons.mpr ⟨lw_p20, List.forall_mem_cons.mpr ⟨lw_p21, List.forall_mem_cons.mpr ⟨lw_p22, List.forall_mem_cons.mpr ⟨lw_p23, List.forall_mem_cons.mpr ⟨lw_p24, List.forall_mem_cons.mpr ⟨lw_p25, List.forall_mem_cons.mpr ⟨lw_p26, List.forall_mem_cons.mpr ⟨lw_p27, List.forall_mem_cons.mpr ⟨lw_p28, List.forall_mem_cons.mpr ⟨lw_p29, List.forall_mem_cons.mpr ⟨lw_p30, List.forall_mem_cons.mpr ⟨lw_p31, fun _ h => absurd h List.not_mem_nil⟩⟩⟩⟩⟩⟩⟩⟩⟩⟩⟩⟩⟩⟩⟩⟩
theorem lw_p32 : lw_okq (⟨"KittenStairsModel", "isTooShort", "(III)Z"⟩, 10) := ⟨⟨by decide +kernel, by decide +kernel⟩, List.mem_of_getElem? (i := 608) (by decide +kernel), List.mem_of_getElem? (i := 734) (by decide +kernel), List.mem_of_getElem? (i := 735) (by decide +kernel)⟩
theorem lw_p33 : lw_okq (⟨"KittenStairsModel", "edgeOf", "(IIII)I"⟩, 10) := ⟨⟨by decide +kernel, by decide +kernel⟩, List.mem_of_getElem? (i := 608) (by decide +kernel), List.mem_of_getElem? (i := 738) (by decide +kernel), List.mem_of_getElem? (i := 739) (by decide +kernel)⟩
theorem lw_p34 : lw_okq (⟨"KittenStairsModel", "windsBack", "(III)Z"⟩, 10) := ⟨⟨by decide +kernel, by decide +kernel⟩, List.mem_of_getElem? (i := 608) (by decide +kernel), List.mem_of_getElem? (i := 742) (by decide +kernel), List.mem_of_getElem? (i := 743) (by decide +kernel)⟩
theorem lw_p35 : lw_okq (⟨"KittenStairsModel", "top", "(II)I"⟩, 10) := ⟨⟨by decide +kernel, by decide +kernel⟩, List.mem_of_getElem? (i := 608) (by decide +kernel), List.mem_of_getElem? (i := 746) (by decide +kernel), List.mem_of_getElem? (i := 747) (by decide +kernel)⟩
theorem lw_p36 : lw_okq (⟨"KittenStairsModel", "leaps", "(III)I"⟩, 10) := ⟨⟨by decide +kernel, by decide +kernel⟩, List.mem_of_getElem? (i := 608) (by decide +kernel), List.mem_of_getElem? (i := 750) (by decide +kernel), List.mem_of_getElem? (i := 751) (by decide +kernel)⟩
theorem lw_p37 : lw_okq (⟨"KittenStairsModel", "crosses", "(III)V"⟩, 10) := ⟨⟨by decide +kernel, by decide +kernel⟩, List.mem_of_getElem? (i := 608) (by decide +kernel), List.mem_of_getElem? (i := 754) (by decide +kernel), List.mem_of_getElem? (i := 755) (by decide +kernel)⟩
theorem lw_p38 : lw_okq (⟨"KittenStairsModel", "removesStrand", "(II)V"⟩, 10) := ⟨⟨by decide +kernel, by decide +kernel⟩, List.mem_of_getElem? (i := 608) (by decide +kernel), List.mem_of_getElem? (i := 758) (by decide +kernel), List.mem_of_getElem? (i := 759) (by decide +kernel)⟩
theorem lw_p39 : lw_okq (⟨"KittenStairsModel", "napError", "(I)I"⟩, 10) := ⟨⟨by decide +kernel, by decide +kernel⟩, List.mem_of_getElem? (i := 608) (by decide +kernel), List.mem_of_getElem? (i := 766) (by decide +kernel), List.mem_of_getElem? (i := 767) (by decide +kernel)⟩
theorem lw_p40 : lw_okq (⟨"KittenStairsModel", "sleeps", "(I)I"⟩, 10) := ⟨⟨by decide +kernel, by decide +kernel⟩, List.mem_of_getElem? (i := 608) (by decide +kernel), List.mem_of_getElem? (i := 770) (by decide +kernel), List.mem_of_getElem? (i := 771) (by decide +kernel)⟩
theorem lw_p41 : lw_okq (⟨"KittenStairsModel", "snipError", "(II)I"⟩, 10) := ⟨⟨by decide +kernel, by decide +kernel⟩, List.mem_of_getElem? (i := 608) (by decide +kernel), List.mem_of_getElem? (i := 778) (by decide +kernel), List.mem_of_getElem? (i := 779) (by decide +kernel)⟩
theorem lw_p42 : lw_okq (⟨"KittenStairsModel", "strandsAt", "(II)I"⟩, 10) := ⟨⟨by decide +kernel, by decide +kernel⟩, List.mem_of_getElem? (i := 608) (by decide +kernel), List.mem_of_getElem? (i := 786) (by decide +kernel), List.mem_of_getElem? (i := 787) (by decide +kernel)⟩
theorem lw_p43 : lw_okq (⟨"KittenStairsModel", "snips", "(II)I"⟩, 10) := ⟨⟨by decide +kernel, by decide +kernel⟩, List.mem_of_getElem? (i := 608) (by decide +kernel), List.mem_of_getElem? (i := 790) (by decide +kernel), List.mem_of_getElem? (i := 791) (by decide +kernel)⟩
theorem lw_p44 : lw_okq (⟨"KittenStairsModel", "planError", "(III)I"⟩, 10) := ⟨⟨by decide +kernel, by decide +kernel⟩, List.mem_of_getElem? (i := 608) (by decide +kernel), List.mem_of_getElem? (i := 798) (by decide +kernel), List.mem_of_getElem? (i := 799) (by decide +kernel)⟩
theorem lw_p45 : lw_okq (⟨"KittenStairsModel", "plans", "(III)I"⟩, 10) := ⟨⟨by decide +kernel, by decide +kernel⟩, List.mem_of_getElem? (i := 608) (by decide +kernel), List.mem_of_getElem? (i := 803) (by decide +kernel), List.mem_of_getElem? (i := 804) (by decide +kernel)⟩
theorem lw_p46 : lw_okq (⟨"KittenStairsModel", "passError", "(I)I"⟩, 10) := ⟨⟨by decide +kernel, by decide +kernel⟩, List.mem_of_getElem? (i := 608) (by decide +kernel), List.mem_of_getElem? (i := 814) (by decide +kernel), List.mem_of_getElem? (i := 815) (by decide +kernel)⟩
theorem lw_p47 : lw_okq (⟨"KittenStairsModel", "turns", "(II)I"⟩, 10) := ⟨⟨by decide +kernel, by decide +kernel⟩, List.mem_of_getElem? (i := 608) (by decide +kernel), List.mem_of_getElem? (i := 818) (by decide +kernel), List.mem_of_getElem? (i := 819) (by decide +kernel)⟩
def lw_privs_3 : List (MethodName × Nat) := [(⟨"KittenStairsModel", "isTooShort", "(III)Z"⟩, 10), (⟨"KittenStairsModel", "edgeOf", "(IIII)I"⟩, 10), (⟨"KittenStairsModel", "windsBack", "(III)Z"⟩, 10), (⟨"KittenStairsModel", "top", "(II)I"⟩, 10), (⟨"KittenStairsModel", "leaps", "(III)I"⟩, 10), (⟨"KittenStairsModel", "crosses", "(III)V"⟩, 10), (⟨"KittenStairsModel", "removesStrand", "(II)V"⟩, 10), (⟨"KittenStairsModel", "napError", "(I)I"⟩, 10), (⟨"KittenStairsModel", "sleeps", "(I)I"⟩, 10), (⟨"KittenStairsModel", "snipError", "(II)I"⟩, 10), (⟨"KittenStairsModel", "strandsAt", "(II)I"⟩, 10), (⟨"KittenStairsModel", "snips", "(II)I"⟩, 10), (⟨"KittenStairsModel", "planError", "(III)I"⟩, 10), (⟨"KittenStairsModel", "plans", "(III)I"⟩, 10), (⟨"KittenStairsModel", "passError", "(I)I"⟩, 10), (⟨"KittenStairsModel", "turns", "(II)I"⟩, 10)]
theorem lw_r3 : ∀ q ∈ lw_privs_3, lw_okq q := List.forall_mem_cons.mpr ⟨lw_p32, List.forall_mem_cons.mpr ⟨lw_p33, List.forall_mem_cons.mpr ⟨lw_p34, List.forall_mem_cons.mpr ⟨lw_p35, List.forall_mem_cons.mpr ⟨lw_p36, List.forall_mem_cons.mpr ⟨lw_p37, List.forall_mem_cons.mpr ⟨lw_p38, List.forall_mem_cons.mpr ⟨lw_p39, List.forall_mem_cons.mpr ⟨lw_p40, List.forall_mem_cons.mpr ⟨lw_p41, List.forall_mem_cons.mpr ⟨lw_p42, List.forall_mem_cons.mpr ⟨lw_p43, List.forall_mem_cons.mpr ⟨lw_p44, List.forall_mem_cons.mpr ⟨lw_p45, List.forall_mem_cons.mpr ⟨lw_p46, List.forall_mem_cons.mpr ⟨lw_p47, fun _ h => absurd h List.not_mem_nil⟩⟩⟩⟩⟩⟩⟩⟩⟩⟩⟩⟩⟩⟩⟩⟩
theorem lw_p48 : lw_okq (⟨"KittenStairsModel", "turn", "(I)I"⟩, 10) := ⟨⟨by decide +kernel, by decide +kernel⟩, List.mem_of_getElem? (i := 608) (by decide +kernel), List.mem_of_getElem? (i := 822) (by decide +kernel), List.mem_of_getElem? (i := 823) (by decide +kernel)⟩
theorem lw_p49 : lw_okq (⟨"KittenStairsModel", "strandsOf", "(I)I"⟩, 10) := ⟨⟨by decide +kernel, by decide +kernel⟩, List.mem_of_getElem? (i := 608) (by decide +kernel), List.mem_of_getElem? (i := 830) (by decide +kernel), List.mem_of_getElem? (i := 831) (by decide +kernel)⟩
theorem lw_p50 : lw_okq (⟨"KittenStairsModel", "stepsOf", "(I)I"⟩, 10) := ⟨⟨by decide +kernel, by decide +kernel⟩, List.mem_of_getElem? (i := 608) (by decide +kernel), List.mem_of_getElem? (i := 834) (by decide +kernel), List.mem_of_getElem? (i := 835) (by decide +kernel)⟩
theorem lw_p51 : lw_okq (⟨"KittenStairsModel", "thickness", "(I)I"⟩, 10) := ⟨⟨by decide +kernel, by decide +kernel⟩, List.mem_of_getElem? (i := 608) (by decide +kernel), List.mem_of_getElem? (i := 842) (by decide +kernel), List.mem_of_getElem? (i := 843) (by decide +kernel)⟩
theorem lw_p52 : lw_okq (⟨"KittenStairsModel", "kittensAt", "(I)I"⟩, 10) := ⟨⟨by decide +kernel, by decide +kernel⟩, List.mem_of_getElem? (i := 608) (by decide +kernel), List.mem_of_getElem? (i := 846) (by decide +kernel), List.mem_of_getElem? (i := 847) (by decide +kernel)⟩
theorem lw_p53 : lw_okq (⟨"KittenStairsModel", "pairsAt", "(I)I"⟩, 10) := ⟨⟨by decide +kernel, by decide +kernel⟩, List.mem_of_getElem? (i := 608) (by decide +kernel), List.mem_of_getElem? (i := 850) (by decide +kernel), List.mem_of_getElem? (i := 851) (by decide +kernel)⟩
theorem lw_p54 : lw_okq (⟨"KittenStairsModel", "napping", "()I"⟩, 10) := ⟨⟨by decide +kernel, by decide +kernel⟩, List.mem_of_getElem? (i := 608) (by decide +kernel), List.mem_of_getElem? (i := 870) (by decide +kernel), List.mem_of_getElem? (i := 871) (by decide +kernel)⟩
theorem lw_p55 : lw_okq (⟨"KittenStairsModel", "all", "(I)I"⟩, 10) := ⟨⟨by decide +kernel, by decide +kernel⟩, List.mem_of_getElem? (i := 608) (by decide +kernel), List.mem_of_getElem? (i := 874) (by decide +kernel), List.mem_of_getElem? (i := 875) (by decide +kernel)⟩
theorem lw_p56 : lw_okq (⟨"KittenStairsModel", "pairs", "()I"⟩, 10) := ⟨⟨by decide +kernel, by decide +kernel⟩, List.mem_of_getElem? (i := 608) (by decide +kernel), List.mem_of_getElem? (i := 878) (by decide +kernel), List.mem_of_getElem? (i := 879) (by decide +kernel)⟩
theorem lw_p57 : lw_okq (⟨"KittenStairsModel", "sorting", "(III)I"⟩, 10) := ⟨⟨by decide +kernel, by decide +kernel⟩, List.mem_of_getElem? (i := 608) (by decide +kernel), List.mem_of_getElem? (i := 898) (by decide +kernel), List.mem_of_getElem? (i := 899) (by decide +kernel)⟩
theorem lw_p58 : lw_okq (⟨"KittenStairsModel", "readsOrder", "()Z"⟩, 10) := ⟨⟨by decide +kernel, by decide +kernel⟩, List.mem_of_getElem? (i := 608) (by decide +kernel), List.mem_of_getElem? (i := 932) (by decide +kernel), List.mem_of_getElem? (i := 933) (by decide +kernel)⟩
theorem lw_p59 : lw_okq (⟨"KittenStairsModel", "readsNumber", "()Z"⟩, 10) := ⟨⟨by decide +kernel, by decide +kernel⟩, List.mem_of_getElem? (i := 608) (by decide +kernel), List.mem_of_getElem? (i := 936) (by decide +kernel), List.mem_of_getElem? (i := 937) (by decide +kernel)⟩
theorem lw_p60 : lw_okq (⟨"KittenStairsModel", "number", "()I"⟩, 10) := ⟨⟨by decide +kernel, by decide +kernel⟩, List.mem_of_getElem? (i := 608) (by decide +kernel), List.mem_of_getElem? (i := 940) (by decide +kernel), List.mem_of_getElem? (i := 941) (by decide +kernel)⟩
theorem lw_p61 : lw_okq (⟨"KittenStairsModel", "digit", "()I"⟩, 10) := ⟨⟨by decide +kernel, by decide +kernel⟩, List.mem_of_getElem? (i := 608) (by decide +kernel), List.mem_of_getElem? (i := 944) (by decide +kernel), List.mem_of_getElem? (i := 945) (by decide +kernel)⟩
theorem lw_p62 : lw_okq (⟨"KittenStairsModel", "isHere", "(II)Z"⟩, 10) := ⟨⟨by decide +kernel, by decide +kernel⟩, List.mem_of_getElem? (i := 608) (by decide +kernel), List.mem_of_getElem? (i := 948) (by decide +kernel), List.mem_of_getElem? (i := 949) (by decide +kernel)⟩
theorem lw_p63 : lw_okq (⟨"KittenStairsModel", "readsKitten", "()Z"⟩, 10) := ⟨⟨by decide +kernel, by decide +kernel⟩, List.mem_of_getElem? (i := 608) (by decide +kernel), List.mem_of_getElem? (i := 952) (by decide +kernel), List.mem_of_getElem? (i := 953) (by decide +kernel)⟩
def lw_privs_4 : List (MethodName × Nat) := [(⟨"KittenStairsModel", "turn", "(I)I"⟩, 10), (⟨"KittenStairsModel", "strandsOf", "(I)I"⟩, 10), (⟨"KittenStairsModel", "stepsOf", "(I)I"⟩, 10), (⟨"KittenStairsModel", "thickness", "(I)I"⟩, 10), (⟨"KittenStairsModel", "kittensAt", "(I)I"⟩, 10), (⟨"KittenStairsModel", "pairsAt", "(I)I"⟩, 10), (⟨"KittenStairsModel", "napping", "()I"⟩, 10), (⟨"KittenStairsModel", "all", "(I)I"⟩, 10), (⟨"KittenStairsModel", "pairs", "()I"⟩, 10), (⟨"KittenStairsModel", "sorting", "(III)I"⟩, 10), (⟨"KittenStairsModel", "readsOrder", "()Z"⟩, 10), (⟨"KittenStairsModel", "readsNumber", "()Z"⟩, 10), (⟨"KittenStairsModel", "number", "()I"⟩, 10), (⟨"KittenStairsModel", "digit", "()I"⟩, 10), (⟨"KittenStairsModel", "isHere", "(II)Z"⟩, 10), (⟨"KittenStairsModel", "readsKitten", "()Z"⟩, 10)]
theorem lw_r4 : ∀ q ∈ lw_privs_4, lw_okq q := List.forall_mem_cons.mpr ⟨lw_p48, List.forall_mem_cons.mpr ⟨lw_p49, List.forall_mem_cons.mpr ⟨lw_p50, List.forall_mem_cons.mpr ⟨lw_p51, List.forall_mem_cons.mpr ⟨lw_p52, List.forall_mem_cons.mpr ⟨lw_p53, List.forall_mem_cons.mpr ⟨lw_p54, List.forall_mem_cons.mpr ⟨lw_p55, List.forall_mem_cons.mpr ⟨lw_p56, List.forall_mem_cons.mpr ⟨lw_p57, List.forall_mem_cons.mpr ⟨lw_p58, List.forall_mem_cons.mpr ⟨lw_p59, List.forall_mem_cons.mpr ⟨lw_p60, List.forall_mem_cons.mpr ⟨lw_p61, List.forall_mem_cons.mpr ⟨lw_p62, List.forall_mem_cons.mpr ⟨lw_p63, fun _ h => absurd h List.not_mem_nil⟩⟩⟩⟩⟩⟩⟩⟩⟩⟩⟩⟩⟩⟩⟩⟩
theorem lw_p64 : lw_okq (⟨"KittenStairsModel", "readsBy", "()Z"⟩, 10) := ⟨⟨by decide +kernel, by decide +kernel⟩, List.mem_of_getElem? (i := 608) (by decide +kernel), List.mem_of_getElem? (i := 956) (by decide +kernel), List.mem_of_getElem? (i := 957) (by decide +kernel)⟩
theorem lw_p65 : lw_okq (⟨"KittenStairsModel", "takes", "(I)Z"⟩, 10) := ⟨⟨by decide +kernel, by decide +kernel⟩, List.mem_of_getElem? (i := 608) (by decide +kernel), List.mem_of_getElem? (i := 960) (by decide +kernel), List.mem_of_getElem? (i := 961) (by decide +kernel)⟩
theorem lw_p66 : lw_okq (⟨"KittenStairsModel", "orderError", "()I"⟩, 10) := ⟨⟨by decide +kernel, by decide +kernel⟩, List.mem_of_getElem? (i := 608) (by decide +kernel), List.mem_of_getElem? (i := 969) (by decide +kernel), List.mem_of_getElem? (i := 970) (by decide +kernel)⟩
theorem lw_p67 : lw_okq (⟨"KittenStairsModel", "does", "()I"⟩, 10) := ⟨⟨by decide +kernel, by decide +kernel⟩, List.mem_of_getElem? (i := 608) (by decide +kernel), List.mem_of_getElem? (i := 973) (by decide +kernel), List.mem_of_getElem? (i := 974) (by decide +kernel)⟩
def lw_privs_5 : List (MethodName × Nat) := [(⟨"KittenStairsModel", "readsBy", "()Z"⟩, 10), (⟨"KittenStairsModel", "takes", "(I)Z"⟩, 10), (⟨"KittenStairsModel", "orderError", "()I"⟩, 10), (⟨"KittenStairsModel", "does", "()I"⟩, 10)]
theorem lw_r5 : ∀ q ∈ lw_privs_5, lw_okq q := List.forall_mem_cons.mpr ⟨lw_p64, List.forall_mem_cons.mpr ⟨lw_p65, List.forall_mem_cons.mpr ⟨lw_p66, List.forall_mem_cons.mpr ⟨lw_p67, fun _ h => absurd h List.not_mem_nil⟩⟩⟩⟩
def lw_privs : List (MethodName × Nat) := lw_privs_1 ++ (lw_privs_2 ++ (lw_privs_3 ++ (lw_privs_4 ++ (lw_privs_5))))
def lw_tbl : List Cond := k2_sels lw_privs ++ tables_1
theorem lw_privs_ok : ∀ q ∈ lw_privs, lw_okq q := by
  show ∀ q ∈ lw_privs_1 ++ (lw_privs_2 ++ (lw_privs_3 ++ (lw_privs_4 ++ (lw_privs_5)))), lw_okq q
  exact List.forall_mem_append.mpr ⟨lw_r1, List.forall_mem_append.mpr ⟨lw_r2, List.forall_mem_append.mpr ⟨lw_r3, List.forall_mem_append.mpr ⟨lw_r4, lw_r5⟩⟩⟩⟩
end
section
def RX0 : String := "KittenStairs$History"
def TX0 : u_T := fun k => match k with
  | 0 => ("KittenStairs$History", "states", "[LKittenStairs$Stairs;", true)
  | 1 => ("KittenStairs$History", "draftPlace", "I", false)
  | _ => ("KittenStairs$History", "size", "I", false)
def tyX0 : Nat → FieldType := fun k => match k with
  | 0 => .array (.object "KittenStairs$Stairs")
  | 1 => .int
  | _ => .int
abbrev wsX00 : List Cond := u_ws RX0 TX0 3
theorem nmX0 : ∀ a, a < 3 → ∀ b, b < 3 → a ≠ b → (TX0 a).2.1 ≠ (TX0 b).2.1 := by decide +kernel
theorem tyX0_ok : ∀ k, k < 3 → parseFieldDescriptor (TX0 k).2.2.1 = some (tyX0 k) := by decide +kernel
abbrev cX0_init : ByteArray := prog_2_method_1_code
def yX0_init : MethodName := ⟨RX0, "<init>", "()V"⟩
abbrev cX0_draft : ByteArray := prog_2_method_2_code
def yX0_draft : MethodName := ⟨RX0, "draft", "(LKittenStairs$Stairs;)V"⟩
abbrev cX0_keepDraft : ByteArray := prog_2_method_3_code
def yX0_keepDraft : MethodName := ⟨RX0, "keepDraft", "()V"⟩
abbrev cX0_takeBack : ByteArray := prog_2_method_4_code
def yX0_takeBack : MethodName := ⟨RX0, "takeBack", "(LKittenStairs$Stairs;)V"⟩
def RX1 : String := "KittenStairs$Orders"
def TX1 : u_T := fun k => match k with
  | 0 => ("KittenStairs$Orders", "letters", "[I", true)
  | 1 => ("KittenStairs$Orders", "parts", "[I", true)
  | 2 => ("KittenStairs$Orders", "size", "I", false)
  | _ => ("KittenStairs$Orders", "at", "I", false)
def tyX1 : Nat → FieldType := fun k => match k with
  | 0 => .array .int
  | 1 => .array .int
  | 2 => .int
  | _ => .int
abbrev wsX10 : List Cond := u_ws RX1 TX1 4
theorem nmX1 : ∀ a, a < 4 → ∀ b, b < 4 → a ≠ b → (TX1 a).2.1 ≠ (TX1 b).2.1 := by decide +kernel
theorem tyX1_ok : ∀ k, k < 4 → parseFieldDescriptor (TX1 k).2.2.1 = some (tyX1 k) := by decide +kernel
abbrev cX1_init : ByteArray := prog_3_method_1_code
def yX1_init : MethodName := ⟨RX1, "<init>", "()V"⟩
abbrev cX1_letter : ByteArray := prog_3_method_2_code
def yX1_letter : MethodName := ⟨RX1, "letter", "(I)I"⟩
abbrev cX1_part : ByteArray := prog_3_method_3_code
def yX1_part : MethodName := ⟨RX1, "part", "(II)I"⟩
abbrev cX1_hasPart : ByteArray := prog_3_method_4_code
def yX1_hasPart : MethodName := ⟨RX1, "hasPart", "(II)Z"⟩
abbrev cX1_read : ByteArray := prog_3_method_5_code
def yX1_read : MethodName := ⟨RX1, "read", "(LKittenStairs$Pad;)I"⟩
abbrev cX1_readOrder : ByteArray := prog_3_method_6_code
def yX1_readOrder : MethodName := ⟨RX1, "readOrder", "(LKittenStairs$Pad;)Z"⟩
abbrev cX1_isLetter : ByteArray := prog_3_method_7_code
def yX1_isLetter : MethodName := ⟨RX1, "isLetter", "(I)Z"⟩
abbrev cX1_readSign : ByteArray := prog_3_method_8_code
def yX1_readSign : MethodName := ⟨RX1, "readSign", "(LKittenStairs$Pad;I)Z"⟩
abbrev cX1_readDigit : ByteArray := prog_3_method_9_code
def yX1_readDigit : MethodName := ⟨RX1, "readDigit", "(LKittenStairs$Pad;I)Z"⟩
abbrev cX1_readNumber : ByteArray := prog_3_method_10_code
def yX1_readNumber : MethodName := ⟨RX1, "readNumber", "(LKittenStairs$Pad;I)Z"⟩
abbrev cX1_readBy : ByteArray := prog_3_method_11_code
def yX1_readBy : MethodName := ⟨RX1, "readBy", "(LKittenStairs$Pad;I)Z"⟩
abbrev cX1_keep : ByteArray := prog_3_method_12_code
def yX1_keep : MethodName := ⟨RX1, "keep", "(II)Z"⟩
abbrev cX1_number : ByteArray := prog_3_method_13_code
def yX1_number : MethodName := ⟨RX1, "number", "(LKittenStairs$Pad;)I"⟩
abbrev cX1_digit : ByteArray := prog_3_method_14_code
def yX1_digit : MethodName := ⟨RX1, "digit", "(LKittenStairs$Pad;)I"⟩
def RX2 : String := "KittenStairs$Pad"
def TX2 : u_T := fun k => match k with
  | 0 => ("KittenStairs$Pad", "signs", "[I", true)
  | _ => ("KittenStairs$Pad", "length", "I", false)
def tyX2 : Nat → FieldType := fun k => match k with
  | 0 => .array .int
  | _ => .int
abbrev wsX20 : List Cond := u_ws RX2 TX2 2
theorem nmX2 : ∀ a, a < 2 → ∀ b, b < 2 → a ≠ b → (TX2 a).2.1 ≠ (TX2 b).2.1 := by decide +kernel
theorem tyX2_ok : ∀ k, k < 2 → parseFieldDescriptor (TX2 k).2.2.1 = some (tyX2 k) := by decide +kernel
abbrev cX2_init : ByteArray := prog_4_method_1_code
def yX2_init : MethodName := ⟨RX2, "<init>", "()V"⟩
abbrev cX2_append : ByteArray := prog_4_method_2_code
def yX2_append : MethodName := ⟨RX2, "append", "(J)I"⟩
abbrev cX2_signsIn : ByteArray := prog_4_method_3_code
def yX2_signsIn : MethodName := ⟨RX2, "signsIn", "(J)I"⟩
abbrev cX2_empty : ByteArray := prog_4_method_4_code
def yX2_empty : MethodName := ⟨RX2, "empty", "()I"⟩
abbrev cX2_signAt : ByteArray := prog_4_method_5_code
def yX2_signAt : MethodName := ⟨RX2, "signAt", "(I)I"⟩
def RX3 : String := "KittenStairs$Plans"
def TX3 : u_T := fun k => match k with
  | 0 => ("KittenStairs$Plans", "turns", "[I", true)
  | 1 => ("KittenStairs$Plans", "kittens", "[I", true)
  | 2 => ("KittenStairs$Plans", "bys", "[I", true)
  | _ => ("KittenStairs$Plans", "size", "I", false)
def tyX3 : Nat → FieldType := fun k => match k with
  | 0 => .array .int
  | 1 => .array .int
  | 2 => .array .int
  | _ => .int
abbrev wsX30 : List Cond := u_ws RX3 TX3 4
theorem nmX3 : ∀ a, a < 4 → ∀ b, b < 4 → a ≠ b → (TX3 a).2.1 ≠ (TX3 b).2.1 := by decide +kernel
theorem tyX3_ok : ∀ k, k < 4 → parseFieldDescriptor (TX3 k).2.2.1 = some (tyX3 k) := by decide +kernel
abbrev cX3_init : ByteArray := prog_5_method_1_code
def yX3_init : MethodName := ⟨RX3, "<init>", "()V"⟩
abbrev cX3_copyFrom : ByteArray := prog_5_method_2_code
def yX3_copyFrom : MethodName := ⟨RX3, "copyFrom", "(LKittenStairs$Plans;)V"⟩
abbrev cX3_insert : ByteArray := prog_5_method_3_code
def yX3_insert : MethodName := ⟨RX3, "insert", "(III)V"⟩
abbrev cX3_isLater : ByteArray := prog_5_method_4_code
def yX3_isLater : MethodName := ⟨RX3, "isLater", "(III)Z"⟩
abbrev cX3_removeFirst : ByteArray := prog_5_method_5_code
def yX3_removeFirst : MethodName := ⟨RX3, "removeFirst", "()V"⟩
abbrev cX3_move : ByteArray := prog_5_method_6_code
def yX3_move : MethodName := ⟨RX3, "move", "(II)V"⟩
abbrev cX3_firstTurn : ByteArray := prog_5_method_7_code
def yX3_firstTurn : MethodName := ⟨RX3, "firstTurn", "()I"⟩
abbrev cX3_lastTurn : ByteArray := prog_5_method_8_code
def yX3_lastTurn : MethodName := ⟨RX3, "lastTurn", "()I"⟩
def RX4 : String := "KittenStairs$Stairs"
def TX4 : u_T := fun k => match k with
  | 0 => ("KittenStairs$Stairs", "settings", "[I", true)
  | 1 => ("KittenStairs$Stairs", "turn", "I", false)
  | 2 => ("KittenStairs$Stairs", "kittens", "I", false)
  | 3 => ("KittenStairs$Stairs", "leapsMade", "I", false)
  | 4 => ("KittenStairs$Stairs", "plansRefused", "I", false)
  | 5 => ("KittenStairs$Stairs", "step", "[I", true)
  | 6 => ("KittenStairs$Stairs", "vim", "[I", true)
  | 7 => ("KittenStairs$Stairs", "wakes", "[I", true)
  | 8 => ("KittenStairs$Stairs", "ball", "[I", true)
  | 9 => ("KittenStairs$Stairs", "laid", "[I", true)
  | 10 => ("KittenStairs$Stairs", "wound", "[I", true)
  | 11 => ("KittenStairs$Stairs", "snipped", "[I", true)
  | 12 => ("KittenStairs$Stairs", "yarn", "LKittenStairs$Yarn;", true)
  | _ => ("KittenStairs$Stairs", "plans", "LKittenStairs$Plans;", true)
def tyX4 : Nat → FieldType := fun k => match k with
  | 0 => .array .int
  | 1 => .int
  | 2 => .int
  | 3 => .int
  | 4 => .int
  | 5 => .array .int
  | 6 => .array .int
  | 7 => .array .int
  | 8 => .array .int
  | 9 => .array .int
  | 10 => .array .int
  | 11 => .array .int
  | 12 => .object "KittenStairs$Yarn"
  | _ => .object "KittenStairs$Plans"
abbrev wsX40 : List Cond := u_ws RX4 TX4 14
theorem nmX4 : ∀ a, a < 14 → ∀ b, b < 14 → a ≠ b → (TX4 a).2.1 ≠ (TX4 b).2.1 := by decide +kernel
theorem tyX4_ok : ∀ k, k < 14 → parseFieldDescriptor (TX4 k).2.2.1 = some (tyX4 k) := by decide +kernel
abbrev cX4_init : ByteArray := prog_6_method_1_code
def yX4_init : MethodName := ⟨RX4, "<init>", "()V"⟩
abbrev cX4_copyFrom : ByteArray := prog_6_method_2_code
def yX4_copyFrom : MethodName := ⟨RX4, "copyFrom", "(LKittenStairs$Stairs;)V"⟩
abbrev cX4_hasKitten : ByteArray := prog_6_method_3_code
def yX4_hasKitten : MethodName := ⟨RX4, "hasKitten", "(I)Z"⟩
abbrev cX4_changeSetting : ByteArray := prog_6_method_4_code
def yX4_changeSetting : MethodName := ⟨RX4, "changeSetting", "(II)I"⟩
abbrev cX4_addKitten : ByteArray := prog_6_method_5_code
def yX4_addKitten : MethodName := ⟨RX4, "addKitten", "(I)I"⟩
abbrev cX4_tryLeap : ByteArray := prog_6_method_6_code
def yX4_tryLeap : MethodName := ⟨RX4, "tryLeap", "(II)I"⟩
abbrev cX4_beginNap : ByteArray := prog_6_method_7_code
def yX4_beginNap : MethodName := ⟨RX4, "beginNap", "(I)I"⟩
abbrev cX4_snipStrands : ByteArray := prog_6_method_8_code
def yX4_snipStrands : MethodName := ⟨RX4, "snipStrands", "(II)I"⟩
abbrev cX4_planLeap : ByteArray := prog_6_method_9_code
def yX4_planLeap : MethodName := ⟨RX4, "planLeap", "(III)I"⟩
abbrev cX4_passTurns : ByteArray := prog_6_method_10_code
def yX4_passTurns : MethodName := ⟨RX4, "passTurns", "(I)I"⟩
abbrev cX4_passOneTurn : ByteArray := prog_6_method_11_code
def yX4_passOneTurn : MethodName := ⟨RX4, "passOneTurn", "()I"⟩
abbrev cX4_wakeKittens : ByteArray := prog_6_method_12_code
def yX4_wakeKittens : MethodName := ⟨RX4, "wakeKittens", "()V"⟩
abbrev cX4_refreshKittens : ByteArray := prog_6_method_13_code
def yX4_refreshKittens : MethodName := ⟨RX4, "refreshKittens", "()V"⟩
abbrev cX4_naps : ByteArray := prog_6_method_14_code
def yX4_naps : MethodName := ⟨RX4, "naps", "(I)Z"⟩
abbrev cX4_refusal : ByteArray := prog_6_method_15_code
def yX4_refusal : MethodName := ⟨RX4, "refusal", "(II)I"⟩
abbrev cX4_cost : ByteArray := prog_6_method_16_code
def yX4_cost : MethodName := ⟨RX4, "cost", "(I)I"⟩
abbrev cX4_isHeldBack : ByteArray := prog_6_method_17_code
def yX4_isHeldBack : MethodName := ⟨RX4, "isHeldBack", "(II)Z"⟩
abbrev cX4_ballLasts : ByteArray := prog_6_method_18_code
def yX4_ballLasts : MethodName := ⟨RX4, "ballLasts", "(II)Z"⟩
abbrev cX4_makeLeap : ByteArray := prog_6_method_19_code
def yX4_makeLeap : MethodName := ⟨RX4, "makeLeap", "(II)V"⟩
abbrev cX4_edgeOnWay : ByteArray := prog_6_method_20_code
def yX4_edgeOnWay : MethodName := ⟨RX4, "edgeOnWay", "(III)I"⟩
abbrev cX4_comeOver : ByteArray := prog_6_method_21_code
def yX4_comeOver : MethodName := ⟨RX4, "comeOver", "(II)V"⟩
abbrev cX4_boundSet : ByteArray := prog_6_method_22_code
def yX4_boundSet : MethodName := ⟨RX4, "boundSet", "(I)I"⟩
abbrev cX4_boundPairs : ByteArray := prog_6_method_23_code
def yX4_boundPairs : MethodName := ⟨RX4, "boundPairs", "(I)I"⟩
abbrev cX4_reachSet : ByteArray := prog_6_method_24_code
def yX4_reachSet : MethodName := ⟨RX4, "reachSet", "(I)I"⟩
abbrev cX4_nappingSet : ByteArray := prog_6_method_25_code
def yX4_nappingSet : MethodName := ⟨RX4, "nappingSet", "()I"⟩
abbrev cX4_lastWaking : ByteArray := prog_6_method_26_code
def yX4_lastWaking : MethodName := ⟨RX4, "lastWaking", "()I"⟩
abbrev cX4_sumOfAll : ByteArray := prog_6_method_27_code
def yX4_sumOfAll : MethodName := ⟨RX4, "sumOfAll", "([I)I"⟩
def RX5 : String := "KittenStairs$Yarn"
def TX5 : u_T := fun k => match k with
  | 0 => ("KittenStairs$Yarn", "edges", "[I", true)
  | 1 => ("KittenStairs$Yarn", "owners", "[I", true)
  | _ => ("KittenStairs$Yarn", "lying", "I", false)
def tyX5 : Nat → FieldType := fun k => match k with
  | 0 => .array .int
  | 1 => .array .int
  | _ => .int
abbrev wsX50 : List Cond := u_ws RX5 TX5 3
theorem nmX5 : ∀ a, a < 3 → ∀ b, b < 3 → a ≠ b → (TX5 a).2.1 ≠ (TX5 b).2.1 := by decide +kernel
theorem tyX5_ok : ∀ k, k < 3 → parseFieldDescriptor (TX5 k).2.2.1 = some (tyX5 k) := by decide +kernel
abbrev cX5_init : ByteArray := prog_7_method_1_code
def yX5_init : MethodName := ⟨RX5, "<init>", "()V"⟩
abbrev cX5_copyFrom : ByteArray := prog_7_method_2_code
def yX5_copyFrom : MethodName := ⟨RX5, "copyFrom", "(LKittenStairs$Yarn;)V"⟩
abbrev cX5_lay : ByteArray := prog_7_method_3_code
def yX5_lay : MethodName := ⟨RX5, "lay", "(II)V"⟩
abbrev cX5_removeTop : ByteArray := prog_7_method_4_code
def yX5_removeTop : MethodName := ⟨RX5, "removeTop", "(I)V"⟩
abbrev cX5_removeAll : ByteArray := prog_7_method_5_code
def yX5_removeAll : MethodName := ⟨RX5, "removeAll", "(II)I"⟩
abbrev cX5_topOwner : ByteArray := prog_7_method_6_code
def yX5_topOwner : MethodName := ⟨RX5, "topOwner", "(I)I"⟩
abbrev cX5_ownerAt : ByteArray := prog_7_method_7_code
def yX5_ownerAt : MethodName := ⟨RX5, "ownerAt", "(II)I"⟩
abbrev cX5_lyingAt : ByteArray := prog_7_method_8_code
def yX5_lyingAt : MethodName := ⟨RX5, "lyingAt", "(I)I"⟩
abbrev cX5_lyingOf : ByteArray := prog_7_method_9_code
def yX5_lyingOf : MethodName := ⟨RX5, "lyingOf", "(I)I"⟩
abbrev cX5_ownerSetAt : ByteArray := prog_7_method_10_code
def yX5_ownerSetAt : MethodName := ⟨RX5, "ownerSetAt", "(I)I"⟩
abbrev cX5_boundEdgeSet : ByteArray := prog_7_method_11_code
def yX5_boundEdgeSet : MethodName := ⟨RX5, "boundEdgeSet", "(II)I"⟩
abbrev cX5_fewestGone : ByteArray := prog_7_method_12_code
def yX5_fewestGone : MethodName := ⟨RX5, "fewestGone", "(III)I"⟩
abbrev cX5_mostKept : ByteArray := prog_7_method_13_code
def yX5_mostKept : MethodName := ⟨RX5, "mostKept", "(III)I"⟩
def RX6 : String := "KittenStairs"
def TX6 : u_T := fun k => match k with
  | 0 => ("KittenStairs", "now", "LKittenStairs$Stairs;", true)
  | 1 => ("KittenStairs", "trial", "LKittenStairs$Stairs;", true)
  | 2 => ("KittenStairs", "history", "LKittenStairs$History;", true)
  | 3 => ("KittenStairs", "slots", "[LKittenStairs$Stairs;", true)
  | 4 => ("KittenStairs", "pad", "LKittenStairs$Pad;", true)
  | _ => ("KittenStairs", "orders", "LKittenStairs$Orders;", true)
def tyX6 : Nat → FieldType := fun k => match k with
  | 0 => .object "KittenStairs$Stairs"
  | 1 => .object "KittenStairs$Stairs"
  | 2 => .object "KittenStairs$History"
  | 3 => .array (.object "KittenStairs$Stairs")
  | 4 => .object "KittenStairs$Pad"
  | _ => .object "KittenStairs$Orders"
abbrev wsX60 : List Cond := u_ws RX6 TX6 6
theorem nmX6 : ∀ a, a < 6 → ∀ b, b < 6 → a ≠ b → (TX6 a).2.1 ≠ (TX6 b).2.1 := by decide +kernel
theorem tyX6_ok : ∀ k, k < 6 → parseFieldDescriptor (TX6 k).2.2.1 = some (tyX6 k) := by decide +kernel
abbrev cX6_init : ByteArray := prog_1_method_1_code
def yX6_init : MethodName := ⟨RX6, "<init>", "()V"⟩
abbrev cX6_set : ByteArray := prog_1_method_2_code
def yX6_set : MethodName := ⟨RX6, "set", "(II)I"⟩
abbrev cX6_kitten : ByteArray := prog_1_method_3_code
def yX6_kitten : MethodName := ⟨RX6, "kitten", "(I)I"⟩
abbrev cX6_leap : ByteArray := prog_1_method_4_code
def yX6_leap : MethodName := ⟨RX6, "leap", "(II)I"⟩
abbrev cX6_nap : ByteArray := prog_1_method_5_code
def yX6_nap : MethodName := ⟨RX6, "nap", "(I)I"⟩
abbrev cX6_snip : ByteArray := prog_1_method_6_code
def yX6_snip : MethodName := ⟨RX6, "snip", "(II)I"⟩
abbrev cX6_plan : ByteArray := prog_1_method_7_code
def yX6_plan : MethodName := ⟨RX6, "plan", "(III)I"⟩
abbrev cX6_pass : ByteArray := prog_1_method_8_code
def yX6_pass : MethodName := ⟨RX6, "pass", "(I)I"⟩
abbrev cX6_of : ByteArray := prog_1_method_9_code
def yX6_of : MethodName := ⟨RX6, "of", "(II)I"⟩
abbrev cX6_ofEdge : ByteArray := prog_1_method_10_code
def yX6_ofEdge : MethodName := ⟨RX6, "ofEdge", "(II)I"⟩
abbrev cX6_strand : ByteArray := prog_1_method_11_code
def yX6_strand : MethodName := ⟨RX6, "strand", "(II)I"⟩
abbrev cX6_bound : ByteArray := prog_1_method_12_code
def yX6_bound : MethodName := ⟨RX6, "bound", "(II)I"⟩
abbrev cX6_planned : ByteArray := prog_1_method_13_code
def yX6_planned : MethodName := ⟨RX6, "planned", "(II)I"⟩
abbrev cX6_count : ByteArray := prog_1_method_14_code
def yX6_count : MethodName := ⟨RX6, "count", "(I)I"⟩
abbrev cX6_why : ByteArray := prog_1_method_15_code
def yX6_why : MethodName := ⟨RX6, "why", "(II)I"⟩
abbrev cX6_ifLeapt : ByteArray := prog_1_method_16_code
def yX6_ifLeapt : MethodName := ⟨RX6, "ifLeapt", "(III)I"⟩
abbrev cX6_frees : ByteArray := prog_1_method_17_code
def yX6_frees : MethodName := ⟨RX6, "frees", "(II)I"⟩
abbrev cX6_quietIn : ByteArray := prog_1_method_18_code
def yX6_quietIn : MethodName := ⟨RX6, "quietIn", "()I"⟩
abbrev cX6_stepIn : ByteArray := prog_1_method_19_code
def yX6_stepIn : MethodName := ⟨RX6, "stepIn", "(II)I"⟩
abbrev cX6_thickest : ByteArray := prog_1_method_20_code
def yX6_thickest : MethodName := ⟨RX6, "thickest", "()I"⟩
abbrev cX6_put : ByteArray := prog_1_method_21_code
def yX6_put : MethodName := ⟨RX6, "put", "(J)I"⟩
abbrev cX6_wipe : ByteArray := prog_1_method_22_code
def yX6_wipe : MethodName := ⟨RX6, "wipe", "()I"⟩
abbrev cX6_fault : ByteArray := prog_1_method_23_code
def yX6_fault : MethodName := ⟨RX6, "fault", "()I"⟩
abbrev cX6_carryOut : ByteArray := prog_1_method_24_code
def yX6_carryOut : MethodName := ⟨RX6, "carryOut", "()I"⟩
abbrev cX6_undo : ByteArray := prog_1_method_25_code
def yX6_undo : MethodName := ⟨RX6, "undo", "()I"⟩
abbrev cX6_save : ByteArray := prog_1_method_26_code
def yX6_save : MethodName := ⟨RX6, "save", "(I)I"⟩
abbrev cX6_restore : ByteArray := prog_1_method_27_code
def yX6_restore : MethodName := ⟨RX6, "restore", "(I)I"⟩
abbrev cX6_settled : ByteArray := prog_1_method_28_code
def yX6_settled : MethodName := ⟨RX6, "settled", "(I)I"⟩
abbrev cX6_carryOneOut : ByteArray := prog_1_method_29_code
def yX6_carryOneOut : MethodName := ⟨RX6, "carryOneOut", "(I)I"⟩
abbrev cX6_isEdge : ByteArray := prog_1_method_30_code
def yX6_isEdge : MethodName := ⟨RX6, "isEdge", "(I)Z"⟩
abbrev cX6_isLeap : ByteArray := prog_1_method_31_code
def yX6_isLeap : MethodName := ⟨RX6, "isLeap", "(I)Z"⟩
abbrev cX6_roomAt : ByteArray := prog_1_method_32_code
def yX6_roomAt : MethodName := ⟨RX6, "roomAt", "([LKittenStairs$Stairs;I)LKittenStairs$Stairs;"⟩
def RX7 : String := "KittenStairsModel"
def TX7 : u_T := fun k => match k with
  | 0 => ("KittenStairsModel", "s", "[I", true)
  | 1 => ("KittenStairsModel", "states", "I", false)
  | 2 => ("KittenStairsModel", "isSaved", "[Z", true)
  | 3 => ("KittenStairsModel", "text", "[I", true)
  | 4 => ("KittenStairsModel", "typed", "I", false)
  | 5 => ("KittenStairsModel", "spot", "I", false)
  | 6 => ("KittenStairsModel", "kind", "C", false)
  | 7 => ("KittenStairsModel", "one", "I", false)
  | 8 => ("KittenStairsModel", "two", "I", false)
  | _ => ("KittenStairsModel", "by", "I", false)
def tyX7 : Nat → FieldType := fun k => match k with
  | 0 => .array .int
  | 1 => .int
  | 2 => .array .boolean
  | 3 => .array .int
  | 4 => .int
  | 5 => .int
  | 6 => .char
  | 7 => .int
  | 8 => .int
  | _ => .int
abbrev wsX70 : List Cond := u_ws RX7 TX7 10
theorem nmX7 : ∀ a, a < 10 → ∀ b, b < 10 → a ≠ b → (TX7 a).2.1 ≠ (TX7 b).2.1 := by decide +kernel
theorem tyX7_ok : ∀ k, k < 10 → parseFieldDescriptor (TX7 k).2.2.1 = some (tyX7 k) := by decide +kernel
abbrev cX7_init : ByteArray := prog_9_method_1_code
def yX7_init : MethodName := ⟨RX7, "<init>", "()V"⟩
abbrev cX7_in : ByteArray := prog_9_method_3_code
def yX7_in : MethodName := ⟨RX7, "in", "(JJJ)Z"⟩
abbrev cX7_copies : ByteArray := prog_9_method_4_code
def yX7_copies : MethodName := ⟨RX7, "copies", "(II)V"⟩
abbrev cX7_changes : ByteArray := prog_9_method_5_code
def yX7_changes : MethodName := ⟨RX7, "changes", "()V"⟩
abbrev cX7_size : ByteArray := prog_9_method_6_code
def yX7_size : MethodName := ⟨RX7, "size", "(I)I"⟩
abbrev cX7_kittenAt : ByteArray := prog_9_method_7_code
def yX7_kittenAt : MethodName := ⟨RX7, "kittenAt", "(II)I"⟩
abbrev cX7_planAt : ByteArray := prog_9_method_8_code
def yX7_planAt : MethodName := ⟨RX7, "planAt", "(II)I"⟩
abbrev cX7_naps : ByteArray := prog_9_method_9_code
def yX7_naps : MethodName := ⟨RX7, "naps", "(II)Z"⟩
abbrev cX7_ownerAt : ByteArray := prog_9_method_10_code
def yX7_ownerAt : MethodName := ⟨RX7, "ownerAt", "(III)I"⟩
abbrev cX7_top : ByteArray := prog_9_method_11_code
def yX7_top : MethodName := ⟨RX7, "top", "(II)I"⟩
abbrev cX7_removesStrand : ByteArray := prog_9_method_12_code
def yX7_removesStrand : MethodName := ⟨RX7, "removesStrand", "(II)V"⟩
abbrev cX7_windsBack : ByteArray := prog_9_method_13_code
def yX7_windsBack : MethodName := ⟨RX7, "windsBack", "(III)Z"⟩
abbrev cX7_crosses : ByteArray := prog_9_method_14_code
def yX7_crosses : MethodName := ⟨RX7, "crosses", "(III)V"⟩
abbrev cX7_areBoundAt : ByteArray := prog_9_method_15_code
def yX7_areBoundAt : MethodName := ⟨RX7, "areBoundAt", "(IIII)Z"⟩
abbrev cX7_boundEdges : ByteArray := prog_9_method_16_code
def yX7_boundEdges : MethodName := ⟨RX7, "boundEdges", "(III)I"⟩
abbrev cX7_boundTo : ByteArray := prog_9_method_17_code
def yX7_boundTo : MethodName := ⟨RX7, "boundTo", "(II)I"⟩
abbrev cX7_edgeOf : ByteArray := prog_9_method_18_code
def yX7_edgeOf : MethodName := ⟨RX7, "edgeOf", "(IIII)I"⟩
abbrev cX7_cost : ByteArray := prog_9_method_19_code
def yX7_cost : MethodName := ⟨RX7, "cost", "(I)I"⟩
abbrev cX7_isHeldBack : ByteArray := prog_9_method_20_code
def yX7_isHeldBack : MethodName := ⟨RX7, "isHeldBack", "(III)Z"⟩
abbrev cX7_isTooShort : ByteArray := prog_9_method_21_code
def yX7_isTooShort : MethodName := ⟨RX7, "isTooShort", "(III)Z"⟩
abbrev cX7_reason : ByteArray := prog_9_method_22_code
def yX7_reason : MethodName := ⟨RX7, "reason", "(III)I"⟩
abbrev cX7_leaps : ByteArray := prog_9_method_23_code
def yX7_leaps : MethodName := ⟨RX7, "leaps", "(III)I"⟩
abbrev cX7_turn : ByteArray := prog_9_method_24_code
def yX7_turn : MethodName := ⟨RX7, "turn", "(I)I"⟩
abbrev cX7_turns : ByteArray := prog_9_method_25_code
def yX7_turns : MethodName := ⟨RX7, "turns", "(II)I"⟩
abbrev cX7_isKitten : ByteArray := prog_9_method_26_code
def yX7_isKitten : MethodName := ⟨RX7, "isKitten", "(I)Z"⟩
abbrev cX7_isEdge : ByteArray := prog_9_method_27_code
def yX7_isEdge : MethodName := ⟨RX7, "isEdge", "(I)Z"⟩
abbrev cX7_areSteps : ByteArray := prog_9_method_28_code
def yX7_areSteps : MethodName := ⟨RX7, "areSteps", "(I)Z"⟩
abbrev cX7_kittenError : ByteArray := prog_9_method_29_code
def yX7_kittenError : MethodName := ⟨RX7, "kittenError", "(I)I"⟩
abbrev cX7_leapError : ByteArray := prog_9_method_30_code
def yX7_leapError : MethodName := ⟨RX7, "leapError", "(II)I"⟩
abbrev cX7_napError : ByteArray := prog_9_method_31_code
def yX7_napError : MethodName := ⟨RX7, "napError", "(I)I"⟩
abbrev cX7_strandsAt : ByteArray := prog_9_method_32_code
def yX7_strandsAt : MethodName := ⟨RX7, "strandsAt", "(II)I"⟩
abbrev cX7_snipError : ByteArray := prog_9_method_33_code
def yX7_snipError : MethodName := ⟨RX7, "snipError", "(II)I"⟩
abbrev cX7_planError : ByteArray := prog_9_method_34_code
def yX7_planError : MethodName := ⟨RX7, "planError", "(III)I"⟩
abbrev cX7_passError : ByteArray := prog_9_method_35_code
def yX7_passError : MethodName := ⟨RX7, "passError", "(I)I"⟩
abbrev cX7_comes : ByteArray := prog_9_method_36_code
def yX7_comes : MethodName := ⟨RX7, "comes", "(I)I"⟩
abbrev cX7_sleeps : ByteArray := prog_9_method_37_code
def yX7_sleeps : MethodName := ⟨RX7, "sleeps", "(I)I"⟩
abbrev cX7_snips : ByteArray := prog_9_method_38_code
def yX7_snips : MethodName := ⟨RX7, "snips", "(II)I"⟩
abbrev cX7_plans : ByteArray := prog_9_method_39_code
def yX7_plans : MethodName := ⟨RX7, "plans", "(III)I"⟩
abbrev cX7_isValue : ByteArray := prog_9_method_40_code
def yX7_isValue : MethodName := ⟨RX7, "isValue", "(II)Z"⟩
abbrev cX7_set : ByteArray := prog_9_method_41_code
def yX7_set : MethodName := ⟨RX7, "set", "(II)I"⟩
abbrev cX7_kitten : ByteArray := prog_9_method_42_code
def yX7_kitten : MethodName := ⟨RX7, "kitten", "(I)I"⟩
abbrev cX7_leap : ByteArray := prog_9_method_43_code
def yX7_leap : MethodName := ⟨RX7, "leap", "(II)I"⟩
abbrev cX7_nap : ByteArray := prog_9_method_44_code
def yX7_nap : MethodName := ⟨RX7, "nap", "(I)I"⟩
abbrev cX7_snip : ByteArray := prog_9_method_45_code
def yX7_snip : MethodName := ⟨RX7, "snip", "(II)I"⟩
abbrev cX7_plan : ByteArray := prog_9_method_46_code
def yX7_plan : MethodName := ⟨RX7, "plan", "(III)I"⟩
abbrev cX7_pass : ByteArray := prog_9_method_47_code
def yX7_pass : MethodName := ⟨RX7, "pass", "(I)I"⟩
abbrev cX7_ones : ByteArray := prog_9_method_48_code
def yX7_ones : MethodName := ⟨RX7, "ones", "(I)I"⟩
abbrev cX7_strandsOf : ByteArray := prog_9_method_49_code
def yX7_strandsOf : MethodName := ⟨RX7, "strandsOf", "(I)I"⟩
abbrev cX7_stepsOf : ByteArray := prog_9_method_50_code
def yX7_stepsOf : MethodName := ⟨RX7, "stepsOf", "(I)I"⟩
abbrev cX7_of : ByteArray := prog_9_method_51_code
def yX7_of : MethodName := ⟨RX7, "of", "(II)I"⟩
abbrev cX7_thickness : ByteArray := prog_9_method_52_code
def yX7_thickness : MethodName := ⟨RX7, "thickness", "(I)I"⟩
abbrev cX7_kittensAt : ByteArray := prog_9_method_53_code
def yX7_kittensAt : MethodName := ⟨RX7, "kittensAt", "(I)I"⟩
abbrev cX7_pairsAt : ByteArray := prog_9_method_54_code
def yX7_pairsAt : MethodName := ⟨RX7, "pairsAt", "(I)I"⟩
abbrev cX7_ofEdge : ByteArray := prog_9_method_55_code
def yX7_ofEdge : MethodName := ⟨RX7, "ofEdge", "(II)I"⟩
abbrev cX7_strand : ByteArray := prog_9_method_56_code
def yX7_strand : MethodName := ⟨RX7, "strand", "(II)I"⟩
abbrev cX7_bound : ByteArray := prog_9_method_57_code
def yX7_bound : MethodName := ⟨RX7, "bound", "(II)I"⟩
abbrev cX7_planned : ByteArray := prog_9_method_58_code
def yX7_planned : MethodName := ⟨RX7, "planned", "(II)I"⟩
abbrev cX7_napping : ByteArray := prog_9_method_59_code
def yX7_napping : MethodName := ⟨RX7, "napping", "()I"⟩
abbrev cX7_all : ByteArray := prog_9_method_60_code
def yX7_all : MethodName := ⟨RX7, "all", "(I)I"⟩
abbrev cX7_pairs : ByteArray := prog_9_method_61_code
def yX7_pairs : MethodName := ⟨RX7, "pairs", "()I"⟩
abbrev cX7_count : ByteArray := prog_9_method_62_code
def yX7_count : MethodName := ⟨RX7, "count", "(I)I"⟩
abbrev cX7_why : ByteArray := prog_9_method_63_code
def yX7_why : MethodName := ⟨RX7, "why", "(II)I"⟩
abbrev cX7_ifLeapt : ByteArray := prog_9_method_64_code
def yX7_ifLeapt : MethodName := ⟨RX7, "ifLeapt", "(III)I"⟩
abbrev cX7_sorting : ByteArray := prog_9_method_65_code
def yX7_sorting : MethodName := ⟨RX7, "sorting", "(III)I"⟩
abbrev cX7_frees : ByteArray := prog_9_method_66_code
def yX7_frees : MethodName := ⟨RX7, "frees", "(II)I"⟩
abbrev cX7_quietIn : ByteArray := prog_9_method_67_code
def yX7_quietIn : MethodName := ⟨RX7, "quietIn", "()I"⟩
abbrev cX7_stepIn : ByteArray := prog_9_method_68_code
def yX7_stepIn : MethodName := ⟨RX7, "stepIn", "(II)I"⟩
abbrev cX7_thickest : ByteArray := prog_9_method_69_code
def yX7_thickest : MethodName := ⟨RX7, "thickest", "()I"⟩
abbrev cX7_charactersOf : ByteArray := prog_9_method_70_code
def yX7_charactersOf : MethodName := ⟨RX7, "charactersOf", "(J)I"⟩
abbrev cX7_put : ByteArray := prog_9_method_71_code
def yX7_put : MethodName := ⟨RX7, "put", "(J)I"⟩
abbrev cX7_wipe : ByteArray := prog_9_method_72_code
def yX7_wipe : MethodName := ⟨RX7, "wipe", "()I"⟩
abbrev cX7_isHere : ByteArray := prog_9_method_73_code
def yX7_isHere : MethodName := ⟨RX7, "isHere", "(II)Z"⟩
abbrev cX7_takes : ByteArray := prog_9_method_74_code
def yX7_takes : MethodName := ⟨RX7, "takes", "(I)Z"⟩
abbrev cX7_digit : ByteArray := prog_9_method_75_code
def yX7_digit : MethodName := ⟨RX7, "digit", "()I"⟩
abbrev cX7_number : ByteArray := prog_9_method_76_code
def yX7_number : MethodName := ⟨RX7, "number", "()I"⟩
abbrev cX7_readsBy : ByteArray := prog_9_method_77_code
def yX7_readsBy : MethodName := ⟨RX7, "readsBy", "()Z"⟩
abbrev cX7_readsKitten : ByteArray := prog_9_method_78_code
def yX7_readsKitten : MethodName := ⟨RX7, "readsKitten", "()Z"⟩
abbrev cX7_readsNumber : ByteArray := prog_9_method_79_code
def yX7_readsNumber : MethodName := ⟨RX7, "readsNumber", "()Z"⟩
abbrev cX7_readsOrder : ByteArray := prog_9_method_80_code
def yX7_readsOrder : MethodName := ⟨RX7, "readsOrder", "()Z"⟩
abbrev cX7_fault : ByteArray := prog_9_method_81_code
def yX7_fault : MethodName := ⟨RX7, "fault", "()I"⟩
abbrev cX7_orderError : ByteArray := prog_9_method_82_code
def yX7_orderError : MethodName := ⟨RX7, "orderError", "()I"⟩
abbrev cX7_does : ByteArray := prog_9_method_83_code
def yX7_does : MethodName := ⟨RX7, "does", "()I"⟩
abbrev cX7_carryOut : ByteArray := prog_9_method_84_code
def yX7_carryOut : MethodName := ⟨RX7, "carryOut", "()I"⟩
abbrev cX7_undo : ByteArray := prog_9_method_85_code
def yX7_undo : MethodName := ⟨RX7, "undo", "()I"⟩
abbrev cX7_isSlot : ByteArray := prog_9_method_86_code
def yX7_isSlot : MethodName := ⟨RX7, "isSlot", "(I)Z"⟩
abbrev cX7_save : ByteArray := prog_9_method_87_code
def yX7_save : MethodName := ⟨RX7, "save", "(I)I"⟩
abbrev cX7_restore : ByteArray := prog_9_method_88_code
def yX7_restore : MethodName := ⟨RX7, "restore", "(I)I"⟩
def RJ9 : String := "java/lang/Math"
def TJ9 : u_T := fun k => match k with
  | _ => ("", "", "", false)
def tyJ9 : Nat → FieldType := fun k => match k with
  | _ => .int
abbrev cJ9_abs_0f7a4 : ByteArray := prog_10_method_59_code
def yJ9_abs_0f7a4 : MethodName := ⟨RJ9, "abs", "(I)I"⟩
abbrev cJ9_max_7cf53 : ByteArray := prog_10_method_65_code
def yJ9_max_7cf53 : MethodName := ⟨RJ9, "max", "(II)I"⟩
def RJ10 : String := "java/lang/System"
def TJ10 : u_T := fun k => match k with
  | _ => ("", "", "", false)
def tyJ10 : Nat → FieldType := fun k => match k with
  | _ => .int
def RL : String := "KittenStairsLaw"
abbrev cL_law : ByteArray := code
def yL_law : MethodName := ⟨RL, "law", "([I)Z"⟩
abbrev vwCl : List vw_C := [(RX0, TX0, 3), (RX1, TX1, 4), (RX2, TX2, 2), (RX3, TX3, 4), (RX4, TX4, 14), (RX5, TX5, 3), (RX6, TX6, 6), (RX7, TX7, 10)]
def ks_nm : List (String × Nat × MethodName × String) := [(RX4, 51, yX5_init, RX6), (RX4, 58, yX3_init, RX6), (RX6, 21, yX0_init, RX6), (RX6, 32, yX2_init, RX6), (RX6, 39, yX1_init, RX6), (RX0, 24, yX6_roomAt, RX6), (RX4, 89, yX6_isLeap, RX6), (RX4, 103, yX6_isEdge, RX6)]
def ks_nf : List (String × Nat × String × String × String × String) := [(RX4, 63, RX6, "FIRST_VALUE", "[I", RX6), (RX4, 79, RX6, "LOWEST", "[I", RX6), (RX4, 82, RX6, "HIGHEST", "[I", RX6)]
end
section

/-! THE ABSTRACT HEAP: the cells that the law's run makes, in the order in which they are made: cell i lies at the address z + i -/
abbrev ks_H : Type := List va_E
/-- z; the classes; the classes of int[], boolean[] and Stairs[]; the addresses of the three static rows -/
abbrev ks_G : Type := Nat × va_G × (ClassId × ClassId × ClassId) × (Nat × Nat × Nat)
def ks_ref (g : ks_G) (i : Nat) : Value := .ref (g.1 + i)
def ks_I (g : ks_G) (n : Nat) (f : Nat → Int32) : va_E := .inl (g.2.2.1.1, (n, .inl f))
def ks_Z (g : ks_G) (n : Nat) (f : Nat → Int32) : va_E := .inl (g.2.2.1.2.1, (n, .inl f))
def ks_S (g : ks_G) (n : Nat) (f : Nat → Option Nat) : va_E := .inl (g.2.2.1.2.2, (n, .inr (.inr (.inr (.inr (fun k => (f k).map (fun i => g.1 + i)))))))
def ks_O (ci : Nat) (fs : List Value) : va_E := .inr (ci, fs)
def ks_tys (g : ks_G) : List (ClassId × FieldType) := [(g.2.2.1.1, .int), (g.2.2.1.2.1, .boolean), (g.2.2.1.2.2, .object RX4)]
def ks_A (g : ks_G) : Nat → Prop := fun q => g.1 ≤ q
def ks_wl (z : Nat) (h : ks_H) : va_W := h.mapIdx (fun i e => (z + i, e))
theorem ks_wl_get {z : Nat} {h : ks_H} {i : Nat} {e : va_E} (hi : h[i]? = some e) : (ks_wl z h)[i]? = some (z + i, e) := by
  simp [ks_wl, hi]
theorem ks_wl_inv {z : Nat} {h : ks_H} {i : Nat} {q : Nat × va_E} (hi : (ks_wl z h)[i]? = some q) : ∃ e, h[i]? = some e ∧ q = (z + i, e) := by
  simp only [ks_wl, List.getElem?_mapIdx, Option.map_eq_some_iff] at hi
  obtain ⟨e, h1, h2⟩ := hi
  exact ⟨e, h1, h2.symm⟩
theorem ks_wl_set {z : Nat} {h : ks_H} {i : Nat} {e : va_E} : (ks_wl z h).set i (z + i, e) = ks_wl z (h.set i e) := by
  simp [ks_wl, List.mapIdx_set]
theorem ks_wl_push {z : Nat} {h : ks_H} {e : va_E} : ks_wl z h ++ [(z + h.length, e)] = ks_wl z (h ++ [e]) := by
  simp [ks_wl, List.mapIdx_append]
theorem ks_wl_D {g : ks_G} {h : ks_H} : va_D (ks_A g) (ks_wl g.1 h) := by
  refine ⟨fun i j p q hi hj hpq => ?_, fun k q hk => ?_⟩
  · obtain ⟨e1, -, rfl⟩ := ks_wl_inv hi
    obtain ⟨e2, -, rfl⟩ := ks_wl_inv hj
    have : g.1 + i = g.1 + j := hpq
    omega
  · obtain ⟨e1, -, rfl⟩ := ks_wl_inv hk
    exact Nat.le_add_right _ _
def ks_R (g : ks_G) (h : ks_H) (H : Heap) : Prop := H.size = g.1 + h.length ∧ va_P g.2.1 vwCl (ks_wl g.1 h) H
def ks_St1 (g : ks_G) (nm : String) (a : Nat) (vs : List Int32) (U : State) (H : Heap) : Prop := va_Z RX6 nm "[I" (.ref a) (ks_A g) U H ∧ va_T .int a 4 (fun j => .int (vs.getD j 0)) (ks_A g) U H
def ks_St (g : ks_G) (U : State) (H : Heap) : Prop := ks_St1 g "FIRST_VALUE" g.2.2.2.1 [3, 4, 5, 14] U H ∧ ks_St1 g "LOWEST" g.2.2.2.2.1 [1, 0, 1, 2] U H ∧ ks_St1 g "HIGHEST" g.2.2.2.2.2 [8, 15, 30, 60] U H
theorem ks_St1.moved {g : ks_G} {nm : String} {a : Nat} {vs : List Int32} {u U : State} {H : Heap} (hvm : u.vm.Alike U.vm) (x : ks_St1 g nm a vs u H) : ks_St1 g nm a vs U H := ⟨x.1.moved hvm, x.2.moved hvm⟩
theorem ks_St1.kept {g : ks_G} {nm : String} {a : Nat} {vs : List Int32} {U : State} {H H1 : Heap} (x : ks_St1 g nm a vs U H) (hq : ∀ a : Nat, a < H.size → ¬ ks_A g a → H1[a]? = H[a]?) : ks_St1 g nm a vs U H1 := ⟨x.1.kept hq, x.2.kept hq⟩
theorem ks_St.moved {g : ks_G} {u U : State} {H : Heap} (hvm : u.vm.Alike U.vm) (x : ks_St g u H) : ks_St g U H := ⟨x.1.moved hvm, x.2.1.moved hvm, x.2.2.moved hvm⟩
theorem ks_St.kept {g : ks_G} {U : State} {H H1 : Heap} (x : ks_St g U H) (hq : ∀ a : Nat, a < H.size → ¬ ks_A g a → H1[a]? = H[a]?) : ks_St g U H1 := ⟨x.1.kept hq, x.2.1.kept hq, x.2.2.kept hq⟩
/-- the words that every call hands on -/
def lw_g : List Cond := lw_tbl.filter goodWord
theorem ks_mg {w : Cond} (i : Nat) (hi : lw_tbl[i]? = some w) (hg : goodWord w = true) : w ∈ lw_g := List.mem_filter.mpr ⟨List.mem_of_getElem? hi, hg⟩
def ks_Nw (U : State) : Prop := (∀ q ∈ ks_nm, va_Nw (.methodLinkNest q.1 q.2.1 q.2.2.1 q.2.2.2) U) ∧ (∀ q ∈ ks_nf, va_Nw (.fieldLinkNest q.1 q.2.1 q.2.2.1 q.2.2.2.1 q.2.2.2.2.1 q.2.2.2.2.2) U) ∧ va_AO RX4 U
theorem ks_Nw.warm {s U : State} (hW : s.WarmedH U.vm) (x : ks_Nw s) : ks_Nw U := ⟨fun q hq => (x.1 q hq).warmM hW, fun q hq => (x.2.1 q hq).warmF hW, x.2.2.moved hW.alike⟩
theorem ks_Nw.same {u U : State} (hv : u.vm = U.vm) (x : ks_Nw u) : ks_Nw U := ⟨fun q hq => (x.1 q hq).same rfl hv, fun q hq => (x.2.1 q hq).same rfl hv, x.2.2.moved (hv ▸ Vm.Alike.refl u.vm)⟩
/-- the world at a state -/
def ks_W (g : ks_G) (h : ks_H) (U : State) : Prop := ks_R g h U.heap ∧ va_K g.2.1 vwCl (ks_tys g) U ∧ ks_St g U U.heap ∧ ks_Nw U
abbrev ks_C : Type := Program × Launch × Env × Room × State × MethodId × Array Value × List Frame × Method × Code × (State → Prop)
/-- the machine stands at pc with these locals and this stack, over the abstract heap h; k cells and n slots were made; it comes to its end -/
def ks_K (κ : ks_C) (g : ks_G) (nL : Nat) (h : ks_H) (k n pc : Nat) (ls : List (Nat × Value)) (st : List Value) : Prop :=
  match κ with
  | (p, l, e, R, s, m, args, below, meth, c, Q) => ∀ (H : Heap) (locs : List Loc) (la : Array Slot), ks_R g h H → va_S (ks_A g) s.heap H locs → lv_has la nL ls → W p l e R s m args below meth c H locs k n Q (F0 m pc la st)
def ks_Ok (κ : ks_C) (g : ks_G) (own nm : String) (cc : ByteArray) (nL d mc ms : Nat) : Prop :=
  match κ with
  | (p, _, _, R, s, m, args, _, meth, c, _) => p.tables.exec = Jvm.exec ∧ c.code = cc ∧ c.maxLocals = nL ∧ s.vm.findClass own = some m.cls ∧ (∀ w ∈ lw_g, w.before args s = true) ∧ meth.name = nm ∧ R.frames = d ∧ 40 * d ≤ R.locals ∧ R.cells = mc ∧ R.slots = ms ∧ va_K g.2.1 vwCl (ks_tys g) s ∧ ks_St g s s.heap ∧ ks_Nw s ∧ g.1 ≤ s.heap.size
def ks_Q (g : ks_G) (Post : Option Value → ks_H → Prop) : Array Value → State → Outcome → State → Prop := fun _ st o t => (∃ (v : Option Value) (h' : ks_H), o = .returned v ∧ Post v h' ∧ ks_R g h' t.heap) ∧ va_F (ks_A g) st t
def ks_Rt (κ : ks_C) (g : ks_G) (ret : Option FieldType) (mc ms : Nat) (Post : Option Value → ks_H → Prop) : Prop :=
  match κ with
  | (_, _, _, _, s, _, args, below, meth, _, Q) => meth.sig.returnType = ret ∧ meth.locks = false ∧ Q = MQ below (ks_Q g Post) args s mc ms (ks_A g)
abbrev ks_M : Type := MethodName × ByteArray × Nat × Option FieldType
def ks_room (d mc ms : Nat) : Room := { frames := d, cells := mc, slots := ms, locals := 40 * d }
/-- method M, called with these arguments over h, comes to its end with an answer and a heap of which Post holds -/
def ks_Met (g : ks_G) (M : ks_M) (d mc ms : Nat) (av : List Value) (h : ks_H) (Post : Option Value → ks_H → Prop) : Prop :=
  ∀ l : Launch, Met l M.1 (.code M.1 M.2.1 M.2.2.1 M.2.2.2 :: lw_g) (ks_room d mc ms) (va_Pc av (ks_W g h)) (ks_Q g Post) mc ms (ks_A g)
theorem ks_good {y : MethodName} {cc : ByteArray} {nL : Nat} {ret : Option FieldType} (hc : Cond.code y cc nL ret ∈ lw_g) : GoodIn lw_g (.code y cc nL ret :: lw_g) := by
  intro w hw
  rcases List.mem_cons.mp hw with rfl | hw
  · exact ⟨hc, good_of_word (List.mem_filter.mp hc).2⟩
  · exact ⟨hw, good_of_word (List.mem_filter.mp hw).2⟩
theorem ks_intro {g : ks_G} {y : MethodName} {cc : ByteArray} {nL : Nat} {ret : Option FieldType} {d mc ms : Nat} {av : List Value} {h : ks_H} {Post : Option Value → ks_H → Prop} (hy : plainName y.cls = true) (hnl : (lg_sl av).length ≤ nL)
    (kk : ∀ κ : ks_C, ks_Ok κ g y.cls y.name cc nL d mc ms → ks_Rt κ g ret mc ms Post → ks_K κ g nL h 0 0 0 (lv_args 0 av) []) : ks_Met g (y, cc, nL, ret) d mc ms av h Post := by
  intro l
  refine Met.ofW (cc := cc) (maxL := nL) (ret := ret) hy rfl ?_
  intro p e s m args below meth c s₁ B hml hv
  obtain ⟨rfl, hR, hK, hSt, hNw⟩ := hv
  have hts := atoms_spec (ws := .code y cc nL ret :: lw_g) B.pre
  have hown : s.vm.findClass y.cls = some m.cls := findClass_of_methodNamed B.named
  have hin : meth.name = y.name := (name_of_methodNamed B.named B.method).1
  have hl := lv_entry av hnl
  rw [lg_entry_eq]
  exact kk (p, l, e, _, s, m, _, below, meth, c, _) ⟨B.exec, B.bytes, hml, hown, fun w hw => hts w (List.mem_cons_of_mem _ hw), hin, rfl, Nat.le_refl _, rfl, rfl, hK, hSt, hNw, by rw [hR.1]; exact Nat.le_add_right _ _⟩ ⟨B.returns, B.notSynchronized, rfl⟩ s.heap [] _ hR va_S.rf hl
section KSR
variable {κ : ks_C} {g : ks_G} {own nm : String} {cc : ByteArray} {nL d mc ms k n : Nat} {h : ks_H} {ls : List (Nat × Value)} {st : List Value}
theorem ks_iconst (hκ : ks_Ok κ g own nm cc nL d mc ms) (pc : Nat) {q : Int} (v : Int32) (hd : decode cc pc = .ok (.iconst q, 1)) (hv : Int32.ofInt q = v) (kk : ks_K κ g nL h k n (pc + 1) ls (.int v :: st)) : ks_K κ g nL h k n pc ls st := by
  obtain ⟨p, l, e, R, s, m, args, below, meth, c, Q⟩ := κ
  obtain ⟨hx, hb, hml, hown, hts, hin, hfr, hlo, hce, hsl, hK, hSt, hNw, hz⟩ := hκ
  exact fun H locs la hR hS hl => lv_iconst hx hb hd hv (kk H locs la hR hS hl)
theorem ks_bipush (hκ : ks_Ok κ g own nm cc nL d mc ms) (pc : Nat) {q : Int} (v : Int32) (hd : decode cc pc = .ok (.bipush q, 2)) (hv : (Int8.ofInt q).toInt32 = v) (kk : ks_K κ g nL h k n (pc + 2) ls (.int v :: st)) : ks_K κ g nL h k n pc ls st := by
  obtain ⟨p, l, e, R, s, m, args, below, meth, c, Q⟩ := κ
  obtain ⟨hx, hb, hml, hown, hts, hin, hfr, hlo, hce, hsl, hK, hSt, hNw, hz⟩ := hκ
  exact fun H locs la hR hS hl => lv_bipush hx hb hd hv (kk H locs la hR hS hl)
theorem ks_sipush (hκ : ks_Ok κ g own nm cc nL d mc ms) (pc : Nat) {q : Int} (v : Int32) (hd : decode cc pc = .ok (.sipush q, 3)) (hv : (Int16.ofInt q).toInt32 = v) (kk : ks_K κ g nL h k n (pc + 3) ls (.int v :: st)) : ks_K κ g nL h k n pc ls st := by
  obtain ⟨p, l, e, R, s, m, args, below, meth, c, Q⟩ := κ
  obtain ⟨hx, hb, hml, hown, hts, hin, hfr, hlo, hce, hsl, hK, hSt, hNw, hz⟩ := hκ
  exact fun H locs la hR hS hl => lv_sipush hx hb hd hv (kk H locs la hR hS hl)
theorem ks_lconst (hκ : ks_Ok κ g own nm cc nL d mc ms) (pc : Nat) {q : Fin 2} (v : Int64) (hd : decode cc pc = .ok (.lconst q, 1)) (hv : Int64.ofNat (q : Nat) = v) (kk : ks_K κ g nL h k n (pc + 1) ls (.long v :: st)) : ks_K κ g nL h k n pc ls st := by
  obtain ⟨p, l, e, R, s, m, args, below, meth, c, Q⟩ := κ
  obtain ⟨hx, hb, hml, hown, hts, hin, hfr, hlo, hce, hsl, hK, hSt, hNw, hz⟩ := hκ
  exact fun H locs la hR hS hl => lv_lconst hx hb hd hv (kk H locs la hR hS hl)
theorem ks_iadd (hκ : ks_Ok κ g own nm cc nL d mc ms) (pc : Nat) {x y : Int32} (hd : decode cc pc = .ok (.iadd, 1))  (kk : ks_K κ g nL h k n (pc + 1) ls (.int (x + y) :: st)) : ks_K κ g nL h k n pc ls (.int y :: .int x :: st) := by
  obtain ⟨p, l, e, R, s, m, args, below, meth, c, Q⟩ := κ
  obtain ⟨hx, hb, hml, hown, hts, hin, hfr, hlo, hce, hsl, hK, hSt, hNw, hz⟩ := hκ
  exact fun H locs la hR hS hl => lv_iadd hx hb hd  (kk H locs la hR hS hl)
theorem ks_isub (hκ : ks_Ok κ g own nm cc nL d mc ms) (pc : Nat) {x y : Int32} (hd : decode cc pc = .ok (.isub, 1))  (kk : ks_K κ g nL h k n (pc + 1) ls (.int (x - y) :: st)) : ks_K κ g nL h k n pc ls (.int y :: .int x :: st) := by
  obtain ⟨p, l, e, R, s, m, args, below, meth, c, Q⟩ := κ
  obtain ⟨hx, hb, hml, hown, hts, hin, hfr, hlo, hce, hsl, hK, hSt, hNw, hz⟩ := hκ
  exact fun H locs la hR hS hl => lv_isub hx hb hd  (kk H locs la hR hS hl)
theorem ks_imul (hκ : ks_Ok κ g own nm cc nL d mc ms) (pc : Nat) {x y : Int32} (hd : decode cc pc = .ok (.imul, 1))  (kk : ks_K κ g nL h k n (pc + 1) ls (.int (x * y) :: st)) : ks_K κ g nL h k n pc ls (.int y :: .int x :: st) := by
  obtain ⟨p, l, e, R, s, m, args, below, meth, c, Q⟩ := κ
  obtain ⟨hx, hb, hml, hown, hts, hin, hfr, hlo, hce, hsl, hK, hSt, hNw, hz⟩ := hκ
  exact fun H locs la hR hS hl => lv_imul hx hb hd  (kk H locs la hR hS hl)
theorem ks_iand (hκ : ks_Ok κ g own nm cc nL d mc ms) (pc : Nat) {x y : Int32} (hd : decode cc pc = .ok (.iand, 1))  (kk : ks_K κ g nL h k n (pc + 1) ls (.int (x &&& y) :: st)) : ks_K κ g nL h k n pc ls (.int y :: .int x :: st) := by
  obtain ⟨p, l, e, R, s, m, args, below, meth, c, Q⟩ := κ
  obtain ⟨hx, hb, hml, hown, hts, hin, hfr, hlo, hce, hsl, hK, hSt, hNw, hz⟩ := hκ
  exact fun H locs la hR hS hl => lv_iand hx hb hd  (kk H locs la hR hS hl)
theorem ks_ior (hκ : ks_Ok κ g own nm cc nL d mc ms) (pc : Nat) {x y : Int32} (hd : decode cc pc = .ok (.ior, 1))  (kk : ks_K κ g nL h k n (pc + 1) ls (.int (x ||| y) :: st)) : ks_K κ g nL h k n pc ls (.int y :: .int x :: st) := by
  obtain ⟨p, l, e, R, s, m, args, below, meth, c, Q⟩ := κ
  obtain ⟨hx, hb, hml, hown, hts, hin, hfr, hlo, hce, hsl, hK, hSt, hNw, hz⟩ := hκ
  exact fun H locs la hR hS hl => lv_ior hx hb hd  (kk H locs la hR hS hl)
theorem ks_ixor (hκ : ks_Ok κ g own nm cc nL d mc ms) (pc : Nat) {x y : Int32} (hd : decode cc pc = .ok (.ixor, 1))  (kk : ks_K κ g nL h k n (pc + 1) ls (.int (x ^^^ y) :: st)) : ks_K κ g nL h k n pc ls (.int y :: .int x :: st) := by
  obtain ⟨p, l, e, R, s, m, args, below, meth, c, Q⟩ := κ
  obtain ⟨hx, hb, hml, hown, hts, hin, hfr, hlo, hce, hsl, hK, hSt, hNw, hz⟩ := hκ
  exact fun H locs la hR hS hl => lv_ixor hx hb hd  (kk H locs la hR hS hl)
theorem ks_idiv (hκ : ks_Ok κ g own nm cc nL d mc ms) (pc : Nat) {x y : Int32} (hd : decode cc pc = .ok (.idiv, 1)) (hy : ¬ y = 0) (kk : ks_K κ g nL h k n (pc + 1) ls (.int (x / y) :: st)) : ks_K κ g nL h k n pc ls (.int y :: .int x :: st) := by
  obtain ⟨p, l, e, R, s, m, args, below, meth, c, Q⟩ := κ
  obtain ⟨hx, hb, hml, hown, hts, hin, hfr, hlo, hce, hsl, hK, hSt, hNw, hz⟩ := hκ
  exact fun H locs la hR hS hl => lv_idiv hx hb hd hy (kk H locs la hR hS hl)
theorem ks_irem (hκ : ks_Ok κ g own nm cc nL d mc ms) (pc : Nat) {x y : Int32} (hd : decode cc pc = .ok (.irem, 1)) (hy : ¬ y = 0) (kk : ks_K κ g nL h k n (pc + 1) ls (.int (x - (x / y) * y) :: st)) : ks_K κ g nL h k n pc ls (.int y :: .int x :: st) := by
  obtain ⟨p, l, e, R, s, m, args, below, meth, c, Q⟩ := κ
  obtain ⟨hx, hb, hml, hown, hts, hin, hfr, hlo, hce, hsl, hK, hSt, hNw, hz⟩ := hκ
  exact fun H locs la hR hS hl => lv_irem hx hb hd hy (kk H locs la hR hS hl)
theorem ks_ineg (hκ : ks_Ok κ g own nm cc nL d mc ms) (pc : Nat) {x : Int32} (hd : decode cc pc = .ok (.ineg, 1))  (kk : ks_K κ g nL h k n (pc + 1) ls (.int (0 - x) :: st)) : ks_K κ g nL h k n pc ls (.int x :: st) := by
  obtain ⟨p, l, e, R, s, m, args, below, meth, c, Q⟩ := κ
  obtain ⟨hx, hb, hml, hown, hts, hin, hfr, hlo, hce, hsl, hK, hSt, hNw, hz⟩ := hκ
  exact fun H locs la hR hS hl => lv_ineg hx hb hd  (kk H locs la hR hS hl)
theorem ks_land (hκ : ks_Ok κ g own nm cc nL d mc ms) (pc : Nat) {x y : Int64} (hd : decode cc pc = .ok (.land, 1))  (kk : ks_K κ g nL h k n (pc + 1) ls (.long (x &&& y) :: st)) : ks_K κ g nL h k n pc ls (.long y :: .long x :: st) := by
  obtain ⟨p, l, e, R, s, m, args, below, meth, c, Q⟩ := κ
  obtain ⟨hx, hb, hml, hown, hts, hin, hfr, hlo, hce, hsl, hK, hSt, hNw, hz⟩ := hκ
  exact fun H locs la hR hS hl => lv_land hx hb hd  (kk H locs la hR hS hl)
theorem ks_lor (hκ : ks_Ok κ g own nm cc nL d mc ms) (pc : Nat) {x y : Int64} (hd : decode cc pc = .ok (.lor, 1))  (kk : ks_K κ g nL h k n (pc + 1) ls (.long (x ||| y) :: st)) : ks_K κ g nL h k n pc ls (.long y :: .long x :: st) := by
  obtain ⟨p, l, e, R, s, m, args, below, meth, c, Q⟩ := κ
  obtain ⟨hx, hb, hml, hown, hts, hin, hfr, hlo, hce, hsl, hK, hSt, hNw, hz⟩ := hκ
  exact fun H locs la hR hS hl => lv_lor hx hb hd  (kk H locs la hR hS hl)
theorem ks_ishl (hκ : ks_Ok κ g own nm cc nL d mc ms) (pc : Nat) {x y : Int32} (hd : decode cc pc = .ok (.ishl, 1))  (kk : ks_K κ g nL h k n (pc + 1) ls (.int (x <<< (y &&& 31)) :: st)) : ks_K κ g nL h k n pc ls (.int y :: .int x :: st) := by
  obtain ⟨p, l, e, R, s, m, args, below, meth, c, Q⟩ := κ
  obtain ⟨hx, hb, hml, hown, hts, hin, hfr, hlo, hce, hsl, hK, hSt, hNw, hz⟩ := hκ
  exact fun H locs la hR hS hl => lv_ishl hx hb hd  (kk H locs la hR hS hl)
theorem ks_ishr (hκ : ks_Ok κ g own nm cc nL d mc ms) (pc : Nat) {x y : Int32} (hd : decode cc pc = .ok (.ishr, 1))  (kk : ks_K κ g nL h k n (pc + 1) ls (.int (x >>> (y &&& 31)) :: st)) : ks_K κ g nL h k n pc ls (.int y :: .int x :: st) := by
  obtain ⟨p, l, e, R, s, m, args, below, meth, c, Q⟩ := κ
  obtain ⟨hx, hb, hml, hown, hts, hin, hfr, hlo, hce, hsl, hK, hSt, hNw, hz⟩ := hκ
  exact fun H locs la hR hS hl => lv_ishr hx hb hd  (kk H locs la hR hS hl)
theorem ks_i2l (hκ : ks_Ok κ g own nm cc nL d mc ms) (pc : Nat) {x : Int32} (hd : decode cc pc = .ok (.i2l, 1))  (kk : ks_K κ g nL h k n (pc + 1) ls (.long x.toInt64 :: st)) : ks_K κ g nL h k n pc ls (.int x :: st) := by
  obtain ⟨p, l, e, R, s, m, args, below, meth, c, Q⟩ := κ
  obtain ⟨hx, hb, hml, hown, hts, hin, hfr, hlo, hce, hsl, hK, hSt, hNw, hz⟩ := hκ
  exact fun H locs la hR hS hl => lv_i2l hx hb hd rfl (kk H locs la hR hS hl)
theorem ks_l2i (hκ : ks_Ok κ g own nm cc nL d mc ms) (pc : Nat) {x : Int64} (hd : decode cc pc = .ok (.l2i, 1))  (kk : ks_K κ g nL h k n (pc + 1) ls (.int x.toInt32 :: st)) : ks_K κ g nL h k n pc ls (.long x :: st) := by
  obtain ⟨p, l, e, R, s, m, args, below, meth, c, Q⟩ := κ
  obtain ⟨hx, hb, hml, hown, hts, hin, hfr, hlo, hce, hsl, hK, hSt, hNw, hz⟩ := hκ
  exact fun H locs la hR hS hl => lv_l2i hx hb hd rfl (kk H locs la hR hS hl)
theorem ks_i2c (hκ : ks_Ok κ g own nm cc nL d mc ms) (pc : Nat) {x : Int32} (hd : decode cc pc = .ok (.i2c, 1))  (kk : ks_K κ g nL h k n (pc + 1) ls (.int (x.toUInt32 % 65536).toInt32 :: st)) : ks_K κ g nL h k n pc ls (.int x :: st) := by
  obtain ⟨p, l, e, R, s, m, args, below, meth, c, Q⟩ := κ
  obtain ⟨hx, hb, hml, hown, hts, hin, hfr, hlo, hce, hsl, hK, hSt, hNw, hz⟩ := hκ
  exact fun H locs la hR hS hl => lv_i2c hx hb hd rfl (kk H locs la hR hS hl)
theorem ks_lushr (hκ : ks_Ok κ g own nm cc nL d mc ms) (pc : Nat) {x : Int64} {y : Int32} (hd : decode cc pc = .ok (.lushr, 1))  (kk : ks_K κ g nL h k n (pc + 1) ls (.long (x.toUInt64 >>> (y.toInt64.toUInt64 &&& Int64.toUInt64 63)).toInt64 :: st)) : ks_K κ g nL h k n pc ls (.int y :: .long x :: st) := by
  obtain ⟨p, l, e, R, s, m, args, below, meth, c, Q⟩ := κ
  obtain ⟨hx, hb, hml, hown, hts, hin, hfr, hlo, hce, hsl, hK, hSt, hNw, hz⟩ := hκ
  exact fun H locs la hR hS hl => lv_lushr hx hb hd rfl (kk H locs la hR hS hl)
theorem ks_lshl (hκ : ks_Ok κ g own nm cc nL d mc ms) (pc : Nat) {x : Int64} {y : Int32} (hd : decode cc pc = .ok (.lshl, 1))  (kk : ks_K κ g nL h k n (pc + 1) ls (.long (x <<< (y.toInt64 &&& 63)) :: st)) : ks_K κ g nL h k n pc ls (.int y :: .long x :: st) := by
  obtain ⟨p, l, e, R, s, m, args, below, meth, c, Q⟩ := κ
  obtain ⟨hx, hb, hml, hown, hts, hin, hfr, hlo, hce, hsl, hK, hSt, hNw, hz⟩ := hκ
  exact fun H locs la hR hS hl => lv_lshl hx hb hd rfl (kk H locs la hR hS hl)
theorem ks_lcmp (hκ : ks_Ok κ g own nm cc nL d mc ms) (pc : Nat) {x y : Int64} (hd : decode cc pc = .ok (.lcmp, 1))  (kk : ks_K κ g nL h k n (pc + 1) ls (.int (lg_cmp x y) :: st)) : ks_K κ g nL h k n pc ls (.long y :: .long x :: st) := by
  obtain ⟨p, l, e, R, s, m, args, below, meth, c, Q⟩ := κ
  obtain ⟨hx, hb, hml, hown, hts, hin, hfr, hlo, hce, hsl, hK, hSt, hNw, hz⟩ := hκ
  exact fun H locs la hR hS hl => W.lcmp hx hb hd  (kk H locs la hR hS hl)
theorem ks_dup (hκ : ks_Ok κ g own nm cc nL d mc ms) (pc : Nat) {v : Value} (hd : decode cc pc = .ok (.dup, 1)) (hv : v.category = 1) (kk : ks_K κ g nL h k n (pc + 1) ls (v :: v :: st)) : ks_K κ g nL h k n pc ls (v :: st) := by
  obtain ⟨p, l, e, R, s, m, args, below, meth, c, Q⟩ := κ
  obtain ⟨hx, hb, hml, hown, hts, hin, hfr, hlo, hce, hsl, hK, hSt, hNw, hz⟩ := hκ
  exact fun H locs la hR hS hl => lv_dup hx hb hd hv (kk H locs la hR hS hl)
theorem ks_pop (hκ : ks_Ok κ g own nm cc nL d mc ms) (pc : Nat) {v : Value} (hd : decode cc pc = .ok (.pop, 1)) (hv : v.category = 1) (kk : ks_K κ g nL h k n (pc + 1) ls st) : ks_K κ g nL h k n pc ls (v :: st) := by
  obtain ⟨p, l, e, R, s, m, args, below, meth, c, Q⟩ := κ
  obtain ⟨hx, hb, hml, hown, hts, hin, hfr, hlo, hce, hsl, hK, hSt, hNw, hz⟩ := hκ
  exact fun H locs la hR hS hl => lv_pop hx hb hd hv (kk H locs la hR hS hl)
theorem ks_dup2 (hκ : ks_Ok κ g own nm cc nL d mc ms) (pc : Nat) {va vb : Value} (hd : decode cc pc = .ok (.dup2, 1)) (hva : va.category = 1) (hvb : vb.category = 1) (kk : ks_K κ g nL h k n (pc + 1) ls (va :: vb :: va :: vb :: st)) : ks_K κ g nL h k n pc ls (va :: vb :: st) := by
  obtain ⟨p, l, e, R, s, m, args, below, meth, c, Q⟩ := κ
  obtain ⟨hx, hb, hml, hown, hts, hin, hfr, hlo, hce, hsl, hK, hSt, hNw, hz⟩ := hκ
  exact fun H locs la hR hS hl => lv_dup2_11 hx hb hd hva hvb (kk H locs la hR hS hl)
theorem ks_null (hκ : ks_Ok κ g own nm cc nL d mc ms) (pc : Nat)  (hd : decode cc pc = .ok (.aconst_null, 1))  (kk : ks_K κ g nL h k n (pc + 1) ls (.null :: st)) : ks_K κ g nL h k n pc ls st := by
  obtain ⟨p, l, e, R, s, m, args, below, meth, c, Q⟩ := κ
  obtain ⟨hx, hb, hml, hown, hts, hin, hfr, hlo, hce, hsl, hK, hSt, hNw, hz⟩ := hκ
  exact fun H locs la hR hS hl => lv_null hx hb hd  (kk H locs la hR hS hl)
theorem ks_iload_n (hκ : ks_Ok κ g own nm cc nL d mc ms) (pc : Nat) (j : Nat) {q : Fin 4} {x : Int32} (hd : decode cc pc = .ok (.iload_n q, 1)) (hj : ls[j]? = some (q.val, .int x)) (kk : ks_K κ g nL h k n (pc + 1) ls (.int x :: st)) : ks_K κ g nL h k n pc ls st := by
  obtain ⟨p, l, e, R, s, m, args, below, meth, c, Q⟩ := κ
  obtain ⟨hx, hb, hml, hown, hts, hin, hfr, hlo, hce, hsl, hK, hSt, hNw, hz⟩ := hκ
  exact fun H locs la hR hS hl => lv_iload_n hx hb hd rfl (lv_at hl j hj) (kk H locs la hR hS hl)
theorem ks_iload (hκ : ks_Ok κ g own nm cc nL d mc ms) (pc : Nat) (j : Nat) {q : Nat} {x : Int32} (hd : decode cc pc = .ok (.iload q, 2)) (hj : ls[j]? = some (q, .int x)) (kk : ks_K κ g nL h k n (pc + 2) ls (.int x :: st)) : ks_K κ g nL h k n pc ls st := by
  obtain ⟨p, l, e, R, s, m, args, below, meth, c, Q⟩ := κ
  obtain ⟨hx, hb, hml, hown, hts, hin, hfr, hlo, hce, hsl, hK, hSt, hNw, hz⟩ := hκ
  exact fun H locs la hR hS hl => lv_iload hx hb hd (lv_at hl j hj) (kk H locs la hR hS hl)
theorem ks_lload_n (hκ : ks_Ok κ g own nm cc nL d mc ms) (pc : Nat) (j : Nat) {q : Fin 4} {x : Int64} (hd : decode cc pc = .ok (.lload_n q, 1)) (hj : ls[j]? = some (q.val, .long x)) (kk : ks_K κ g nL h k n (pc + 1) ls (.long x :: st)) : ks_K κ g nL h k n pc ls st := by
  obtain ⟨p, l, e, R, s, m, args, below, meth, c, Q⟩ := κ
  obtain ⟨hx, hb, hml, hown, hts, hin, hfr, hlo, hce, hsl, hK, hSt, hNw, hz⟩ := hκ
  exact fun H locs la hR hS hl => lv_lload_n hx hb hd rfl (lv_at hl j hj) (kk H locs la hR hS hl)
theorem ks_lload (hκ : ks_Ok κ g own nm cc nL d mc ms) (pc : Nat) (j : Nat) {q : Nat} {x : Int64} (hd : decode cc pc = .ok (.lload q, 2)) (hj : ls[j]? = some (q, .long x)) (kk : ks_K κ g nL h k n (pc + 2) ls (.long x :: st)) : ks_K κ g nL h k n pc ls st := by
  obtain ⟨p, l, e, R, s, m, args, below, meth, c, Q⟩ := κ
  obtain ⟨hx, hb, hml, hown, hts, hin, hfr, hlo, hce, hsl, hK, hSt, hNw, hz⟩ := hκ
  exact fun H locs la hR hS hl => lv_lload hx hb hd (lv_at hl j hj) (kk H locs la hR hS hl)
theorem ks_aload_n (hκ : ks_Ok κ g own nm cc nL d mc ms) (pc : Nat) (j : Nat) {q : Fin 4} {x : Nat} (hd : decode cc pc = .ok (.aload_n q, 1)) (hj : ls[j]? = some (q.val, ks_ref g x)) (kk : ks_K κ g nL h k n (pc + 1) ls (ks_ref g x :: st)) : ks_K κ g nL h k n pc ls st := by
  obtain ⟨p, l, e, R, s, m, args, below, meth, c, Q⟩ := κ
  obtain ⟨hx, hb, hml, hown, hts, hin, hfr, hlo, hce, hsl, hK, hSt, hNw, hz⟩ := hκ
  exact fun H locs la hR hS hl => lv_aload_n hx hb hd rfl (lv_at hl j hj) (kk H locs la hR hS hl)
theorem ks_aload (hκ : ks_Ok κ g own nm cc nL d mc ms) (pc : Nat) (j : Nat) {q : Nat} {x : Nat} (hd : decode cc pc = .ok (.aload q, 2)) (hj : ls[j]? = some (q, ks_ref g x)) (kk : ks_K κ g nL h k n (pc + 2) ls (ks_ref g x :: st)) : ks_K κ g nL h k n pc ls st := by
  obtain ⟨p, l, e, R, s, m, args, below, meth, c, Q⟩ := κ
  obtain ⟨hx, hb, hml, hown, hts, hin, hfr, hlo, hce, hsl, hK, hSt, hNw, hz⟩ := hκ
  exact fun H locs la hR hS hl => lv_aload hx hb hd (lv_at hl j hj) (kk H locs la hR hS hl)
theorem ks_aload_nr (hκ : ks_Ok κ g own nm cc nL d mc ms) (pc : Nat) (j : Nat) {q : Fin 4} {x : Nat} (hd : decode cc pc = .ok (.aload_n q, 1)) (hj : ls[j]? = some (q.val, .ref x)) (kk : ks_K κ g nL h k n (pc + 1) ls (.ref x :: st)) : ks_K κ g nL h k n pc ls st := by
  obtain ⟨p, l, e, R, s, m, args, below, meth, c, Q⟩ := κ
  obtain ⟨hx, hb, hml, hown, hts, hin, hfr, hlo, hce, hsl, hK, hSt, hNw, hz⟩ := hκ
  exact fun H locs la hR hS hl => lv_aload_n hx hb hd rfl (lv_at hl j hj) (kk H locs la hR hS hl)
theorem ks_istore_n (hκ : ks_Ok κ g own nm cc nL d mc ms) (pc : Nat) (i : Nat) {q : Fin 4} {x : Int32} (lv : List (Nat × Value)) (hd : decode cc pc = .ok (.istore_n q, 1)) (hq : (q : Nat) = i) (hn : i < nL) (hl0 : (i, .int x) :: ls.filter (fun q => !(q.1 == i) && !(q.1 + 1 == i && q.2.category == 2)) = lv) (kk : ks_K κ g nL h k n (pc + 1) lv st) : ks_K κ g nL h k n pc ls (.int x :: st) := by
  obtain ⟨p, l, e, R, s, m, args, below, meth, c, Q⟩ := κ
  obtain ⟨hx, hb, hml, hown, hts, hin, hfr, hlo, hce, hsl, hK, hSt, hNw, hz⟩ := hκ
  exact fun H locs la hR hS hl => lv_istore_n hx hb hd hq hl hn hl0 (fun la' hl' => kk H locs la' hR hS hl')
theorem ks_istore (hκ : ks_Ok κ g own nm cc nL d mc ms) (pc : Nat) (i : Nat) {x : Int32} (lv : List (Nat × Value)) (hd : decode cc pc = .ok (.istore i, 2)) (hn : i < nL) (hl0 : (i, .int x) :: ls.filter (fun q => !(q.1 == i) && !(q.1 + 1 == i && q.2.category == 2)) = lv) (kk : ks_K κ g nL h k n (pc + 2) lv st) : ks_K κ g nL h k n pc ls (.int x :: st) := by
  obtain ⟨p, l, e, R, s, m, args, below, meth, c, Q⟩ := κ
  obtain ⟨hx, hb, hml, hown, hts, hin, hfr, hlo, hce, hsl, hK, hSt, hNw, hz⟩ := hκ
  exact fun H locs la hR hS hl => lv_istore hx hb hd hl hn hl0 (fun la' hl' => kk H locs la' hR hS hl')
theorem ks_astore_n (hκ : ks_Ok κ g own nm cc nL d mc ms) (pc : Nat) (i : Nat) {q : Fin 4} {x : Nat} (lv : List (Nat × Value)) (hd : decode cc pc = .ok (.astore_n q, 1)) (hq : (q : Nat) = i) (hn : i < nL) (hl0 : (i, ks_ref g x) :: ls.filter (fun q => !(q.1 == i) && !(q.1 + 1 == i && q.2.category == 2)) = lv) (kk : ks_K κ g nL h k n (pc + 1) lv st) : ks_K κ g nL h k n pc ls (ks_ref g x :: st) := by
  obtain ⟨p, l, e, R, s, m, args, below, meth, c, Q⟩ := κ
  obtain ⟨hx, hb, hml, hown, hts, hin, hfr, hlo, hce, hsl, hK, hSt, hNw, hz⟩ := hκ
  exact fun H locs la hR hS hl => lv_astore_n hx hb hd hq hl hn hl0 (fun la' hl' => kk H locs la' hR hS hl')
theorem ks_astore (hκ : ks_Ok κ g own nm cc nL d mc ms) (pc : Nat) (i : Nat) {x : Nat} (lv : List (Nat × Value)) (hd : decode cc pc = .ok (.astore i, 2)) (hn : i < nL) (hl0 : (i, ks_ref g x) :: ls.filter (fun q => !(q.1 == i) && !(q.1 + 1 == i && q.2.category == 2)) = lv) (kk : ks_K κ g nL h k n (pc + 2) lv st) : ks_K κ g nL h k n pc ls (ks_ref g x :: st) := by
  obtain ⟨p, l, e, R, s, m, args, below, meth, c, Q⟩ := κ
  obtain ⟨hx, hb, hml, hown, hts, hin, hfr, hlo, hce, hsl, hK, hSt, hNw, hz⟩ := hκ
  exact fun H locs la hR hS hl => lv_astore hx hb hd hl hn hl0 (fun la' hl' => kk H locs la' hR hS hl')
theorem ks_lstore_n (hκ : ks_Ok κ g own nm cc nL d mc ms) (pc : Nat) (i : Nat) {q : Fin 4} {x : Int64} (lv : List (Nat × Value)) (hd : decode cc pc = .ok (.lstore_n q, 1)) (hq : (q : Nat) = i) (hn : i + 1 < nL) (hl0 : (i, .long x) :: ls.filter (fun q => !(q.1 == i) && (!(q.1 == i + 1) && !(q.1 + 1 == i && q.2.category == 2))) = lv) (kk : ks_K κ g nL h k n (pc + 1) lv st) : ks_K κ g nL h k n pc ls (.long x :: st) := by
  obtain ⟨p, l, e, R, s, m, args, below, meth, c, Q⟩ := κ
  obtain ⟨hx, hb, hml, hown, hts, hin, hfr, hlo, hce, hsl, hK, hSt, hNw, hz⟩ := hκ
  exact fun H locs la hR hS hl => lv_lstore_n hx hb hd hq hl hn hl0 (fun la' hl' => kk H locs la' hR hS hl')
theorem ks_lstore (hκ : ks_Ok κ g own nm cc nL d mc ms) (pc : Nat) (i : Nat) {x : Int64} (lv : List (Nat × Value)) (hd : decode cc pc = .ok (.lstore i, 2)) (hn : i + 1 < nL) (hl0 : (i, .long x) :: ls.filter (fun q => !(q.1 == i) && (!(q.1 == i + 1) && !(q.1 + 1 == i && q.2.category == 2))) = lv) (kk : ks_K κ g nL h k n (pc + 2) lv st) : ks_K κ g nL h k n pc ls (.long x :: st) := by
  obtain ⟨p, l, e, R, s, m, args, below, meth, c, Q⟩ := κ
  obtain ⟨hx, hb, hml, hown, hts, hin, hfr, hlo, hce, hsl, hK, hSt, hNw, hz⟩ := hκ
  exact fun H locs la hR hS hl => lv_lstore hx hb hd hl hn hl0 (fun la' hl' => kk H locs la' hR hS hl')
theorem ks_iinc (hκ : ks_Ok κ g own nm cc nL d mc ms) (pc : Nat) (i j : Nat) {q : Int} {x : Int32} (v : Int32) (lv : List (Nat × Value)) (hd : decode cc pc = .ok (.iinc i q, 3)) (hj : ls[j]? = some (i, .int x)) (hv : x + Int32.ofInt q = v) (hn : i < nL) (hl0 : (i, .int v) :: ls.filter (fun q => !(q.1 == i) && !(q.1 + 1 == i && q.2.category == 2)) = lv) (kk : ks_K κ g nL h k n (pc + 3) lv st) : ks_K κ g nL h k n pc ls st := by
  obtain ⟨p, l, e, R, s, m, args, below, meth, c, Q⟩ := κ
  obtain ⟨hx, hb, hml, hown, hts, hin, hfr, hlo, hce, hsl, hK, hSt, hNw, hz⟩ := hκ
  exact fun H locs la hR hS hl => lv_iinc hx hb hd hl hj hv hn hl0 (fun la' hl' => kk H locs la' hR hS hl')
theorem ks_if_eq (hκ : ks_Ok κ g own nm cc nL d mc ms) (pc : Nat) (tgt : Nat) {off : Int} {x : Int32} (hd : decode cc pc = .ok (.ifCond .eq off, 3)) (ht : (pc : Int) + off = (tgt : Int)) (kt : x = 0 → ks_K κ g nL h k n tgt ls st) (kf : ¬ x = 0 → ks_K κ g nL h k n (pc + 3) ls st) : ks_K κ g nL h k n pc ls (.int x :: st) := by
  obtain ⟨p, l, e, R, s, m, args, below, meth, c, Q⟩ := κ
  obtain ⟨hx, hb, hml, hown, hts, hin, hfr, hlo, hce, hsl, hK, hSt, hNw, hz⟩ := hκ
  exact fun H locs la hR hS hl => lv_if_eq hx hb hd ht (fun q => kt q H locs la hR hS hl) (fun q => kf q H locs la hR hS hl)
theorem ks_if_ne (hκ : ks_Ok κ g own nm cc nL d mc ms) (pc : Nat) (tgt : Nat) {off : Int} {x : Int32} (hd : decode cc pc = .ok (.ifCond .ne off, 3)) (ht : (pc : Int) + off = (tgt : Int)) (kt : ¬ x = 0 → ks_K κ g nL h k n tgt ls st) (kf : x = 0 → ks_K κ g nL h k n (pc + 3) ls st) : ks_K κ g nL h k n pc ls (.int x :: st) := by
  obtain ⟨p, l, e, R, s, m, args, below, meth, c, Q⟩ := κ
  obtain ⟨hx, hb, hml, hown, hts, hin, hfr, hlo, hce, hsl, hK, hSt, hNw, hz⟩ := hκ
  exact fun H locs la hR hS hl => lv_if_ne hx hb hd ht (fun q => kt q H locs la hR hS hl) (fun q => kf q H locs la hR hS hl)
theorem ks_if_lt (hκ : ks_Ok κ g own nm cc nL d mc ms) (pc : Nat) (tgt : Nat) {off : Int} {x : Int32} (hd : decode cc pc = .ok (.ifCond .lt off, 3)) (ht : (pc : Int) + off = (tgt : Int)) (kt : x < 0 → ks_K κ g nL h k n tgt ls st) (kf : ¬ x < 0 → ks_K κ g nL h k n (pc + 3) ls st) : ks_K κ g nL h k n pc ls (.int x :: st) := by
  obtain ⟨p, l, e, R, s, m, args, below, meth, c, Q⟩ := κ
  obtain ⟨hx, hb, hml, hown, hts, hin, hfr, hlo, hce, hsl, hK, hSt, hNw, hz⟩ := hκ
  exact fun H locs la hR hS hl => lv_if_lt hx hb hd ht (fun q => kt q H locs la hR hS hl) (fun q => kf q H locs la hR hS hl)
theorem ks_if_ge (hκ : ks_Ok κ g own nm cc nL d mc ms) (pc : Nat) (tgt : Nat) {off : Int} {x : Int32} (hd : decode cc pc = .ok (.ifCond .ge off, 3)) (ht : (pc : Int) + off = (tgt : Int)) (kt : 0 ≤ x → ks_K κ g nL h k n tgt ls st) (kf : ¬ 0 ≤ x → ks_K κ g nL h k n (pc + 3) ls st) : ks_K κ g nL h k n pc ls (.int x :: st) := by
  obtain ⟨p, l, e, R, s, m, args, below, meth, c, Q⟩ := κ
  obtain ⟨hx, hb, hml, hown, hts, hin, hfr, hlo, hce, hsl, hK, hSt, hNw, hz⟩ := hκ
  exact fun H locs la hR hS hl => lv_if_ge hx hb hd ht (fun q => kt q H locs la hR hS hl) (fun q => kf q H locs la hR hS hl)
theorem ks_if_gt (hκ : ks_Ok κ g own nm cc nL d mc ms) (pc : Nat) (tgt : Nat) {off : Int} {x : Int32} (hd : decode cc pc = .ok (.ifCond .gt off, 3)) (ht : (pc : Int) + off = (tgt : Int)) (kt : 0 < x → ks_K κ g nL h k n tgt ls st) (kf : ¬ 0 < x → ks_K κ g nL h k n (pc + 3) ls st) : ks_K κ g nL h k n pc ls (.int x :: st) := by
  obtain ⟨p, l, e, R, s, m, args, below, meth, c, Q⟩ := κ
  obtain ⟨hx, hb, hml, hown, hts, hin, hfr, hlo, hce, hsl, hK, hSt, hNw, hz⟩ := hκ
  exact fun H locs la hR hS hl => lv_if_gt hx hb hd ht (fun q => kt q H locs la hR hS hl) (fun q => kf q H locs la hR hS hl)
theorem ks_if_le (hκ : ks_Ok κ g own nm cc nL d mc ms) (pc : Nat) (tgt : Nat) {off : Int} {x : Int32} (hd : decode cc pc = .ok (.ifCond .le off, 3)) (ht : (pc : Int) + off = (tgt : Int)) (kt : x ≤ 0 → ks_K κ g nL h k n tgt ls st) (kf : ¬ x ≤ 0 → ks_K κ g nL h k n (pc + 3) ls st) : ks_K κ g nL h k n pc ls (.int x :: st) := by
  obtain ⟨p, l, e, R, s, m, args, below, meth, c, Q⟩ := κ
  obtain ⟨hx, hb, hml, hown, hts, hin, hfr, hlo, hce, hsl, hK, hSt, hNw, hz⟩ := hκ
  exact fun H locs la hR hS hl => lv_if_le hx hb hd ht (fun q => kt q H locs la hR hS hl) (fun q => kf q H locs la hR hS hl)
theorem ks_icmp_eq (hκ : ks_Ok κ g own nm cc nL d mc ms) (pc : Nat) (tgt : Nat) {off : Int} {x y : Int32} (hd : decode cc pc = .ok (.if_icmp .eq off, 3)) (ht : (pc : Int) + off = (tgt : Int)) (kt : x = y → ks_K κ g nL h k n tgt ls st) (kf : ¬ x = y → ks_K κ g nL h k n (pc + 3) ls st) : ks_K κ g nL h k n pc ls (.int y :: .int x :: st) := by
  obtain ⟨p, l, e, R, s, m, args, below, meth, c, Q⟩ := κ
  obtain ⟨hx, hb, hml, hown, hts, hin, hfr, hlo, hce, hsl, hK, hSt, hNw, hz⟩ := hκ
  exact fun H locs la hR hS hl => lv_icmp_eq hx hb hd ht (fun q => kt q H locs la hR hS hl) (fun q => kf q H locs la hR hS hl)
theorem ks_icmp_ne (hκ : ks_Ok κ g own nm cc nL d mc ms) (pc : Nat) (tgt : Nat) {off : Int} {x y : Int32} (hd : decode cc pc = .ok (.if_icmp .ne off, 3)) (ht : (pc : Int) + off = (tgt : Int)) (kt : ¬ x = y → ks_K κ g nL h k n tgt ls st) (kf : x = y → ks_K κ g nL h k n (pc + 3) ls st) : ks_K κ g nL h k n pc ls (.int y :: .int x :: st) := by
  obtain ⟨p, l, e, R, s, m, args, below, meth, c, Q⟩ := κ
  obtain ⟨hx, hb, hml, hown, hts, hin, hfr, hlo, hce, hsl, hK, hSt, hNw, hz⟩ := hκ
  exact fun H locs la hR hS hl => lv_icmp_ne hx hb hd ht (fun q => kt q H locs la hR hS hl) (fun q => kf q H locs la hR hS hl)
theorem ks_icmp_lt (hκ : ks_Ok κ g own nm cc nL d mc ms) (pc : Nat) (tgt : Nat) {off : Int} {x y : Int32} (hd : decode cc pc = .ok (.if_icmp .lt off, 3)) (ht : (pc : Int) + off = (tgt : Int)) (kt : x < y → ks_K κ g nL h k n tgt ls st) (kf : ¬ x < y → ks_K κ g nL h k n (pc + 3) ls st) : ks_K κ g nL h k n pc ls (.int y :: .int x :: st) := by
  obtain ⟨p, l, e, R, s, m, args, below, meth, c, Q⟩ := κ
  obtain ⟨hx, hb, hml, hown, hts, hin, hfr, hlo, hce, hsl, hK, hSt, hNw, hz⟩ := hκ
  exact fun H locs la hR hS hl => lv_icmp_lt hx hb hd ht (fun q => kt q H locs la hR hS hl) (fun q => kf q H locs la hR hS hl)
theorem ks_icmp_ge (hκ : ks_Ok κ g own nm cc nL d mc ms) (pc : Nat) (tgt : Nat) {off : Int} {x y : Int32} (hd : decode cc pc = .ok (.if_icmp .ge off, 3)) (ht : (pc : Int) + off = (tgt : Int)) (kt : y ≤ x → ks_K κ g nL h k n tgt ls st) (kf : ¬ y ≤ x → ks_K κ g nL h k n (pc + 3) ls st) : ks_K κ g nL h k n pc ls (.int y :: .int x :: st) := by
  obtain ⟨p, l, e, R, s, m, args, below, meth, c, Q⟩ := κ
  obtain ⟨hx, hb, hml, hown, hts, hin, hfr, hlo, hce, hsl, hK, hSt, hNw, hz⟩ := hκ
  exact fun H locs la hR hS hl => lv_icmp_ge hx hb hd ht (fun q => kt q H locs la hR hS hl) (fun q => kf q H locs la hR hS hl)
theorem ks_icmp_gt (hκ : ks_Ok κ g own nm cc nL d mc ms) (pc : Nat) (tgt : Nat) {off : Int} {x y : Int32} (hd : decode cc pc = .ok (.if_icmp .gt off, 3)) (ht : (pc : Int) + off = (tgt : Int)) (kt : y < x → ks_K κ g nL h k n tgt ls st) (kf : ¬ y < x → ks_K κ g nL h k n (pc + 3) ls st) : ks_K κ g nL h k n pc ls (.int y :: .int x :: st) := by
  obtain ⟨p, l, e, R, s, m, args, below, meth, c, Q⟩ := κ
  obtain ⟨hx, hb, hml, hown, hts, hin, hfr, hlo, hce, hsl, hK, hSt, hNw, hz⟩ := hκ
  exact fun H locs la hR hS hl => lv_icmp_gt hx hb hd ht (fun q => kt q H locs la hR hS hl) (fun q => kf q H locs la hR hS hl)
theorem ks_icmp_le (hκ : ks_Ok κ g own nm cc nL d mc ms) (pc : Nat) (tgt : Nat) {off : Int} {x y : Int32} (hd : decode cc pc = .ok (.if_icmp .le off, 3)) (ht : (pc : Int) + off = (tgt : Int)) (kt : x ≤ y → ks_K κ g nL h k n tgt ls st) (kf : ¬ x ≤ y → ks_K κ g nL h k n (pc + 3) ls st) : ks_K κ g nL h k n pc ls (.int y :: .int x :: st) := by
  obtain ⟨p, l, e, R, s, m, args, below, meth, c, Q⟩ := κ
  obtain ⟨hx, hb, hml, hown, hts, hin, hfr, hlo, hce, hsl, hK, hSt, hNw, hz⟩ := hκ
  exact fun H locs la hR hS hl => lv_icmp_le hx hb hd ht (fun q => kt q H locs la hR hS hl) (fun q => kf q H locs la hR hS hl)
theorem ks_goto (hκ : ks_Ok κ g own nm cc nL d mc ms) (pc : Nat) (tgt : Nat) {off : Int} (hd : decode cc pc = .ok (.goto off, 3)) (ht : (pc : Int) + off = (tgt : Int)) (kk : ks_K κ g nL h k n tgt ls st) : ks_K κ g nL h k n pc ls st := by
  obtain ⟨p, l, e, R, s, m, args, below, meth, c, Q⟩ := κ
  obtain ⟨hx, hb, hml, hown, hts, hin, hfr, hlo, hce, hsl, hK, hSt, hNw, hz⟩ := hκ
  exact fun H locs la hR hS hl => lv_goto hx hb hd ht (kk H locs la hR hS hl)
theorem ks_ifnonnull (hκ : ks_Ok κ g own nm cc nL d mc ms) (pc : Nat) (tgt : Nat) {off : Int} {x : Nat} (hd : decode cc pc = .ok (.ifnonnull off, 3)) (ht : (pc : Int) + off = (tgt : Int)) (kk : ks_K κ g nL h k n tgt ls st) : ks_K κ g nL h k n pc ls (ks_ref g x :: st) := by
  obtain ⟨p, l, e, R, s, m, args, below, meth, c, Q⟩ := κ
  obtain ⟨hx, hb, hml, hown, hts, hin, hfr, hlo, hce, hsl, hK, hSt, hNw, hz⟩ := hκ
  exact fun H locs la hR hS hl => lv_ifnonnull hx hb hd ht (kk H locs la hR hS hl)
theorem ks_ifnonnullN (hκ : ks_Ok κ g own nm cc nL d mc ms) (pc : Nat) {off : Int} (hd : decode cc pc = .ok (.ifnonnull off, 3)) (kk : ks_K κ g nL h k n (pc + 3) ls st) : ks_K κ g nL h k n pc ls (.null :: st) := by
  obtain ⟨p, l, e, R, s, m, args, below, meth, c, Q⟩ := κ
  obtain ⟨hx, hb, hml, hown, hts, hin, hfr, hlo, hce, hsl, hK, hSt, hNw, hz⟩ := hκ
  exact fun H locs la hR hS hl => lv_ifnonnullN hx hb hd (kk H locs la hR hS hl)
theorem ks_tableOut (hκ : ks_Ok κ g own nm cc nL d mc ms) (pc : Nat) (tgt : Nat) {dflt lo hi : Int} {offs : Array Int} {len : Nat} {x : Int32} (hd : decode cc pc = .ok (.tableswitch dflt lo hi offs, len)) (hr : x.toInt < lo ∨ hi < x.toInt) (ht : (pc : Int) + dflt = (tgt : Int)) (kk : ks_K κ g nL h k n tgt ls st) : ks_K κ g nL h k n pc ls (.int x :: st) := by
  obtain ⟨p, l, e, R, s, m, args, below, meth, c, Q⟩ := κ
  obtain ⟨hx, hb, hml, hown, hts, hin, hfr, hlo, hce, hsl, hK, hSt, hNw, hz⟩ := hκ
  exact fun H locs la hR hS hl => lv_tableOut hx hb hd hr ht (kk H locs la hR hS hl)
theorem ks_tableIn (hκ : ks_Ok κ g own nm cc nL d mc ms) (pc : Nat) (tgt : Nat) {dflt lo hi : Int} {offs : Array Int} {len : Nat} {x : Int32} {off : Int} (hd : decode cc pc = .ok (.tableswitch dflt lo hi offs, len)) (h1 : ¬ x.toInt < lo) (h2 : ¬ hi < x.toInt) (ho : offs[(x.toInt - lo).toNat]? = some off) (ht : (pc : Int) + off = (tgt : Int)) (kk : ks_K κ g nL h k n tgt ls st) : ks_K κ g nL h k n pc ls (.int x :: st) := by
  obtain ⟨p, l, e, R, s, m, args, below, meth, c, Q⟩ := κ
  obtain ⟨hx, hb, hml, hown, hts, hin, hfr, hlo, hce, hsl, hK, hSt, hNw, hz⟩ := hκ
  exact fun H locs la hR hS hl => lv_tableIn hx hb hd h1 h2 ho ht (kk H locs la hR hS hl)
theorem ks_lookup (hκ : ks_Ok κ g own nm cc nL d mc ms) (pc : Nat) (tgt : Nat) {dflt : Int} {ps : Array (Int × Int)} {len : Nat} {x : Int32} {off : Int} (hd : decode cc pc = .ok (.lookupswitch dflt ps, len)) (hp : (ps.toList.zip (ps.toList.drop 1)).all (fun (a, next) => a.1 < next.1) = true) (ho : Op.lookupswitch.offset ps.toList dflt x.toInt = off) (ht : (pc : Int) + off = (tgt : Int)) (kk : ks_K κ g nL h k n tgt ls st) : ks_K κ g nL h k n pc ls (.int x :: st) := by
  obtain ⟨p, l, e, R, s, m, args, below, meth, c, Q⟩ := κ
  obtain ⟨hx, hb, hml, hown, hts, hin, hfr, hlo, hce, hsl, hK, hSt, hNw, hz⟩ := hκ
  exact fun H locs la hR hS hl => lv_lookup hx hb hd hp ho ht (kk H locs la hR hS hl)
theorem ks_ldc2 (hκ : ks_Ok κ g own nm cc nL d mc ms) (pc : Nat) {ix : Nat} (v : Int64) (hd : decode cc pc = .ok (.ldc2_w ix, 3)) (hw : Cond.constantLong own ix v ∈ lw_g) (kk : ks_K κ g nL h k n (pc + 3) ls (.long v :: st)) : ks_K κ g nL h k n pc ls st := by
  obtain ⟨p, l, e, R, s, m, args, below, meth, c, Q⟩ := κ
  obtain ⟨hx, hb, hml, hown, hts, hin, hfr, hlo, hce, hsl, hK, hSt, hNw, hz⟩ := hκ
  exact fun H locs la hR hS hl => lv_ldc2 hx hb hown (hts _ hw) hd (kk H locs la hR hS hl)
theorem ks_cv {pc : Nat} {h' : ks_H} {ls' : List (Nat × Value)} {st' : List Value} (kk : ks_K κ g nL h k n pc ls st) (e1 : h' = h) (e2 : ls' = ls) (e3 : st' = st) : ks_K κ g nL h' k n pc ls' st' := by
  subst e1; subst e2; subst e3; exact kk
theorem ks_top {pc : Nat} {x : Int32} (y : Int32) (e : x = y) (kk : ks_K κ g nL h k n pc ls (.int y :: st)) : ks_K κ g nL h k n pc ls (.int x :: st) := by
  subst e; exact kk
theorem ks_topl {pc : Nat} {x : Int64} (y : Int64) (e : x = y) (kk : ks_K κ g nL h k n pc ls (.long y :: st)) : ks_K κ g nL h k n pc ls (.long x :: st) := by
  subst e; exact kk
theorem ks_pick {pc : Nat} (is : List Nat) (lv : List (Nat × Value)) (e : lv_pick ls is = lv) (kk : ks_K κ g nL h k n pc lv st) : ks_K κ g nL h k n pc ls st := by
  obtain ⟨p, l, en, R, s, m, args, below, meth, c, Q⟩ := κ
  exact fun H locs la hR hS hl => kk H locs la hR hS (lv_sub hl is e)
theorem ks_widen {pc : Nat} (k' n' : Nat) (hk : k ≤ k') (hn : n ≤ n') (kk : ks_K κ g nL h k' n' pc ls st) : ks_K κ g nL h k n pc ls st := by
  obtain ⟨p, l, e, R, s, m, args, below, meth, c, Q⟩ := κ
  exact fun H locs la hR hS hl => W.widen hk hn (kk H locs la hR hS hl)

end KSR
end
section

theorem ks_R.at {g : ks_G} {h : ks_H} {H : Heap} (hR : ks_R g h H) {i : Nat} {e : va_E} (hi : h[i]? = some e) : va_at g.2.1 vwCl (g.1 + i, e) H := hR.2 i _ (ks_wl_get hi)
theorem ks_R.set {g : ks_G} {h : ks_H} {H H1 : Heap} (hR : ks_R g h H) {i : Nat} {e0 e : va_E} (hi : h[i]? = some e0) (he : va_at g.2.1 vwCl (g.1 + i, e) H1) (hz : H1.size = H.size) (ho : ∀ q : Nat, q ≠ g.1 + i → H1[q]? = H[q]?) : ks_R g (h.set i e) H1 := by
  refine ⟨by rw [hz, hR.1, List.length_set], ?_⟩
  rw [← ks_wl_set]
  exact hR.2.set ks_wl_D (ks_wl_get hi) he ho
theorem ks_R.push {g : ks_G} {h : ks_H} {H H1 : Heap} (hR : ks_R g h H) {e : va_E} (he : va_at g.2.1 vwCl (H.size, e) H1) (hz : H1.size = H.size + 1) (ho : ∀ q : Nat, q < H.size → H1[q]? = H[q]?) : ks_R g (h ++ [e]) H1 := by
  refine ⟨by rw [hz, hR.1, List.length_append]; simp; omega, ?_⟩
  rw [← ks_wl_push]
  refine (hR.2.kept (fun k q hk => ho q.1 (hR.2 k q hk).lt)).app (fun k q hk => ?_)
  have hk1 : k < 1 := (List.getElem?_eq_some_iff.mp hk).1
  have hk0 : k = 0 := by omega
  subst hk0
  cases hk
  rw [← hR.1]
  exact he
theorem ks_S.put {g : ks_G} {H0 H H1 : Heap} {locs : List Loc} (hS : va_S (ks_A g) H0 H locs) {i k : Nat} (z : H1.size = H.size) (oq : ∀ q : Nat, q ≠ g.1 + i → H1[q]? = H[q]?) : va_S (ks_A g) H0 H1 (locs ++ [⟨g.1 + i, k⟩]) := hS.put z oq (Nat.le_add_right _ _)
theorem ks_S.push {g : ks_G} {H0 H H1 : Heap} {locs : List Loc} (hS : va_S (ks_A g) H0 H locs) (z : H1.size = H.size + 1) (oq : ∀ q : Nat, q < H.size → H1[q]? = H[q]?) : va_S (ks_A g) H0 H1 locs := ⟨Nat.le_trans hS.1 (by omega), fun x h1 h2 => (oq x (Nat.lt_of_lt_of_le h1 hS.1)).trans (hS.2.1 x h1 h2), hS.2.2⟩
def ks_Cls (ci : Nat) (C : String) (T : u_T) (N : Nat) (ty0 : Nat → FieldType) : Prop := vwCl[ci]? = some (C, T, N) ∧ (∀ w ∈ u_ws C T N, w ∈ lw_g) ∧ (∀ k, k < N → parseFieldDescriptor (T k).2.2.1 = some (ty0 k)) ∧ ∀ a, a < N → ∀ b, b < N → a ≠ b → (T a).2.1 ≠ (T b).2.1
/-- the field that the entry idx of class own's pool names: slot j of class ci, its type; 1: not final, 2: final, of class own, 0: read alone -/
def ks_Fld (own : String) (idx ci j : Nat) (ty : FieldType) (fin : Nat) : Prop := ∃ (C : String) (T : u_T) (N : Nat) (ty0 : Nat → FieldType), ks_Cls ci C T N ty0 ∧ j < N ∧ Cond.fieldLink own idx (T j).1 (T j).2.1 (T j).2.2.1 ∈ lw_g ∧ ty0 j = ty ∧ (fin = 1 → (T j).2.2.2 = false) ∧ (fin = 2 → (T j).2.2.2 = true ∧ (T j).1 = own)
/-- an object is made by the entry idx -/
def ks_New (own : String) (idx ci : Nat) (fs : List Value) : Prop := ∃ (C : String) (T : u_T) (N : Nat) (ty0 : Nat → FieldType), ks_Cls ci C T N ty0 ∧ Cond.classLink own idx C ∈ lw_g ∧ Cond.instantiable C N ∈ lw_g ∧ Cond.initialized C ∈ lw_g ∧ (∀ j, j < N → defaultValue (ty0 j) = vp_V fs j) ∧ fs.length = N
/-- method y is called by the entry idx: of an object, of a class, as a constructor -/
def ks_CB (y : MethodName) (cc : ByteArray) (nL : Nat) (ret : Option FieldType) (na : Nat) : Prop := Cond.initialized y.cls ∈ lw_g ∧ Cond.code y cc nL ret ∈ lw_g ∧ (y.cls ≠ "java/lang/invoke/MethodHandle" ∧ y.cls ≠ "java/lang/invoke/VarHandle") ∧ (parseMethodDescriptor y.desc).map (fun d => d.parameters.length) = some na ∧ nL ≤ 21
def ks_CV (own : String) (idx : Nat) (y : MethodName) (cc : ByteArray) (nL : Nat) (ret : Option FieldType) (na : Nat) : Prop := ks_CB y cc nL ret na ∧ Cond.methodLink own idx y ∈ lw_g ∧ Cond.instanceMethod y ∈ lw_g ∧ Cond.selects y.cls y y ∈ lw_g
def ks_CS (own : String) (idx : Nat) (y : MethodName) (cc : ByteArray) (nL : Nat) (ret : Option FieldType) (na : Nat) : Prop := ks_CB y cc nL ret na ∧ (Cond.methodLink own idx y ∈ lw_g ∨ ∃ host, (own, idx, y, host) ∈ ks_nm) ∧ Cond.static y ∈ lw_g
def ks_CI (own : String) (idx : Nat) (y : MethodName) (cc : ByteArray) (nL : Nat) (na : Nat) : Prop := ks_CB y cc nL none na ∧ (Cond.methodLink own idx y ∈ lw_g ∨ ∃ host, (own, idx, y, host) ∈ ks_nm) ∧ Cond.instanceMethod y ∈ lw_g ∧ y.name = "<init>"

section KSH
variable {κ : ks_C} {g : ks_G} {own nm : String} {cc : ByteArray} {nL d mc ms k n : Nat} {h : ks_H} {ls : List (Nat × Value)} {st : List Value}

theorem ks_get (hκ : ks_Ok κ g own nm cc nL d mc ms) (pc : Nat) {ix ci i j : Nat} {ty : FieldType} {fin : Nat} {fs : List Value} {v : Value} (hd : decode cc pc = .ok (.getfield ix, 3)) (hf : ks_Fld own ix ci j ty fin) (hc : h[i]? = some (ks_O ci fs)) (hv : fs[j]? = some v) (kk : ks_K κ g nL h k n (pc + 3) ls (v :: st)) : ks_K κ g nL h k n pc ls (ks_ref g i :: st) := by
  obtain ⟨p, l, e, R, s, m, args, below, meth, c, Q⟩ := κ
  obtain ⟨hx, hb, hml, hown, hts, hin, hfr, hlo, hce, hsl, hK, hSt, hNw, hz⟩ := hκ
  obtain ⟨C, T, N, ty0, ⟨c1, c2, c3, c4⟩, f2, f3, -, -, -⟩ := hf
  intro H locs la hR hS hl
  exact va_get (D := g.2.1) (cl := vwCl) (ws := ks_wl g.1 h) (ci := ci) (C := C) (T := T) (N := N) hx hb hts c2 hown hK hR.2 i (ks_wl_get hc) c1 j f2 (hts _ f3) (fun _ h9 => h9) hv hd (kk H locs la hR hS hl)

theorem ks_put (hκ : ks_Ok κ g own nm cc nL d mc ms) (pc : Nat) {ix ci i j : Nat} {ty : FieldType} {fs : List Value} {v : Value} (hd : decode cc pc = .ok (.putfield ix, 3)) (hf : ks_Fld own ix ci j ty 1) (hc : h[i]? = some (ks_O ci fs)) (hn : narrow ty v = v) (hfit : fits ty v = true) (hlen : j < fs.length) (kk : ks_K κ g nL (h.set i (ks_O ci (fs.set j v))) k n (pc + 3) ls st) : ks_K κ g nL h k n pc ls (v :: ks_ref g i :: st) := by
  obtain ⟨p, l, e, R, s, m, args, below, meth, c, Q⟩ := κ
  obtain ⟨hx, hb, hml, hown, hts, hin, hfr, hlo, hce, hsl, hK, hSt, hNw, hz⟩ := hκ
  obtain ⟨C, T, N, ty0, ⟨c1, c2, c3, c4⟩, f2, f3, f4, f5, f6⟩ := hf
  intro H locs la hR hS hl
  have hap := va_apart (own := own) hts c2 ty0 c3 c4 hK c1
  obtain ⟨r, h1, cell, q1, q2, q3, q4⟩ := hR.at hc
  cases (Option.some.inj (h1.symm.trans c1) : r = (C, T, N))
  obtain ⟨hSf, hfc, kC, hkC, hkind⟩ := hK.1 ci _ c1
  obtain ⟨cf, kf, fi, f, hi, hsl0⟩ := hSf j f2
  have hlay := hts _ (c2 _ (u_in_lay f2))
  unfold u_lay at hlay
  rw [if_neg (by rw [f5 rfl]; decide)] at hlay
  have hst := (u_facts hfc hkC (u_lays hts c2 f2) hi).1
  have h6 := u_store hfc hkC hkind hlay hi ((c3 j f2).trans (congrArg some f4)) hn hfit
  refine W.putK hx hb (f := f) ⟨hown, hts _ f3, ⟨_, _, _, hi⟩, hst⟩ (by rw [q2]; exact h6) q1 q3 (by rw [hsl0]; exact k2_hasslot (q4 j f2)) rfl rfl hd fun H' e1 e2 e3 => ?_
  rw [hsl0] at e1
  exact kk H' _ la (hR.set hc ⟨_, c1, t_OB.to (V := updV (vp_V fs) j v) ⟨_, e1, q2, q3, t_set q4 hap f2 v⟩ (fun z _ => vp_updV_set hlen v z)⟩ e2 e3) (ks_S.put hS e2 e3) hl

theorem ks_putF (hκ : ks_Ok κ g own nm cc nL d mc ms) (pc : Nat) {ix ci i j : Nat} {ty : FieldType} {fs : List Value} {v : Value} (hd : decode cc pc = .ok (.putfield ix, 3)) (hi9 : nm = "<init>") (hf : ks_Fld own ix ci j ty 2) (hc : h[i]? = some (ks_O ci fs)) (hn : narrow ty v = v) (hfit : fits ty v = true) (hlen : j < fs.length) (kk : ks_K κ g nL (h.set i (ks_O ci (fs.set j v))) k n (pc + 3) ls st) : ks_K κ g nL h k n pc ls (v :: ks_ref g i :: st) := by
  obtain ⟨p, l, e, R, s, m, args, below, meth, c, Q⟩ := κ
  obtain ⟨hx, hb, hml, hown, hts, hin, hfr, hlo, hce, hsl, hK, hSt, hNw, hz⟩ := hκ
  obtain ⟨C, T, N, ty0, ⟨c1, c2, c3, c4⟩, f2, f3, f4, f5, f6⟩ := hf
  intro H locs la hR hS hl
  have hap := va_apart (own := own) hts c2 ty0 c3 c4 hK c1
  obtain ⟨r, h1, cell, q1, q2, q3, q4⟩ := hR.at hc
  cases (Option.some.inj (h1.symm.trans c1) : r = (C, T, N))
  obtain ⟨hSf, hfc, kC, hkC, hkind⟩ := hK.1 ci _ c1
  obtain ⟨cf, kf, fi, f, hi, hsl0⟩ := hSf j f2
  have hlay := hts _ (c2 _ (u_in_lay f2))
  unfold u_lay at hlay
  rw [if_pos (f6 rfl).1] at hlay
  have hst := (u_facts hfc hkC (u_lays hts c2 f2) hi).1
  have hcf : m.cls = cf := by
    obtain ⟨_, _, c', _, _, _, -, -, hf', -, -, -, hown2, -⟩ := Cond.laysFinal_spec hlay
    have e1 : c' = cf := by have := hi.symm.trans hf'; simp at this; exact this.1.symm
    rw [(f6 rfl).2] at hown2
    rw [← e1]; exact Option.some.inj (hown.symm.trans hown2)
  have h6 := u_fits hfc hkC hkind (Or.inr hlay) hi ((c3 j f2).trans (congrArg some f4)) hn hfit
  refine W.putFinK hx hb hown (hts _ f3) hi hst hcf (hin.trans hi9) (by rw [q2]; exact h6) q1 q3 (by rw [hsl0]; exact k2_hasslot (q4 j f2)) rfl rfl hd fun H' e1 e2 e3 => ?_
  rw [hsl0] at e1
  exact kk H' _ la (hR.set hc ⟨_, c1, t_OB.to (V := updV (vp_V fs) j v) ⟨_, e1, q2, q3, t_set q4 hap f2 v⟩ (fun z _ => vp_updV_set hlen v z)⟩ e2 e3) (ks_S.put hS e2 e3) hl

theorem ks_iald (hκ : ks_Ok κ g own nm cc nL d mc ms) (pc : Nat) {i N : Nat} {f : Nat → Int32} {x : Int32} (j : Nat) (hd : decode cc pc = .ok (.iaload, 1)) (hc : h[i]? = some (ks_I g N f)) (hj : x = nI j) (hjN : j < N) (hN : N < 2 ^ 31) (kk : ks_K κ g nL h k n (pc + 1) ls (.int (f j) :: st)) : ks_K κ g nL h k n pc ls (.int x :: ks_ref g i :: st) := by
  obtain ⟨p, l, e, R, s, m, args, below, meth, c, Q⟩ := κ
  obtain ⟨hx, hb, hml, hown, hts, hin, hfr, hlo, hce, hsl, hK, hSt, hNw, hz⟩ := hκ
  subst hj
  have hv9 : vp_in (nI j) N := vp_in_nI hjN hN
  have hcl : (nI j).toNatClampNeg = j := nI_clamp (by omega)
  intro H locs la hR hS hl
  refine va_iald (D := g.2.1) (cl := vwCl) (ws := ks_wl g.1 h) hx hb hK hR.2 i 0 (ks_wl_get hc) rfl hv9 hd ?_
  rw [hcl]
  exact kk H locs la hR hS hl

theorem ks_zald (hκ : ks_Ok κ g own nm cc nL d mc ms) (pc : Nat) {i N : Nat} {f : Nat → Int32} {x : Int32} (j : Nat) (hd : decode cc pc = .ok (.baload, 1)) (hc : h[i]? = some (ks_Z g N f)) (hj : x = nI j) (hjN : j < N) (hN : N < 2 ^ 31) (kk : ks_K κ g nL h k n (pc + 1) ls (.int (f j) :: st)) : ks_K κ g nL h k n pc ls (.int x :: ks_ref g i :: st) := by
  obtain ⟨p, l, e, R, s, m, args, below, meth, c, Q⟩ := κ
  obtain ⟨hx, hb, hml, hown, hts, hin, hfr, hlo, hce, hsl, hK, hSt, hNw, hz⟩ := hκ
  subst hj
  have hv9 : vp_in (nI j) N := vp_in_nI hjN hN
  have hcl : (nI j).toNatClampNeg = j := nI_clamp (by omega)
  intro H locs la hR hS hl
  refine va_zald (D := g.2.1) (cl := vwCl) (ws := ks_wl g.1 h) hx hb hK hR.2 i 1 (ks_wl_get hc) rfl hv9 hd ?_
  rw [hcl]
  exact kk H locs la hR hS hl

def ks_rf (g : ks_G) (o : Option Nat) : Value := match o with
  | none => .null
  | some a => ks_ref g a
theorem ks_rf_eq (o : Option Nat) : va_rf (o.map (fun i => g.1 + i)) = ks_rf g o := by cases o <;> rfl

theorem ks_aald (hκ : ks_Ok κ g own nm cc nL d mc ms) (pc : Nat) {i N : Nat} {f : Nat → Option Nat} {x : Int32} (j : Nat) (hd : decode cc pc = .ok (.aaload, 1)) (hc : h[i]? = some (ks_S g N f)) (hj : x = nI j) (hjN : j < N) (hN : N < 2 ^ 31) (kk : ks_K κ g nL h k n (pc + 1) ls (ks_rf g (f j) :: st)) : ks_K κ g nL h k n pc ls (.int x :: ks_ref g i :: st) := by
  obtain ⟨p, l, e, R, s, m, args, below, meth, c, Q⟩ := κ
  obtain ⟨hx, hb, hml, hown, hts, hin, hfr, hlo, hce, hsl, hK, hSt, hNw, hz⟩ := hκ
  subst hj
  have hv9 : vp_in (nI j) N := vp_in_nI hjN hN
  have hcl : (nI j).toNatClampNeg = j := nI_clamp (by omega)
  intro H locs la hR hS hl
  refine va_aldq (D := g.2.1) (cl := vwCl) (ws := ks_wl g.1 h) hx hb hK hR.2 i 2 (ks_wl_get hc) rfl hv9 hd ?_
  rw [hcl, ks_rf_eq]
  exact kk H locs la hR hS hl

theorem ks_iast (hκ : ks_Ok κ g own nm cc nL d mc ms) (pc : Nat) {i N : Nat} {f : Nat → Int32} {x y : Int32} (j : Nat) (hd : decode cc pc = .ok (.iastore, 1)) (hc : h[i]? = some (ks_I g N f)) (hj : x = nI j) (hjN : j < N) (hN : N < 2 ^ 31) (kk : ks_K κ g nL (h.set i (ks_I g N (upd f j y))) k n (pc + 1) ls st) : ks_K κ g nL h k n pc ls (.int y :: .int x :: ks_ref g i :: st) := by
  obtain ⟨p, l, e, R, s, m, args, below, meth, c, Q⟩ := κ
  obtain ⟨hx, hb, hml, hown, hts, hin, hfr, hlo, hce, hsl, hK, hSt, hNw, hz⟩ := hκ
  subst hj
  have hv9 : vp_in (nI j) N := vp_in_nI hjN hN
  have hcl : (nI j).toNatClampNeg = j := nI_clamp (by omega)
  intro H locs la hR hS hl
  refine W.iast hx hb (hR.at hc) ((hK.2 0 _ rfl).1 N (fun j => .int (f j))) (fun q => by cases q) (by show ¬ (_ < 0 ∨ (arrV _ _ _).slots.size ≤ _); rw [arrV_size]; exact hv9) rfl rfl hd fun H1 e z oq => ?_
  rw [hcl] at e
  refine kk H1 _ la (hR.set hc ?_ z oq) (ks_S.put hS z oq) hl
  show H1[g.1 + i]? = some (vp_cell _ _)
  rw [e, vp_cell_i, vp_cell_i, arrV_store]
  congr 2
  funext q
  by_cases hq : q = j
  · subst hq
    simp [updV, upd]
  · simp [updV, upd, hq]

theorem ks_zast (hκ : ks_Ok κ g own nm cc nL d mc ms) (pc : Nat) {i N : Nat} {f : Nat → Int32} {x y : Int32} (j : Nat) (hd : decode cc pc = .ok (.bastore, 1)) (hc : h[i]? = some (ks_Z g N f)) (hj : x = nI j) (hjN : j < N) (hN : N < 2 ^ 31) (hy : narrow .boolean (.int y) = .int y) (kk : ks_K κ g nL (h.set i (ks_Z g N (upd f j y))) k n (pc + 1) ls st) : ks_K κ g nL h k n pc ls (.int y :: .int x :: ks_ref g i :: st) := by
  obtain ⟨p, l, e, R, s, m, args, below, meth, c, Q⟩ := κ
  obtain ⟨hx, hb, hml, hown, hts, hin, hfr, hlo, hce, hsl, hK, hSt, hNw, hz⟩ := hκ
  subst hj
  have hv9 : vp_in (nI j) N := vp_in_nI hjN hN
  have hcl : (nI j).toNatClampNeg = j := nI_clamp (by omega)
  intro H locs la hR hS hl
  refine W.zast hx hb (hR.at hc) ((hK.2 1 _ rfl).1 N (fun j => .int (f j))) (fun q => by cases q) (by show ¬ (_ < 0 ∨ (arrV _ _ _).slots.size ≤ _); rw [arrV_size]; exact hv9) rfl rfl hd fun H1 e z oq => ?_
  rw [hcl, hy] at e
  refine kk H1 _ la (hR.set hc ?_ z oq) (ks_S.put hS z oq) hl
  show H1[g.1 + i]? = some (vp_cell _ _)
  rw [e, vp_cell_i, vp_cell_i, arrV_store]
  congr 2
  funext q
  by_cases hq : q = j
  · subst hq
    simp [updV, upd]
  · simp [updV, upd, hq]

theorem ks_aast (hκ : ks_Ok κ g own nm cc nL d mc ms) (pc : Nat) {i N a : Nat} {f : Nat → Option Nat} {vs : List Value} {x : Int32} (j : Nat) (hd : decode cc pc = .ok (.aastore, 1)) (hc : h[i]? = some (ks_S g N f)) (hv : h[a]? = some (ks_O 4 vs)) (hj : x = nI j) (hjN : j < N) (hN : N < 2 ^ 31) (kk : ks_K κ g nL (h.set i (ks_S g N (va_up f j (some a)))) k n (pc + 1) ls st) : ks_K κ g nL h k n pc ls (ks_ref g a :: .int x :: ks_ref g i :: st) := by
  obtain ⟨p, l, e, R, s, m, args, below, meth, c, Q⟩ := κ
  obtain ⟨hx, hb, hml, hown, hts, hin, hfr, hlo, hce, hsl, hK, hSt, hNw, hz⟩ := hκ
  subst hj
  have hv9 : vp_in (nI j) N := vp_in_nI hjN hN
  have hcl : (nI j).toNatClampNeg = j := nI_clamp (by omega)
  intro H locs la hR hS hl
  have hlt : (nI j).toNatClampNeg < N := by rw [hcl]; exact hjN
  have h0 : ¬ nI j < 0 := fun q => hv9 (Or.inl q)
  obtain ⟨r', hr', cellV, g1, g2, g3, -⟩ := hR.at hv
  have hcls := (hK.1 4 (RX4, TX4, 14) rfl).2
  obtain ⟨kA, comp, k1, k2, k3, -⟩ := (hK.2 2 _ rfl).2
  have hcomp : comp = g.2.1.1 4 := Option.some.inj (k3.symm.trans hcls.1)
  subst hcomp
  obtain ⟨kC, hkC, -⟩ := hcls.2
  refine W.aast hx hb (hR.at hc) (fun q h => by cases h) (fun h => by cases h) k1 k2 rfl hkC ⟨h0, by show _ < (arrV _ _ _).slots.size; rw [arrV_size]; exact hlt⟩ g1 (fun q h => by rw [g3] at h; cases h) (by rw [g2]; exact hkC) (by rw [g2]; exact va_assign hcls) rfl rfl hd fun H1 e z oq => ?_
  rw [hcl] at e
  refine kk H1 _ la (hR.set hc ?_ z oq) (ks_S.put hS z oq) hl
  show H1[g.1 + i]? = some (vp_cell _ _)
  rw [e, vp_cell_q, vp_cell_q, arrV_store]
  congr 2
  funext q
  by_cases hq : q = j
  · subst hq
    simp [updV, va_up, va_rf]
  · simp [updV, va_up, hq]

theorem ks_len (hκ : ks_Ok κ g own nm cc nL d mc ms) (pc : Nat) {i N : Nat} {f : Nat → Option Nat} (hd : decode cc pc = .ok (.arraylength, 1)) (hc : h[i]? = some (ks_S g N f)) (kk : ks_K κ g nL h k n (pc + 1) ls (.int (nI N) :: st)) : ks_K κ g nL h k n pc ls (ks_ref g i :: st) := by
  obtain ⟨p, l, e, R, s, m, args, below, meth, c, Q⟩ := κ
  obtain ⟨hx, hb, hml, hown, hts, hin, hfr, hlo, hce, hsl, hK, hSt, hNw, hz⟩ := hκ
  intro H locs la hR hS hl
  refine W.alen (n := nI N) hx hb (hR.at hc) ((hK.2 2 _ rfl).1 N _) (by show (arrV _ _ _).slots.size.toInt32 = _; rw [arrV_size]; rfl) rfl rfl hd ?_
  exact kk H locs la hR hS hl

theorem ks_leni (hκ : ks_Ok κ g own nm cc nL d mc ms) (pc : Nat) {i N : Nat} {f : Nat → Int32} (hd : decode cc pc = .ok (.arraylength, 1)) (hc : h[i]? = some (ks_I g N f)) (kk : ks_K κ g nL h k n (pc + 1) ls (.int (nI N) :: st)) : ks_K κ g nL h k n pc ls (ks_ref g i :: st) := by
  obtain ⟨p, l, e, R, s, m, args, below, meth, c, Q⟩ := κ
  obtain ⟨hx, hb, hml, hown, hts, hin, hfr, hlo, hce, hsl, hK, hSt, hNw, hz⟩ := hκ
  intro H locs la hR hS hl
  refine W.alen (n := nI N) hx hb (hR.at hc) ((hK.2 0 _ rfl).1 N _) (by show (arrV _ _ _).slots.size.toInt32 = _; rw [arrV_size]; rfl) rfl rfl hd ?_
  exact kk H locs la hR hS hl

theorem ks_new (hκ : ks_Ok κ g own nm cc nL d mc ms) (pc : Nat) {ix ci N : Nat} {fs : List Value} (hd : decode cc pc = .ok (.new ix, 3)) (hf : ks_New own ix ci fs) (hN : fs.length = N) (hk : k + 1 ≤ mc) (hn : n + N ≤ ms) (kk : ks_K κ g nL (h ++ [ks_O ci fs]) (k + 1) (n + N) (pc + 3) ls (ks_ref g h.length :: st)) : ks_K κ g nL h k n pc ls st := by
  obtain ⟨p, l, e, R, s, m, args, below, meth, c, Q⟩ := κ
  obtain ⟨hx, hb, hml, hown, hts, hin, hfr, hlo, hce, hsl, hK, hSt, hNw, hz⟩ := hκ
  obtain ⟨C, T, N, ty0, ⟨c1, c2, c3, c4⟩, f1, f2, f3, f4, rfl⟩ := hf
  subst hN
  intro H locs la hR hS hl
  have hKn := hK.1 ci _ c1
  refine W.newcK hx hb hown (hts _ f1) (hts _ f2) (hts _ f3) rfl hd (by rw [hce]; exact hk) (by rw [hsl]; exact hn) hKn.2.1 rfl fun H1 kC hkC e1 z1 o1 => ?_
  have := kk H1 locs la (hR.push ⟨_, c1, (u_born ty0 hts c2 hKn hkC e1 c3).to f4⟩ z1 o1) (ks_S.push hS z1 o1) hl
  rw [show ks_ref g h.length = .ref H.size by rw [hR.1]; rfl] at this
  exact this

theorem ks_newi (hκ : ks_Ok κ g own nm cc nL d mc ms) (pc : Nat) {N : Nat} {x : Int32} (hd : decode cc pc = .ok (.newarray .int, 2)) (hw : Cond.arrayClass .int ∈ lw_g) (hj : x = nI N) (hN : N < 2 ^ 20) (hk : k + 1 ≤ mc) (hn : n + N ≤ ms) (kk : ks_K κ g nL (h ++ [ks_I g N (fun _ => 0)]) (k + 1) (n + N) (pc + 2) ls (ks_ref g h.length :: st)) : ks_K κ g nL h k n pc ls (.int x :: st) := by
  obtain ⟨p, l, e, R, s, m, args, below, meth, c, Q⟩ := κ
  obtain ⟨hx, hb, hml, hown, hts, hin, hfr, hlo, hce, hsl, hK, hSt, hNw, hz⟩ := hκ
  subst hj
  intro H locs la hR hS hl
  have h31 : N < 2 ^ 31 := Nat.lt_of_lt_of_le hN (by decide)
  refine va_newaK (atype := .int) hx hb (hts _ hw) rfl hd rfl (nI_pos h31) (nI_clamp h31) (Nat.le_trans (Nat.mul_le_mul_right _ (Nat.le_of_lt hN)) (by decide)) (by rw [hce]; exact hk) (by rw [hsl]; exact hn) rfl fun H1 cA e1 z1 o1 hAr hNm => ?_
  have hcA : cA = g.2.2.1.1 := Option.some.inj (hNm.symm.trans (hK.2 0 _ rfl).2)
  have := kk H1 locs la (hR.push (e := ks_I g N (fun _ => 0)) (by show H1[H.size]? = some (vp_cell _ _); rw [e1, hcA, vp_cell_i]; rfl) z1 o1) (ks_S.push hS z1 o1) hl
  rw [show ks_ref g h.length = .ref H.size by rw [hR.1]; rfl] at this
  exact this

theorem ks_newz (hκ : ks_Ok κ g own nm cc nL d mc ms) (pc : Nat) {N : Nat} {x : Int32} (hd : decode cc pc = .ok (.newarray .boolean, 2)) (hw : Cond.arrayClass .boolean ∈ lw_g) (hj : x = nI N) (hN : N < 2 ^ 20) (hk : k + 1 ≤ mc) (hn : n + N ≤ ms) (kk : ks_K κ g nL (h ++ [ks_Z g N (fun _ => 0)]) (k + 1) (n + N) (pc + 2) ls (ks_ref g h.length :: st)) : ks_K κ g nL h k n pc ls (.int x :: st) := by
  obtain ⟨p, l, e, R, s, m, args, below, meth, c, Q⟩ := κ
  obtain ⟨hx, hb, hml, hown, hts, hin, hfr, hlo, hce, hsl, hK, hSt, hNw, hz⟩ := hκ
  subst hj
  intro H locs la hR hS hl
  have h31 : N < 2 ^ 31 := Nat.lt_of_lt_of_le hN (by decide)
  refine va_newaK (atype := .boolean) hx hb (hts _ hw) rfl hd rfl (nI_pos h31) (nI_clamp h31) (Nat.le_trans (Nat.mul_le_mul_right _ (Nat.le_of_lt hN)) (by decide)) (by rw [hce]; exact hk) (by rw [hsl]; exact hn) rfl fun H1 cA e1 z1 o1 hAr hNm => ?_
  have hcA : cA = g.2.2.1.2.1 := Option.some.inj (hNm.symm.trans (hK.2 1 _ rfl).2)
  have := kk H1 locs la (hR.push (e := ks_Z g N (fun _ => 0)) (by show H1[H.size]? = some (vp_cell _ _); rw [e1, hcA, vp_cell_i]; rfl) z1 o1) (ks_S.push hS z1 o1) hl
  rw [show ks_ref g h.length = .ref H.size by rw [hR.1]; rfl] at this
  exact this

theorem ks_newq (hκ : ks_Ok κ g own nm cc nL d mc ms) (pc : Nat) {ix N : Nat} {x : Int32} (hd : decode cc pc = .ok (.anewarray ix, 3)) (hw : Cond.classLink own ix RX4 ∈ lw_g) (hj : x = nI N) (hN : N < 2 ^ 20) (hk : k + 1 ≤ mc) (hn : n + N ≤ ms) (kk : ks_K κ g nL (h ++ [ks_S g N (fun _ => none)]) (k + 1) (n + N) (pc + 3) ls (ks_ref g h.length :: st)) : ks_K κ g nL h k n pc ls (.int x :: st) := by
  obtain ⟨p, l, e, R, s, m, args, below, meth, c, Q⟩ := κ
  obtain ⟨hx, hb, hml, hown, hts, hin, hfr, hlo, hce, hsl, hK, hSt, hNw, hz⟩ := hκ
  subst hj
  intro H locs la hR hS hl
  have h31 : N < 2 ^ 31 := Nat.lt_of_lt_of_le hN (by decide)
  refine W.anew hx hb hown (hts _ hw) (va_AO.use hNw.2.2) rfl hd rfl (nI_pos h31) (by rw [nI_clamp h31]; exact Nat.le_trans (Nat.mul_le_mul_right _ (Nat.le_of_lt hN)) (by decide)) (by rw [hce]; exact hk) (by rw [hsl, nI_clamp h31]; exact hn) fun cA kA comp f1 f2 f3 f4 => ?_
  rw [nI_clamp h31]
  generalize hH1 : H.push ({ cls := cA, slots := Array.replicate N .null, vm := .none } : Cell) = H1
  have z1 : H1.size = H.size + 1 := by rw [← hH1, Array.size_push]
  have e1 : H1[H.size]? = some (arrV cA N (fun _ => .null)) := by rw [← hH1, Array.getElem?_push_size, ← arrV_new]
  have o1 : ∀ q : Nat, q < H.size → H1[q]? = H[q]? := fun q hq => by rw [← hH1, Array.getElem?_push, if_neg (Nat.ne_of_lt hq)]
  obtain ⟨kA2, comp2, r1, r2, r3, r4⟩ := (hK.2 2 _ rfl).2
  have hcA : cA = g.2.2.1.2.2 := Option.some.inj (f1.symm.trans r4)
  have := kk H1 locs la (hR.push (e := ks_S g N (fun _ => none)) (by show H1[H.size]? = some (vp_cell _ _); rw [e1, hcA, vp_cell_q]; rfl) z1 o1) (ks_S.push hS z1 o1) hl
  rw [show ks_ref g h.length = .ref H.size by rw [hR.1]; rfl] at this
  exact this

theorem ks_objInit (hκ : ks_Ok κ g own nm cc nL d mc ms) (pc : Nat) {ix i : Nat} (hd : decode cc pc = .ok (.invokespecial ix, 3)) (h1 : Cond.methodLink own ix Lib.objectInit ∈ lw_g) (h2 : Cond.instanceMethod Lib.objectInit ∈ lw_g) (h3 : Cond.code Lib.objectInit ⟨#[0xb1]⟩ 1 none ∈ lw_g) (hd1 : 1 ≤ d) (hst : (st.map fun v => v.category).sum ≤ 8) (kk : ks_K κ g nL h k n (pc + 3) ls st) : ks_K κ g nL h k n pc ls (ks_ref g i :: st) := by
  obtain ⟨p, l, e, R, s, m, args, below, meth, c, Q⟩ := κ
  obtain ⟨hx, hb, hml, hown, hts, hin, hfr, hlo, hce, hsl, hK, hSt, hNw, hz⟩ := hκ
  intro H locs la hR hS hl
  exact W.objInit hx hb hown (hts _ h1) (hts _ h2) (hts _ h3) rfl (by rw [hml]; exact hl.1) rfl hd (by rw [hfr]; exact hd1) (by show 2 * 0 + _ + 12 ≤ _; omega) (kk H locs la hR hS hl)

theorem ks_max (hκ : ks_Ok κ g own nm cc nL d mc ms) (pc : Nat) {ix : Nat} {x y : Int32} (hd : decode cc pc = .ok (.invokestatic ix, 3)) (h1 : Cond.methodLink own ix Lib.Math.max.name ∈ lw_g) (h2 : Cond.static Lib.Math.max.name ∈ lw_g) (h3 : Cond.initialized "java/lang/Math" ∈ lw_g) (h4 : Cond.code Lib.Math.max.name Lib.Math.max.code 2 (some .int) ∈ lw_g) (hd1 : 1 ≤ d) (hk : k ≤ mc) (hn : n ≤ ms) (hst : (st.map fun v => v.category).sum ≤ 8) (kk : ks_K κ g nL h k n (pc + 3) ls (.int (if x < y then y else x) :: st)) : ks_K κ g nL h k n pc ls (.int y :: .int x :: st) := by
  obtain ⟨p, l, e, R, s, m, args, below, meth, c, Q⟩ := κ
  obtain ⟨hx, hb, hml, hown, hts, hin, hfr, hlo, hce, hsl, hK, hSt, hNw, hz⟩ := hκ
  intro H locs la hR hS hl
  exact va_mmax hx hb (hml.trans hl.1.symm) hown (hts _ h1) (hts _ h2) (hts _ h3) (hts _ h4) (by rw [hfr]; exact hd1) (by omega) (by rw [hce]; exact hk) (by rw [hsl]; exact hn) hd (kk H locs la hR hS hl)

theorem ks_abs (hκ : ks_Ok κ g own nm cc nL d mc ms) (pc : Nat) {ix : Nat} {x : Int32} (hd : decode cc pc = .ok (.invokestatic ix, 3)) (h1 : Cond.methodLink own ix Lib.Math.abs.name ∈ lw_g) (h2 : Cond.static Lib.Math.abs.name ∈ lw_g) (h3 : Cond.initialized "java/lang/Math" ∈ lw_g) (h4 : Cond.code Lib.Math.abs.name Lib.Math.abs.code 1 (some .int) ∈ lw_g) (hd1 : 1 ≤ d) (hk : k ≤ mc) (hn : n ≤ ms) (hst : (st.map fun v => v.category).sum ≤ 8) (kk : ks_K κ g nL h k n (pc + 3) ls (.int (if 0 ≤ x then x else 0 - x) :: st)) : ks_K κ g nL h k n pc ls (.int x :: st) := by
  obtain ⟨p, l, e, R, s, m, args, below, meth, c, Q⟩ := κ
  obtain ⟨hx, hb, hml, hown, hts, hin, hfr, hlo, hce, hsl, hK, hSt, hNw, hz⟩ := hκ
  intro H locs la hR hS hl
  exact va_mabs hx hb (hml.trans hl.1.symm) hown (hts _ h1) (hts _ h2) (hts _ h3) (hts _ h4) (by rw [hfr]; exact hd1) (by omega) (by rw [hce]; exact hk) (by rw [hsl]; exact hn) hd (kk H locs la hR hS hl)

theorem ks_getst0 (hκ : ks_Ok κ g own nm cc nL d mc ms) (pc : Nat) {ix : Nat} (hd : decode cc pc = .ok (.getstatic ix, 3)) (hw : (own, ix, RX6, "FIRST_VALUE", "[I", RX6) ∈ ks_nf) (kk : ks_K κ g nL h k n (pc + 3) ls (.ref g.2.2.2.1 :: st)) : ks_K κ g nL h k n pc ls st := by
  obtain ⟨p, l, e, R, s, m, args, below, meth, c, Q⟩ := κ
  obtain ⟨hx, hb, hml, hown, hts, hin, hfr, hlo, hce, hsl, hK, hSt, hNw, hz⟩ := hκ
  intro H locs la hR hS hl
  exact va_getsN hx hb hSt.1.1 hS hown (va_Nw.use rfl (hNw.2.1 _ hw)) (fun _ h9 => h9) hd (kk H locs la hR hS hl)

theorem ks_tald0 (hκ : ks_Ok κ g own nm cc nL d mc ms) (pc : Nat) {x : Int32} (j : Nat) (hd : decode cc pc = .ok (.iaload, 1)) (hj : x = nI j) (hjN : j < 4) (kk : ks_K κ g nL h k n (pc + 1) ls (.int (([3, 4, 5, 14] : List Int32).getD j 0) :: st)) : ks_K κ g nL h k n pc ls (.int x :: .ref g.2.2.2.1 :: st) := by
  obtain ⟨p, l, e, R, s, m, args, below, meth, c, Q⟩ := κ
  obtain ⟨hx, hb, hml, hown, hts, hin, hfr, hlo, hce, hsl, hK, hSt, hNw, hz⟩ := hκ
  subst hj
  intro H locs la hR hS hl
  have hcl : (nI j).toNatClampNeg = j := nI_clamp (by omega)
  exact va_ti hx hb hSt.1.2 hS (vp_in_nI hjN (by decide)) (by rw [hcl]) hd (kk H locs la hR hS hl)

theorem ks_getst1 (hκ : ks_Ok κ g own nm cc nL d mc ms) (pc : Nat) {ix : Nat} (hd : decode cc pc = .ok (.getstatic ix, 3)) (hw : (own, ix, RX6, "LOWEST", "[I", RX6) ∈ ks_nf) (kk : ks_K κ g nL h k n (pc + 3) ls (.ref g.2.2.2.2.1 :: st)) : ks_K κ g nL h k n pc ls st := by
  obtain ⟨p, l, e, R, s, m, args, below, meth, c, Q⟩ := κ
  obtain ⟨hx, hb, hml, hown, hts, hin, hfr, hlo, hce, hsl, hK, hSt, hNw, hz⟩ := hκ
  intro H locs la hR hS hl
  exact va_getsN hx hb hSt.2.1.1 hS hown (va_Nw.use rfl (hNw.2.1 _ hw)) (fun _ h9 => h9) hd (kk H locs la hR hS hl)

theorem ks_tald1 (hκ : ks_Ok κ g own nm cc nL d mc ms) (pc : Nat) {x : Int32} (j : Nat) (hd : decode cc pc = .ok (.iaload, 1)) (hj : x = nI j) (hjN : j < 4) (kk : ks_K κ g nL h k n (pc + 1) ls (.int (([1, 0, 1, 2] : List Int32).getD j 0) :: st)) : ks_K κ g nL h k n pc ls (.int x :: .ref g.2.2.2.2.1 :: st) := by
  obtain ⟨p, l, e, R, s, m, args, below, meth, c, Q⟩ := κ
  obtain ⟨hx, hb, hml, hown, hts, hin, hfr, hlo, hce, hsl, hK, hSt, hNw, hz⟩ := hκ
  subst hj
  intro H locs la hR hS hl
  have hcl : (nI j).toNatClampNeg = j := nI_clamp (by omega)
  exact va_ti hx hb hSt.2.1.2 hS (vp_in_nI hjN (by decide)) (by rw [hcl]) hd (kk H locs la hR hS hl)

theorem ks_getst2 (hκ : ks_Ok κ g own nm cc nL d mc ms) (pc : Nat) {ix : Nat} (hd : decode cc pc = .ok (.getstatic ix, 3)) (hw : (own, ix, RX6, "HIGHEST", "[I", RX6) ∈ ks_nf) (kk : ks_K κ g nL h k n (pc + 3) ls (.ref g.2.2.2.2.2 :: st)) : ks_K κ g nL h k n pc ls st := by
  obtain ⟨p, l, e, R, s, m, args, below, meth, c, Q⟩ := κ
  obtain ⟨hx, hb, hml, hown, hts, hin, hfr, hlo, hce, hsl, hK, hSt, hNw, hz⟩ := hκ
  intro H locs la hR hS hl
  exact va_getsN hx hb hSt.2.2.1 hS hown (va_Nw.use rfl (hNw.2.1 _ hw)) (fun _ h9 => h9) hd (kk H locs la hR hS hl)

theorem ks_tald2 (hκ : ks_Ok κ g own nm cc nL d mc ms) (pc : Nat) {x : Int32} (j : Nat) (hd : decode cc pc = .ok (.iaload, 1)) (hj : x = nI j) (hjN : j < 4) (kk : ks_K κ g nL h k n (pc + 1) ls (.int (([8, 15, 30, 60] : List Int32).getD j 0) :: st)) : ks_K κ g nL h k n pc ls (.int x :: .ref g.2.2.2.2.2 :: st) := by
  obtain ⟨p, l, e, R, s, m, args, below, meth, c, Q⟩ := κ
  obtain ⟨hx, hb, hml, hown, hts, hin, hfr, hlo, hce, hsl, hK, hSt, hNw, hz⟩ := hκ
  subst hj
  intro H locs la hR hS hl
  have hcl : (nI j).toNatClampNeg = j := nI_clamp (by omega)
  exact va_ti hx hb hSt.2.2.2 hS (vp_in_nI hjN (by decide)) (by rw [hcl]) hd (kk H locs la hR hS hl)


theorem ks_nn {z : Int32} (hz : ¬ z < 0) : z.toInt = (z.toNatClampNeg : Int) := by
  have hz0 : (0 : Int) ≤ z.toInt := by
    have := Int32.not_lt.mp hz
    simpa using Int32.le_iff_toInt_le.mp this
  show z.toInt = ((z.toInt.toNat : Nat) : Int)
  omega
theorem ks_copy0 {p : Program} {l : Launch} {e : Env} {R : Room} {s : State} {m : MethodId} {args : Array Value} {below : List Frame} {meth : Method} {c : Code} {H : Heap} {locs : List Loc} {cells slots : Nat} {Q : State → Prop} {la : Array Slot} {pc : Nat}
    (hx : p.tables.exec = Jvm.exec) (hb : c.code = cc) (hml : c.maxLocals = la.size) {ix : Nat} (hown : s.vm.findClass own = some m.cls) (hlink : (Cond.methodLink own ix arraycopyName).before args s = true) (hnat : (Cond.native arraycopyName).before args s = true) (hstat : (Cond.static arraycopyName).before args s = true) (hini : (Cond.initialized "java/lang/System").before args s = true)
    {a0 a1 : Nat} {scr : Cell} {c1 : ClassId} {n0 n1 N : Nat} {f z : Nat → Int32} (hc0 : H[a0]? = some scr) (hof : s.isArrayOf scr .int) (hkn : scr.vm ≠ .unknown) (hn0 : n0 ≤ scr.slots.size) (hval : ∀ j : Nat, j < n0 → scr.slots[j]? = some (.int (f j)))
    (hc1 : H[a1]? = some (vp_cell c1 (n1, .inl z))) (ha1 : ArrOfT s c1 .int) (h4 : N ≤ n0) (h5 : N ≤ n1) (hN : N < 2 ^ 31)
    (hframes : 1 ≤ R.frames) (hlocals : (st.map fun v => v.category).sum + (nativeFrameWords "java/lang/System" "arraycopy" 5 + 11) ≤ R.locals) (hd : decode cc pc = .ok (.invokestatic ix, 3))
    (kk : ∀ (H1 : Heap) (locs1 : List Loc), H1[a1]? = some (vp_cell c1 (n1, .inl (va_cpy f z 0 0 N))) → H1.size = H.size → (∀ q : Nat, q ≠ a1 → H1[q]? = H[q]?) → (∀ x ∈ locs1, x.base = a1) → W p l e R s m args below meth c H1 (locs ++ locs1) cells slots Q (F0 m (pc + 3) la st)) :
    W p l e R s m args below meth c H locs cells slots Q (F0 m pc la (.int (nI N) :: .int (nI 0) :: .ref a1 :: .int (nI 0) :: .ref a0 :: st)) := by
  have hcN : (nI N).toNatClampNeg = N := nI_clamp hN
  have hc0' : (nI 0).toNatClampNeg = 0 := nI_clamp (by decide)
  have p0 : ¬ nI 0 < 0 := nI_pos (by decide)
  have pN : ¬ nI N < 0 := nI_pos hN
  intro T hT X
  obtain ⟨hs2, k0, hk0, cm0, hkk0⟩ := hof
  obtain ⟨-, k1, hk1, cm1, hkk1⟩ := ha1 n1 (fun j => .int (z j))
  obtain ⟨vm', X', step⟩ := X.arraycopy hx hown hlink hnat hstat hini (src := a0) (dst := a1) (cs := scr) (cd := vp_cell c1 (n1, .inl z)) (srcPos := nI 0) (destPos := nI 0) (n := nI N) (by rw [hT]; exact hc0) (by rw [hT]; exact hc1)
    hs2 (fun _ h => by cases h) hkn (fun h => by cases h) hk0 hk1 hkk0 hkk1 rfl p0 p0 pN
    (by rw [ks_nn p0, ks_nn pN, hcN, hc0']; omega)
    (by rw [ks_nn p0, ks_nn pN, hcN, hc0']; show ¬ _ > ((arrV c1 n1 (fun j => .int (z j))).slots.size : Int); rw [arrV_size]; omega)
    (fun vm₁ _ i hi => by
      rw [hcN] at hi
      have ev : scr.slots.getD ((nI 0).toNatClampNeg + i) .null = .int (f i) := by
        rw [hc0', Nat.zero_add, Array.getD_eq_getD_getElem?, hval i (by omega)]
        rfl
      rw [ev]
      exact ⟨rfl, trivial⟩)
    (g := F0 m pc la (.int (nI N) :: .int (nI 0) :: .ref a1 :: .int (nI 0) :: .ref a0 :: st)) rfl (by rw [hml]) (rest := st) rfl (by rw [hb]; exact hd) hframes (by show 2 * 0 + _ + _ ≤ _; omega)
  have e1 : copied scr (vp_cell c1 (n1, .inl z)) (nI 0) (nI 0) (nI N) = vp_cell c1 (n1, .inl (va_cpy f z 0 0 N)) := by
    have := va_copiedX (fun v => Value.int v) scr c1 (n0 := n0) (n1 := n1) (sp := 0) (dp := 0) (n := N) f z hval (by omega)
    unfold copied
    rw [hc0', hcN]
    exact this
  rw [e1] at X' step
  have hl : a1 < H.size := (Array.getElem?_eq_some_iff.mp hc1).1
  have hheap : ((T.setVm vm').setCell a1 (vp_cell c1 (n1, .inl (va_cpy f z 0 0 N)))).heap = H.setIfInBounds a1 (vp_cell c1 (n1, .inl (va_cpy f z 0 0 N))) := by rw [← hT]; rfl
  obtain ⟨t, b1, b2⟩ := kk (H.setIfInBounds a1 (vp_cell c1 (n1, .inl (va_cpy f z 0 0 N)))) _ (by simp [Array.getElem?_setIfInBounds, hl]) (by simp) (fun q hq => by simp [Array.getElem?_setIfInBounds, Ne.symm hq]) (fun x hx => by
      obtain ⟨z, -, hz⟩ := List.mem_map.mp hx
      rw [← hz]) _ hheap X'
  exact ⟨t, step t b1, b2⟩

theorem ks_acopy (hκ : ks_Ok κ g own nm cc nL d mc ms) (pc : Nat) {ix i0 i1 n0 n1 : Nat} {f z : Nat → Int32} {x y w : Int32} (N : Nat) (hd : decode cc pc = .ok (.invokestatic ix, 3)) (h1 : Cond.methodLink own ix arraycopyName ∈ lw_g) (h2 : Cond.native arraycopyName ∈ lw_g) (h3 : Cond.static arraycopyName ∈ lw_g) (h4 : Cond.initialized "java/lang/System" ∈ lw_g) (hd1 : 1 ≤ d) (hst : (st.map fun v => v.category).sum ≤ 8) (hc0 : h[i0]? = some (ks_I g n0 f)) (hc1 : h[i1]? = some (ks_I g n1 z)) (hx9 : x = nI N) (hy9 : y = nI 0) (hw9 : w = nI 0) (hN0 : N ≤ n0) (hN1 : N ≤ n1) (hN : N < 2 ^ 31) (kk : ks_K κ g nL (h.set i1 (ks_I g n1 (va_cpy f z 0 0 N))) k n (pc + 3) ls st) : ks_K κ g nL h k n pc ls (.int x :: .int y :: ks_ref g i1 :: .int w :: ks_ref g i0 :: st) := by
  obtain ⟨p, l, e, R, s, m, args, below, meth, c, Q⟩ := κ
  obtain ⟨hx, hb, hml, hown, hts, hin, hfr, hlo, hce, hsl, hK, hSt, hNw, hz⟩ := hκ
  subst hx9; subst hy9; subst hw9
  intro H locs la hR hS hl
  refine ks_copy0 (n0 := n0) hx hb (hml.trans hl.1.symm) hown (hts _ h1) (hts _ h2) (hts _ h3) (hts _ h4) (hR.at hc0) ((hK.2 0 _ rfl).1 n0 (fun j => .int (f j))) (fun q => by cases q) (by show _ ≤ (arrV _ _ _).slots.size; rw [arrV_size]; exact Nat.le_refl _) (fun j hj => by show (arrV _ _ _).slots[_]? = _; rw [arrV_read _ _ hj]) (hR.at hc1) (hK.2 0 _ rfl).1 hN0 hN1 hN (by rw [hfr]; exact hd1) (Nat.le_trans (Nat.add_le_add_right hst _) (Nat.le_trans (by decide) (Nat.le_trans (Nat.mul_le_mul_left 40 hd1) hlo))) hd fun H1 locs1 e1 z1 o1 hl1 => ?_
  refine kk H1 _ la (hR.set hc1 e1 z1 o1) ⟨by rw [z1]; exact hS.1, fun q g1 g2 => (o1 q (fun e => g2 (by rw [e]; exact Nat.le_add_right _ _))).trans (hS.2.1 q g1 g2), fun q hq => ?_⟩ hl
  rcases List.mem_append.mp hq with h | h
  · exact hS.2.2 q h
  · rw [hl1 q h]; exact Nat.le_add_right _ _

theorem ks_acopyT (hκ : ks_Ok κ g own nm cc nL d mc ms) (pc : Nat) {ix i1 n1 : Nat} {z : Nat → Int32} {x y w : Int32} (N : Nat) (hd : decode cc pc = .ok (.invokestatic ix, 3)) (h1 : Cond.methodLink own ix arraycopyName ∈ lw_g) (h2 : Cond.native arraycopyName ∈ lw_g) (h3 : Cond.static arraycopyName ∈ lw_g) (h4 : Cond.initialized "java/lang/System" ∈ lw_g) (hd1 : 1 ≤ d) (hst : (st.map fun v => v.category).sum ≤ 8) (hc1 : h[i1]? = some (ks_I g n1 z)) (hx9 : x = nI N) (hy9 : y = nI 0) (hw9 : w = nI 0) (hN0 : N ≤ 4) (hN1 : N ≤ n1) (kk : ks_K κ g nL (h.set i1 (ks_I g n1 (va_cpy (fun j => ([3, 4, 5, 14] : List Int32).getD j 0) z 0 0 N))) k n (pc + 3) ls st) : ks_K κ g nL h k n pc ls (.int x :: .int y :: ks_ref g i1 :: .int w :: .ref g.2.2.2.1 :: st) := by
  obtain ⟨p, l, e, R, s, m, args, below, meth, c, Q⟩ := κ
  obtain ⟨hx, hb, hml, hown, hts, hin, hfr, hlo, hce, hsl, hK, hSt, hNw, hz⟩ := hκ
  subst hx9; subst hy9; subst hw9
  intro H locs la hR hS hl
  obtain ⟨cell, t1, t2, t3, t4, t5, t6, t7⟩ := hSt.1.2
  refine ks_copy0 (n0 := 4) hx hb (hml.trans hl.1.symm) hown (hts _ h1) (hts _ h2) (hts _ h3) (hts _ h4) (by rw [hS.2.1 _ (Array.getElem?_eq_some_iff.mp t1).1 t7]; exact t1) t2 t3 t4 t6 (hR.at hc1) (hK.2 0 _ rfl).1 hN0 hN1 (Nat.lt_of_le_of_lt hN0 (by decide)) (by rw [hfr]; exact hd1) (Nat.le_trans (Nat.add_le_add_right hst _) (Nat.le_trans (by decide) (Nat.le_trans (Nat.mul_le_mul_left 40 hd1) hlo))) hd fun H1 locs1 e1 z1 o1 hl1 => ?_
  refine kk H1 _ la (hR.set hc1 e1 z1 o1) ⟨by rw [z1]; exact hS.1, fun q g1 g2 => (o1 q (fun e => g2 (by rw [e]; exact Nat.le_add_right _ _))).trans (hS.2.1 q g1 g2), fun q hq => ?_⟩ hl
  rcases List.mem_append.mp hq with h | h
  · exact hS.2.2 q h
  · rw [hl1 q h]; exact Nat.le_add_right _ _


theorem ks_blind {av : List Value} : FrameBlind (va_Pc av (ks_W g h)) := fun a U gf mk q => ⟨q.1, q.2.1, va_K.moved (u := U) (U := U.calling gf mk a) (Vm.Alike.refl U.vm) q.2.2.1, q.2.2.2.1.moved (u := U) (U := U.calling gf mk a) (Vm.Alike.refl U.vm), q.2.2.2.2.same (u := U) (U := U.calling gf mk a) rfl⟩
theorem ks_W.at {s U : State} {H : Heap} {locs : List Loc} (hU : U.heap = H) (hW : s.WarmedH U.vm) (hR : ks_R g h H) (hS : va_S (ks_A g) s.heap H locs) (hK : va_K g.2.1 vwCl (ks_tys g) s) (hSt : ks_St g s s.heap) (hNw : ks_Nw s) : ks_W g h U :=
  ⟨by rw [hU]; exact hR, va_K.moved hW.alike hK, by rw [hU]; exact (hSt.kept hS.2.1).moved hW.alike, hNw.warm hW⟩

theorem ks_callV0 (hκ : ks_Ok κ g own nm cc nL d mc ms) (pc : Nat) {ix i ci dc mc' ms' nL' : Nat} {cc' : ByteArray} {y : MethodName} {ret : Option FieldType} {fs : List Value} {Post : Option Value → ks_H → Prop} (hd : decode cc pc = .ok (.invokevirtual ix, 3)) (hw : ks_CV own ix y cc' nL' ret 0) (hM : ks_Met g (y, cc', nL', ret) dc mc' ms' [ks_ref g i] h Post) (hc : h[i]? = some (ks_O ci fs)) (hcl : (vwCl[ci]?).map (fun q => q.1) = some y.cls) (hdc : dc < d) (hk : k + mc' ≤ mc) (hn : n + ms' ≤ ms) (hst : (st.map fun v => v.category).sum ≤ 8) (kk : ∀ (v : Option Value) (h' : ks_H), Post v h' → ks_K κ g nL h' (k + mc') (n + ms') (pc + 3) ls (v.toList ++ st)) : ks_K κ g nL h k n pc ls (ks_ref g i :: st) := by
  obtain ⟨p, l, e, R, s, m, args, below, meth, c, Q⟩ := κ
  obtain ⟨hx, hb, hml, hown, hts, hin, hfr, hlo, hce, hsl, hK, hSt, hNw, hz⟩ := hκ
  obtain ⟨⟨i1, i2, i3, i4, i5⟩, hln, hrest⟩ := hw
  have hG := ks_good i2
  have hini := hts _ i1
  have hcw : Cond.code y cc' nL' ret ∈ (Cond.code y cc' nL' ret :: lw_g) := List.mem_cons_self
  have hlen : ∀ sig, parseMethodDescriptor y.desc = some sig → 0 = sig.parameters.length := fun sig hs => by
    have h2 := i4
    rw [hs] at h2
    exact (Option.some.inj h2).symm
  have hfr' : (ks_room dc mc' ms').frames + 1 ≤ R.frames := by rw [hfr]; exact hdc
  have hlo' : 8 + (nL' + 11) + (ks_room dc mc' ms').locals ≤ R.locals := by show 8 + (nL' + 11) + 40 * dc ≤ R.locals; omega
  intro H locs la hR hS hl T hT X
  obtain ⟨q, hq1, hq2⟩ : ∃ q, vwCl[ci]? = some q ∧ q.1 = y.cls := by
    cases hv : vwCl[ci]? with
    | none => rw [hv] at hcl; cases hcl
    | some q => rw [hv] at hcl; exact ⟨q, rfl, Option.some.inj hcl⟩
  have hrc := va_recv hK hR.2 hq1 (ks_wl_get hc)
  rw [hq2] at hrc
  obtain ⟨v, st₀, t, T', L, h0, X', hL, e1, e2, ⟨⟨v', h', hv, hPo, hR'⟩, hF⟩, st9⟩ := va_runV (As := []) (rest := st) (C := y.cls) (n := 0) ⟨hx, hb, hml, hown, hts⟩ (hM l) ⟨⟨rfl, rfl, hfr', hlo', pay_in hts hG, hcw, hts _ i2, hini, i3, hlen, hts _ hln⟩, hts _ hrest.1, hts _ hrest.2⟩ ⟨ks_blind, hrc, fun U hU hW => ⟨rfl, ks_W.at hU hW hR hS hK hSt hNw⟩⟩ (g := F0 m pc la (.ref (g.1 + i) :: st)) rfl rfl (hl.1) rfl (lv_room hst) hd ⟨by rw [hce]; exact hk, by rw [hsl]; exact hn⟩ T hT X
  cases hv
  obtain ⟨t2, a1, b1⟩ := kk v h' hPo T'.heap (locs ++ L) la (by rw [e1]; exact hR') ⟨Nat.le_trans hS.1 (by rw [e1, ← h0]; exact hF.1), fun q g1 g2 => by
      rw [e1, hF.2 q (by rw [h0]; exact Nat.lt_of_lt_of_le g1 hS.1) g2, h0]
      exact hS.2.1 q g1 g2, fun q hq => by
      rcases List.mem_append.mp hq with h | h
      · exact hS.2.2 q h
      · exact hL q h⟩ hl T' rfl X'
  exact ⟨t2, st9 t2 a1, b1⟩

theorem ks_callS0 (hκ : ks_Ok κ g own nm cc nL d mc ms) (pc : Nat) {ix dc mc' ms' nL' : Nat} {cc' : ByteArray} {y : MethodName} {ret : Option FieldType} {Post : Option Value → ks_H → Prop} (hd : decode cc pc = .ok (.invokestatic ix, 3)) (hw : ks_CS own ix y cc' nL' ret 0) (hM : ks_Met g (y, cc', nL', ret) dc mc' ms' [] h Post) (hdc : dc < d) (hk : k + mc' ≤ mc) (hn : n + ms' ≤ ms) (hst : (st.map fun v => v.category).sum ≤ 8) (kk : ∀ (v : Option Value) (h' : ks_H), Post v h' → ks_K κ g nL h' (k + mc') (n + ms') (pc + 3) ls (v.toList ++ st)) : ks_K κ g nL h k n pc ls (st) := by
  obtain ⟨p, l, e, R, s, m, args, below, meth, c, Q⟩ := κ
  obtain ⟨hx, hb, hml, hown, hts, hin, hfr, hlo, hce, hsl, hK, hSt, hNw, hz⟩ := hκ
  obtain ⟨⟨i1, i2, i3, i4, i5⟩, hln, hrest⟩ := hw
  have hG := ks_good i2
  have hini := hts _ i1
  have hcw : Cond.code y cc' nL' ret ∈ (Cond.code y cc' nL' ret :: lw_g) := List.mem_cons_self
  have hlen : ∀ sig, parseMethodDescriptor y.desc = some sig → 0 = sig.parameters.length := fun sig hs => by
    have h2 := i4
    rw [hs] at h2
    exact (Option.some.inj h2).symm
  have hfr' : (ks_room dc mc' ms').frames + 1 ≤ R.frames := by rw [hfr]; exact hdc
  have hlo' : 8 + (nL' + 11) + (ks_room dc mc' ms').locals ≤ R.locals := by show 8 + (nL' + 11) + 40 * dc ≤ R.locals; omega
  intro H locs la hR hS hl T hT X
  have hpre : PreS s H (va_Pc [] (ks_W g h)) [] := ⟨ks_blind, fun U hU hW => ⟨rfl, ks_W.at hU hW hR hS hK hSt hNw⟩⟩
  have hrun : va_Run p l e R s m args below meth c H locs k n mc' ms' (F0 m pc la (st)) st (ks_Q g Post ([] : List Value).toArray) (ks_A g) := by
    rcases hln with hln | ⟨host, hln⟩
    · exact va_runS (As := []) (rest := st) (n := 0) ⟨hx, hb, hml, hown, hts⟩ (hM l) ⟨⟨rfl, rfl, hfr', hlo', pay_in hts hG, hcw, hts _ i2, hini, i3, hlen, hts _ hln⟩, hts _ hrest⟩ hpre (g := F0 m pc la (st)) rfl rfl (hl.1) rfl (lv_room hst) hd ⟨by rw [hce]; exact hk, by rw [hsl]; exact hn⟩
    · exact va_runSN (As := []) (rest := st) (n := 0) (host := host) ⟨hx, hb, hml, hown, hts⟩ (hM l) ⟨⟨⟨rfl, rfl, hfr', hlo', pay_in hts hG, hcw⟩, hts _ i2, hini, i3, hlen, va_Nw.use rfl (hNw.1 _ hln)⟩, hts _ hrest, trivial⟩ hpre (g := F0 m pc la (st)) rfl rfl (hl.1) rfl (lv_room hst) hd ⟨by rw [hce]; exact hk, by rw [hsl]; exact hn⟩
  obtain ⟨v, st₀, t, T', L, h0, X', hL, e1, e2, ⟨⟨v', h', hv, hPo, hR'⟩, hF⟩, st9⟩ := hrun T hT X
  cases hv
  obtain ⟨t2, a1, b1⟩ := kk v h' hPo T'.heap (locs ++ L) la (by rw [e1]; exact hR') ⟨Nat.le_trans hS.1 (by rw [e1, ← h0]; exact hF.1), fun q g1 g2 => by
      rw [e1, hF.2 q (by rw [h0]; exact Nat.lt_of_lt_of_le g1 hS.1) g2, h0]
      exact hS.2.1 q g1 g2, fun q hq => by
      rcases List.mem_append.mp hq with h | h
      · exact hS.2.2 q h
      · exact hL q h⟩ hl T' rfl X'
  exact ⟨t2, st9 t2 a1, b1⟩

theorem ks_callV1 (hκ : ks_Ok κ g own nm cc nL d mc ms) (pc : Nat) {ix i ci dc mc' ms' nL' : Nat} {cc' : ByteArray} {y : MethodName} {ret : Option FieldType} {fs : List Value} {Post : Option Value → ks_H → Prop} {a1 : Value} (hd : decode cc pc = .ok (.invokevirtual ix, 3)) (hw : ks_CV own ix y cc' nL' ret 1) (hM : ks_Met g (y, cc', nL', ret) dc mc' ms' [ks_ref g i, a1] h Post) (hc : h[i]? = some (ks_O ci fs)) (hcl : (vwCl[ci]?).map (fun q => q.1) = some y.cls) (hdc : dc < d) (hk : k + mc' ≤ mc) (hn : n + ms' ≤ ms) (hst : (st.map fun v => v.category).sum ≤ 8) (kk : ∀ (v : Option Value) (h' : ks_H), Post v h' → ks_K κ g nL h' (k + mc') (n + ms') (pc + 3) ls (v.toList ++ st)) : ks_K κ g nL h k n pc ls (a1 :: ks_ref g i :: st) := by
  obtain ⟨p, l, e, R, s, m, args, below, meth, c, Q⟩ := κ
  obtain ⟨hx, hb, hml, hown, hts, hin, hfr, hlo, hce, hsl, hK, hSt, hNw, hz⟩ := hκ
  obtain ⟨⟨i1, i2, i3, i4, i5⟩, hln, hrest⟩ := hw
  have hG := ks_good i2
  have hini := hts _ i1
  have hcw : Cond.code y cc' nL' ret ∈ (Cond.code y cc' nL' ret :: lw_g) := List.mem_cons_self
  have hlen : ∀ sig, parseMethodDescriptor y.desc = some sig → 1 = sig.parameters.length := fun sig hs => by
    have h2 := i4
    rw [hs] at h2
    exact (Option.some.inj h2).symm
  have hfr' : (ks_room dc mc' ms').frames + 1 ≤ R.frames := by rw [hfr]; exact hdc
  have hlo' : 8 + (nL' + 11) + (ks_room dc mc' ms').locals ≤ R.locals := by show 8 + (nL' + 11) + 40 * dc ≤ R.locals; omega
  intro H locs la hR hS hl T hT X
  obtain ⟨q, hq1, hq2⟩ : ∃ q, vwCl[ci]? = some q ∧ q.1 = y.cls := by
    cases hv : vwCl[ci]? with
    | none => rw [hv] at hcl; cases hcl
    | some q => rw [hv] at hcl; exact ⟨q, rfl, Option.some.inj hcl⟩
  have hrc := va_recv hK hR.2 hq1 (ks_wl_get hc)
  rw [hq2] at hrc
  obtain ⟨v, st₀, t, T', L, h0, X', hL, e1, e2, ⟨⟨v', h', hv, hPo, hR'⟩, hF⟩, st9⟩ := va_runV (As := [a1]) (rest := st) (C := y.cls) (n := 1) ⟨hx, hb, hml, hown, hts⟩ (hM l) ⟨⟨rfl, rfl, hfr', hlo', pay_in hts hG, hcw, hts _ i2, hini, i3, hlen, hts _ hln⟩, hts _ hrest.1, hts _ hrest.2⟩ ⟨ks_blind, hrc, fun U hU hW => ⟨rfl, ks_W.at hU hW hR hS hK hSt hNw⟩⟩ (g := F0 m pc la (a1 :: .ref (g.1 + i) :: st)) rfl rfl (hl.1) rfl (lv_room hst) hd ⟨by rw [hce]; exact hk, by rw [hsl]; exact hn⟩ T hT X
  cases hv
  obtain ⟨t2, a1, b1⟩ := kk v h' hPo T'.heap (locs ++ L) la (by rw [e1]; exact hR') ⟨Nat.le_trans hS.1 (by rw [e1, ← h0]; exact hF.1), fun q g1 g2 => by
      rw [e1, hF.2 q (by rw [h0]; exact Nat.lt_of_lt_of_le g1 hS.1) g2, h0]
      exact hS.2.1 q g1 g2, fun q hq => by
      rcases List.mem_append.mp hq with h | h
      · exact hS.2.2 q h
      · exact hL q h⟩ hl T' rfl X'
  exact ⟨t2, st9 t2 a1, b1⟩

theorem ks_callS1 (hκ : ks_Ok κ g own nm cc nL d mc ms) (pc : Nat) {ix dc mc' ms' nL' : Nat} {cc' : ByteArray} {y : MethodName} {ret : Option FieldType} {Post : Option Value → ks_H → Prop} {a1 : Value} (hd : decode cc pc = .ok (.invokestatic ix, 3)) (hw : ks_CS own ix y cc' nL' ret 1) (hM : ks_Met g (y, cc', nL', ret) dc mc' ms' [a1] h Post) (hdc : dc < d) (hk : k + mc' ≤ mc) (hn : n + ms' ≤ ms) (hst : (st.map fun v => v.category).sum ≤ 8) (kk : ∀ (v : Option Value) (h' : ks_H), Post v h' → ks_K κ g nL h' (k + mc') (n + ms') (pc + 3) ls (v.toList ++ st)) : ks_K κ g nL h k n pc ls (a1 :: st) := by
  obtain ⟨p, l, e, R, s, m, args, below, meth, c, Q⟩ := κ
  obtain ⟨hx, hb, hml, hown, hts, hin, hfr, hlo, hce, hsl, hK, hSt, hNw, hz⟩ := hκ
  obtain ⟨⟨i1, i2, i3, i4, i5⟩, hln, hrest⟩ := hw
  have hG := ks_good i2
  have hini := hts _ i1
  have hcw : Cond.code y cc' nL' ret ∈ (Cond.code y cc' nL' ret :: lw_g) := List.mem_cons_self
  have hlen : ∀ sig, parseMethodDescriptor y.desc = some sig → 1 = sig.parameters.length := fun sig hs => by
    have h2 := i4
    rw [hs] at h2
    exact (Option.some.inj h2).symm
  have hfr' : (ks_room dc mc' ms').frames + 1 ≤ R.frames := by rw [hfr]; exact hdc
  have hlo' : 8 + (nL' + 11) + (ks_room dc mc' ms').locals ≤ R.locals := by show 8 + (nL' + 11) + 40 * dc ≤ R.locals; omega
  intro H locs la hR hS hl T hT X
  have hpre : PreS s H (va_Pc [a1] (ks_W g h)) [a1] := ⟨ks_blind, fun U hU hW => ⟨rfl, ks_W.at hU hW hR hS hK hSt hNw⟩⟩
  have hrun : va_Run p l e R s m args below meth c H locs k n mc' ms' (F0 m pc la (a1 :: st)) st (ks_Q g Post ([a1] : List Value).toArray) (ks_A g) := by
    rcases hln with hln | ⟨host, hln⟩
    · exact va_runS (As := [a1]) (rest := st) (n := 1) ⟨hx, hb, hml, hown, hts⟩ (hM l) ⟨⟨rfl, rfl, hfr', hlo', pay_in hts hG, hcw, hts _ i2, hini, i3, hlen, hts _ hln⟩, hts _ hrest⟩ hpre (g := F0 m pc la (a1 :: st)) rfl rfl (hl.1) rfl (lv_room hst) hd ⟨by rw [hce]; exact hk, by rw [hsl]; exact hn⟩
    · exact va_runSN (As := [a1]) (rest := st) (n := 1) (host := host) ⟨hx, hb, hml, hown, hts⟩ (hM l) ⟨⟨⟨rfl, rfl, hfr', hlo', pay_in hts hG, hcw⟩, hts _ i2, hini, i3, hlen, va_Nw.use rfl (hNw.1 _ hln)⟩, hts _ hrest, trivial⟩ hpre (g := F0 m pc la (a1 :: st)) rfl rfl (hl.1) rfl (lv_room hst) hd ⟨by rw [hce]; exact hk, by rw [hsl]; exact hn⟩
  obtain ⟨v, st₀, t, T', L, h0, X', hL, e1, e2, ⟨⟨v', h', hv, hPo, hR'⟩, hF⟩, st9⟩ := hrun T hT X
  cases hv
  obtain ⟨t2, a1, b1⟩ := kk v h' hPo T'.heap (locs ++ L) la (by rw [e1]; exact hR') ⟨Nat.le_trans hS.1 (by rw [e1, ← h0]; exact hF.1), fun q g1 g2 => by
      rw [e1, hF.2 q (by rw [h0]; exact Nat.lt_of_lt_of_le g1 hS.1) g2, h0]
      exact hS.2.1 q g1 g2, fun q hq => by
      rcases List.mem_append.mp hq with h | h
      · exact hS.2.2 q h
      · exact hL q h⟩ hl T' rfl X'
  exact ⟨t2, st9 t2 a1, b1⟩

theorem ks_callV2 (hκ : ks_Ok κ g own nm cc nL d mc ms) (pc : Nat) {ix i ci dc mc' ms' nL' : Nat} {cc' : ByteArray} {y : MethodName} {ret : Option FieldType} {fs : List Value} {Post : Option Value → ks_H → Prop} {a1 a2 : Value} (hd : decode cc pc = .ok (.invokevirtual ix, 3)) (hw : ks_CV own ix y cc' nL' ret 2) (hM : ks_Met g (y, cc', nL', ret) dc mc' ms' [ks_ref g i, a1, a2] h Post) (hc : h[i]? = some (ks_O ci fs)) (hcl : (vwCl[ci]?).map (fun q => q.1) = some y.cls) (hdc : dc < d) (hk : k + mc' ≤ mc) (hn : n + ms' ≤ ms) (hst : (st.map fun v => v.category).sum ≤ 8) (kk : ∀ (v : Option Value) (h' : ks_H), Post v h' → ks_K κ g nL h' (k + mc') (n + ms') (pc + 3) ls (v.toList ++ st)) : ks_K κ g nL h k n pc ls (a2 :: a1 :: ks_ref g i :: st) := by
  obtain ⟨p, l, e, R, s, m, args, below, meth, c, Q⟩ := κ
  obtain ⟨hx, hb, hml, hown, hts, hin, hfr, hlo, hce, hsl, hK, hSt, hNw, hz⟩ := hκ
  obtain ⟨⟨i1, i2, i3, i4, i5⟩, hln, hrest⟩ := hw
  have hG := ks_good i2
  have hini := hts _ i1
  have hcw : Cond.code y cc' nL' ret ∈ (Cond.code y cc' nL' ret :: lw_g) := List.mem_cons_self
  have hlen : ∀ sig, parseMethodDescriptor y.desc = some sig → 2 = sig.parameters.length := fun sig hs => by
    have h2 := i4
    rw [hs] at h2
    exact (Option.some.inj h2).symm
  have hfr' : (ks_room dc mc' ms').frames + 1 ≤ R.frames := by rw [hfr]; exact hdc
  have hlo' : 8 + (nL' + 11) + (ks_room dc mc' ms').locals ≤ R.locals := by show 8 + (nL' + 11) + 40 * dc ≤ R.locals; omega
  intro H locs la hR hS hl T hT X
  obtain ⟨q, hq1, hq2⟩ : ∃ q, vwCl[ci]? = some q ∧ q.1 = y.cls := by
    cases hv : vwCl[ci]? with
    | none => rw [hv] at hcl; cases hcl
    | some q => rw [hv] at hcl; exact ⟨q, rfl, Option.some.inj hcl⟩
  have hrc := va_recv hK hR.2 hq1 (ks_wl_get hc)
  rw [hq2] at hrc
  obtain ⟨v, st₀, t, T', L, h0, X', hL, e1, e2, ⟨⟨v', h', hv, hPo, hR'⟩, hF⟩, st9⟩ := va_runV (As := [a1, a2]) (rest := st) (C := y.cls) (n := 2) ⟨hx, hb, hml, hown, hts⟩ (hM l) ⟨⟨rfl, rfl, hfr', hlo', pay_in hts hG, hcw, hts _ i2, hini, i3, hlen, hts _ hln⟩, hts _ hrest.1, hts _ hrest.2⟩ ⟨ks_blind, hrc, fun U hU hW => ⟨rfl, ks_W.at hU hW hR hS hK hSt hNw⟩⟩ (g := F0 m pc la (a2 :: a1 :: .ref (g.1 + i) :: st)) rfl rfl (hl.1) rfl (lv_room hst) hd ⟨by rw [hce]; exact hk, by rw [hsl]; exact hn⟩ T hT X
  cases hv
  obtain ⟨t2, a1, b1⟩ := kk v h' hPo T'.heap (locs ++ L) la (by rw [e1]; exact hR') ⟨Nat.le_trans hS.1 (by rw [e1, ← h0]; exact hF.1), fun q g1 g2 => by
      rw [e1, hF.2 q (by rw [h0]; exact Nat.lt_of_lt_of_le g1 hS.1) g2, h0]
      exact hS.2.1 q g1 g2, fun q hq => by
      rcases List.mem_append.mp hq with h | h
      · exact hS.2.2 q h
      · exact hL q h⟩ hl T' rfl X'
  exact ⟨t2, st9 t2 a1, b1⟩

theorem ks_callS2 (hκ : ks_Ok κ g own nm cc nL d mc ms) (pc : Nat) {ix dc mc' ms' nL' : Nat} {cc' : ByteArray} {y : MethodName} {ret : Option FieldType} {Post : Option Value → ks_H → Prop} {a1 a2 : Value} (hd : decode cc pc = .ok (.invokestatic ix, 3)) (hw : ks_CS own ix y cc' nL' ret 2) (hM : ks_Met g (y, cc', nL', ret) dc mc' ms' [a1, a2] h Post) (hdc : dc < d) (hk : k + mc' ≤ mc) (hn : n + ms' ≤ ms) (hst : (st.map fun v => v.category).sum ≤ 8) (kk : ∀ (v : Option Value) (h' : ks_H), Post v h' → ks_K κ g nL h' (k + mc') (n + ms') (pc + 3) ls (v.toList ++ st)) : ks_K κ g nL h k n pc ls (a2 :: a1 :: st) := by
  obtain ⟨p, l, e, R, s, m, args, below, meth, c, Q⟩ := κ
  obtain ⟨hx, hb, hml, hown, hts, hin, hfr, hlo, hce, hsl, hK, hSt, hNw, hz⟩ := hκ
  obtain ⟨⟨i1, i2, i3, i4, i5⟩, hln, hrest⟩ := hw
  have hG := ks_good i2
  have hini := hts _ i1
  have hcw : Cond.code y cc' nL' ret ∈ (Cond.code y cc' nL' ret :: lw_g) := List.mem_cons_self
  have hlen : ∀ sig, parseMethodDescriptor y.desc = some sig → 2 = sig.parameters.length := fun sig hs => by
    have h2 := i4
    rw [hs] at h2
    exact (Option.some.inj h2).symm
  have hfr' : (ks_room dc mc' ms').frames + 1 ≤ R.frames := by rw [hfr]; exact hdc
  have hlo' : 8 + (nL' + 11) + (ks_room dc mc' ms').locals ≤ R.locals := by show 8 + (nL' + 11) + 40 * dc ≤ R.locals; omega
  intro H locs la hR hS hl T hT X
  have hpre : PreS s H (va_Pc [a1, a2] (ks_W g h)) [a1, a2] := ⟨ks_blind, fun U hU hW => ⟨rfl, ks_W.at hU hW hR hS hK hSt hNw⟩⟩
  have hrun : va_Run p l e R s m args below meth c H locs k n mc' ms' (F0 m pc la (a2 :: a1 :: st)) st (ks_Q g Post ([a1, a2] : List Value).toArray) (ks_A g) := by
    rcases hln with hln | ⟨host, hln⟩
    · exact va_runS (As := [a1, a2]) (rest := st) (n := 2) ⟨hx, hb, hml, hown, hts⟩ (hM l) ⟨⟨rfl, rfl, hfr', hlo', pay_in hts hG, hcw, hts _ i2, hini, i3, hlen, hts _ hln⟩, hts _ hrest⟩ hpre (g := F0 m pc la (a2 :: a1 :: st)) rfl rfl (hl.1) rfl (lv_room hst) hd ⟨by rw [hce]; exact hk, by rw [hsl]; exact hn⟩
    · exact va_runSN (As := [a1, a2]) (rest := st) (n := 2) (host := host) ⟨hx, hb, hml, hown, hts⟩ (hM l) ⟨⟨⟨rfl, rfl, hfr', hlo', pay_in hts hG, hcw⟩, hts _ i2, hini, i3, hlen, va_Nw.use rfl (hNw.1 _ hln)⟩, hts _ hrest, trivial⟩ hpre (g := F0 m pc la (a2 :: a1 :: st)) rfl rfl (hl.1) rfl (lv_room hst) hd ⟨by rw [hce]; exact hk, by rw [hsl]; exact hn⟩
  obtain ⟨v, st₀, t, T', L, h0, X', hL, e1, e2, ⟨⟨v', h', hv, hPo, hR'⟩, hF⟩, st9⟩ := hrun T hT X
  cases hv
  obtain ⟨t2, a1, b1⟩ := kk v h' hPo T'.heap (locs ++ L) la (by rw [e1]; exact hR') ⟨Nat.le_trans hS.1 (by rw [e1, ← h0]; exact hF.1), fun q g1 g2 => by
      rw [e1, hF.2 q (by rw [h0]; exact Nat.lt_of_lt_of_le g1 hS.1) g2, h0]
      exact hS.2.1 q g1 g2, fun q hq => by
      rcases List.mem_append.mp hq with h | h
      · exact hS.2.2 q h
      · exact hL q h⟩ hl T' rfl X'
  exact ⟨t2, st9 t2 a1, b1⟩

theorem ks_callV3 (hκ : ks_Ok κ g own nm cc nL d mc ms) (pc : Nat) {ix i ci dc mc' ms' nL' : Nat} {cc' : ByteArray} {y : MethodName} {ret : Option FieldType} {fs : List Value} {Post : Option Value → ks_H → Prop} {a1 a2 a3 : Value} (hd : decode cc pc = .ok (.invokevirtual ix, 3)) (hw : ks_CV own ix y cc' nL' ret 3) (hM : ks_Met g (y, cc', nL', ret) dc mc' ms' [ks_ref g i, a1, a2, a3] h Post) (hc : h[i]? = some (ks_O ci fs)) (hcl : (vwCl[ci]?).map (fun q => q.1) = some y.cls) (hdc : dc < d) (hk : k + mc' ≤ mc) (hn : n + ms' ≤ ms) (hst : (st.map fun v => v.category).sum ≤ 8) (kk : ∀ (v : Option Value) (h' : ks_H), Post v h' → ks_K κ g nL h' (k + mc') (n + ms') (pc + 3) ls (v.toList ++ st)) : ks_K κ g nL h k n pc ls (a3 :: a2 :: a1 :: ks_ref g i :: st) := by
  obtain ⟨p, l, e, R, s, m, args, below, meth, c, Q⟩ := κ
  obtain ⟨hx, hb, hml, hown, hts, hin, hfr, hlo, hce, hsl, hK, hSt, hNw, hz⟩ := hκ
  obtain ⟨⟨i1, i2, i3, i4, i5⟩, hln, hrest⟩ := hw
  have hG := ks_good i2
  have hini := hts _ i1
  have hcw : Cond.code y cc' nL' ret ∈ (Cond.code y cc' nL' ret :: lw_g) := List.mem_cons_self
  have hlen : ∀ sig, parseMethodDescriptor y.desc = some sig → 3 = sig.parameters.length := fun sig hs => by
    have h2 := i4
    rw [hs] at h2
    exact (Option.some.inj h2).symm
  have hfr' : (ks_room dc mc' ms').frames + 1 ≤ R.frames := by rw [hfr]; exact hdc
  have hlo' : 8 + (nL' + 11) + (ks_room dc mc' ms').locals ≤ R.locals := by show 8 + (nL' + 11) + 40 * dc ≤ R.locals; omega
  intro H locs la hR hS hl T hT X
  obtain ⟨q, hq1, hq2⟩ : ∃ q, vwCl[ci]? = some q ∧ q.1 = y.cls := by
    cases hv : vwCl[ci]? with
    | none => rw [hv] at hcl; cases hcl
    | some q => rw [hv] at hcl; exact ⟨q, rfl, Option.some.inj hcl⟩
  have hrc := va_recv hK hR.2 hq1 (ks_wl_get hc)
  rw [hq2] at hrc
  obtain ⟨v, st₀, t, T', L, h0, X', hL, e1, e2, ⟨⟨v', h', hv, hPo, hR'⟩, hF⟩, st9⟩ := va_runV (As := [a1, a2, a3]) (rest := st) (C := y.cls) (n := 3) ⟨hx, hb, hml, hown, hts⟩ (hM l) ⟨⟨rfl, rfl, hfr', hlo', pay_in hts hG, hcw, hts _ i2, hini, i3, hlen, hts _ hln⟩, hts _ hrest.1, hts _ hrest.2⟩ ⟨ks_blind, hrc, fun U hU hW => ⟨rfl, ks_W.at hU hW hR hS hK hSt hNw⟩⟩ (g := F0 m pc la (a3 :: a2 :: a1 :: .ref (g.1 + i) :: st)) rfl rfl (hl.1) rfl (lv_room hst) hd ⟨by rw [hce]; exact hk, by rw [hsl]; exact hn⟩ T hT X
  cases hv
  obtain ⟨t2, a1, b1⟩ := kk v h' hPo T'.heap (locs ++ L) la (by rw [e1]; exact hR') ⟨Nat.le_trans hS.1 (by rw [e1, ← h0]; exact hF.1), fun q g1 g2 => by
      rw [e1, hF.2 q (by rw [h0]; exact Nat.lt_of_lt_of_le g1 hS.1) g2, h0]
      exact hS.2.1 q g1 g2, fun q hq => by
      rcases List.mem_append.mp hq with h | h
      · exact hS.2.2 q h
      · exact hL q h⟩ hl T' rfl X'
  exact ⟨t2, st9 t2 a1, b1⟩

theorem ks_callS3 (hκ : ks_Ok κ g own nm cc nL d mc ms) (pc : Nat) {ix dc mc' ms' nL' : Nat} {cc' : ByteArray} {y : MethodName} {ret : Option FieldType} {Post : Option Value → ks_H → Prop} {a1 a2 a3 : Value} (hd : decode cc pc = .ok (.invokestatic ix, 3)) (hw : ks_CS own ix y cc' nL' ret 3) (hM : ks_Met g (y, cc', nL', ret) dc mc' ms' [a1, a2, a3] h Post) (hdc : dc < d) (hk : k + mc' ≤ mc) (hn : n + ms' ≤ ms) (hst : (st.map fun v => v.category).sum ≤ 8) (kk : ∀ (v : Option Value) (h' : ks_H), Post v h' → ks_K κ g nL h' (k + mc') (n + ms') (pc + 3) ls (v.toList ++ st)) : ks_K κ g nL h k n pc ls (a3 :: a2 :: a1 :: st) := by
  obtain ⟨p, l, e, R, s, m, args, below, meth, c, Q⟩ := κ
  obtain ⟨hx, hb, hml, hown, hts, hin, hfr, hlo, hce, hsl, hK, hSt, hNw, hz⟩ := hκ
  obtain ⟨⟨i1, i2, i3, i4, i5⟩, hln, hrest⟩ := hw
  have hG := ks_good i2
  have hini := hts _ i1
  have hcw : Cond.code y cc' nL' ret ∈ (Cond.code y cc' nL' ret :: lw_g) := List.mem_cons_self
  have hlen : ∀ sig, parseMethodDescriptor y.desc = some sig → 3 = sig.parameters.length := fun sig hs => by
    have h2 := i4
    rw [hs] at h2
    exact (Option.some.inj h2).symm
  have hfr' : (ks_room dc mc' ms').frames + 1 ≤ R.frames := by rw [hfr]; exact hdc
  have hlo' : 8 + (nL' + 11) + (ks_room dc mc' ms').locals ≤ R.locals := by show 8 + (nL' + 11) + 40 * dc ≤ R.locals; omega
  intro H locs la hR hS hl T hT X
  have hpre : PreS s H (va_Pc [a1, a2, a3] (ks_W g h)) [a1, a2, a3] := ⟨ks_blind, fun U hU hW => ⟨rfl, ks_W.at hU hW hR hS hK hSt hNw⟩⟩
  have hrun : va_Run p l e R s m args below meth c H locs k n mc' ms' (F0 m pc la (a3 :: a2 :: a1 :: st)) st (ks_Q g Post ([a1, a2, a3] : List Value).toArray) (ks_A g) := by
    rcases hln with hln | ⟨host, hln⟩
    · exact va_runS (As := [a1, a2, a3]) (rest := st) (n := 3) ⟨hx, hb, hml, hown, hts⟩ (hM l) ⟨⟨rfl, rfl, hfr', hlo', pay_in hts hG, hcw, hts _ i2, hini, i3, hlen, hts _ hln⟩, hts _ hrest⟩ hpre (g := F0 m pc la (a3 :: a2 :: a1 :: st)) rfl rfl (hl.1) rfl (lv_room hst) hd ⟨by rw [hce]; exact hk, by rw [hsl]; exact hn⟩
    · exact va_runSN (As := [a1, a2, a3]) (rest := st) (n := 3) (host := host) ⟨hx, hb, hml, hown, hts⟩ (hM l) ⟨⟨⟨rfl, rfl, hfr', hlo', pay_in hts hG, hcw⟩, hts _ i2, hini, i3, hlen, va_Nw.use rfl (hNw.1 _ hln)⟩, hts _ hrest, trivial⟩ hpre (g := F0 m pc la (a3 :: a2 :: a1 :: st)) rfl rfl (hl.1) rfl (lv_room hst) hd ⟨by rw [hce]; exact hk, by rw [hsl]; exact hn⟩
  obtain ⟨v, st₀, t, T', L, h0, X', hL, e1, e2, ⟨⟨v', h', hv, hPo, hR'⟩, hF⟩, st9⟩ := hrun T hT X
  cases hv
  obtain ⟨t2, a1, b1⟩ := kk v h' hPo T'.heap (locs ++ L) la (by rw [e1]; exact hR') ⟨Nat.le_trans hS.1 (by rw [e1, ← h0]; exact hF.1), fun q g1 g2 => by
      rw [e1, hF.2 q (by rw [h0]; exact Nat.lt_of_lt_of_le g1 hS.1) g2, h0]
      exact hS.2.1 q g1 g2, fun q hq => by
      rcases List.mem_append.mp hq with h | h
      · exact hS.2.2 q h
      · exact hL q h⟩ hl T' rfl X'
  exact ⟨t2, st9 t2 a1, b1⟩

theorem ks_callV4 (hκ : ks_Ok κ g own nm cc nL d mc ms) (pc : Nat) {ix i ci dc mc' ms' nL' : Nat} {cc' : ByteArray} {y : MethodName} {ret : Option FieldType} {fs : List Value} {Post : Option Value → ks_H → Prop} {a1 a2 a3 a4 : Value} (hd : decode cc pc = .ok (.invokevirtual ix, 3)) (hw : ks_CV own ix y cc' nL' ret 4) (hM : ks_Met g (y, cc', nL', ret) dc mc' ms' [ks_ref g i, a1, a2, a3, a4] h Post) (hc : h[i]? = some (ks_O ci fs)) (hcl : (vwCl[ci]?).map (fun q => q.1) = some y.cls) (hdc : dc < d) (hk : k + mc' ≤ mc) (hn : n + ms' ≤ ms) (hst : (st.map fun v => v.category).sum ≤ 8) (kk : ∀ (v : Option Value) (h' : ks_H), Post v h' → ks_K κ g nL h' (k + mc') (n + ms') (pc + 3) ls (v.toList ++ st)) : ks_K κ g nL h k n pc ls (a4 :: a3 :: a2 :: a1 :: ks_ref g i :: st) := by
  obtain ⟨p, l, e, R, s, m, args, below, meth, c, Q⟩ := κ
  obtain ⟨hx, hb, hml, hown, hts, hin, hfr, hlo, hce, hsl, hK, hSt, hNw, hz⟩ := hκ
  obtain ⟨⟨i1, i2, i3, i4, i5⟩, hln, hrest⟩ := hw
  have hG := ks_good i2
  have hini := hts _ i1
  have hcw : Cond.code y cc' nL' ret ∈ (Cond.code y cc' nL' ret :: lw_g) := List.mem_cons_self
  have hlen : ∀ sig, parseMethodDescriptor y.desc = some sig → 4 = sig.parameters.length := fun sig hs => by
    have h2 := i4
    rw [hs] at h2
    exact (Option.some.inj h2).symm
  have hfr' : (ks_room dc mc' ms').frames + 1 ≤ R.frames := by rw [hfr]; exact hdc
  have hlo' : 8 + (nL' + 11) + (ks_room dc mc' ms').locals ≤ R.locals := by show 8 + (nL' + 11) + 40 * dc ≤ R.locals; omega
  intro H locs la hR hS hl T hT X
  obtain ⟨q, hq1, hq2⟩ : ∃ q, vwCl[ci]? = some q ∧ q.1 = y.cls := by
    cases hv : vwCl[ci]? with
    | none => rw [hv] at hcl; cases hcl
    | some q => rw [hv] at hcl; exact ⟨q, rfl, Option.some.inj hcl⟩
  have hrc := va_recv hK hR.2 hq1 (ks_wl_get hc)
  rw [hq2] at hrc
  obtain ⟨v, st₀, t, T', L, h0, X', hL, e1, e2, ⟨⟨v', h', hv, hPo, hR'⟩, hF⟩, st9⟩ := va_runV (As := [a1, a2, a3, a4]) (rest := st) (C := y.cls) (n := 4) ⟨hx, hb, hml, hown, hts⟩ (hM l) ⟨⟨rfl, rfl, hfr', hlo', pay_in hts hG, hcw, hts _ i2, hini, i3, hlen, hts _ hln⟩, hts _ hrest.1, hts _ hrest.2⟩ ⟨ks_blind, hrc, fun U hU hW => ⟨rfl, ks_W.at hU hW hR hS hK hSt hNw⟩⟩ (g := F0 m pc la (a4 :: a3 :: a2 :: a1 :: .ref (g.1 + i) :: st)) rfl rfl (hl.1) rfl (lv_room hst) hd ⟨by rw [hce]; exact hk, by rw [hsl]; exact hn⟩ T hT X
  cases hv
  obtain ⟨t2, a1, b1⟩ := kk v h' hPo T'.heap (locs ++ L) la (by rw [e1]; exact hR') ⟨Nat.le_trans hS.1 (by rw [e1, ← h0]; exact hF.1), fun q g1 g2 => by
      rw [e1, hF.2 q (by rw [h0]; exact Nat.lt_of_lt_of_le g1 hS.1) g2, h0]
      exact hS.2.1 q g1 g2, fun q hq => by
      rcases List.mem_append.mp hq with h | h
      · exact hS.2.2 q h
      · exact hL q h⟩ hl T' rfl X'
  exact ⟨t2, st9 t2 a1, b1⟩

theorem ks_callS4 (hκ : ks_Ok κ g own nm cc nL d mc ms) (pc : Nat) {ix dc mc' ms' nL' : Nat} {cc' : ByteArray} {y : MethodName} {ret : Option FieldType} {Post : Option Value → ks_H → Prop} {a1 a2 a3 a4 : Value} (hd : decode cc pc = .ok (.invokestatic ix, 3)) (hw : ks_CS own ix y cc' nL' ret 4) (hM : ks_Met g (y, cc', nL', ret) dc mc' ms' [a1, a2, a3, a4] h Post) (hdc : dc < d) (hk : k + mc' ≤ mc) (hn : n + ms' ≤ ms) (hst : (st.map fun v => v.category).sum ≤ 8) (kk : ∀ (v : Option Value) (h' : ks_H), Post v h' → ks_K κ g nL h' (k + mc') (n + ms') (pc + 3) ls (v.toList ++ st)) : ks_K κ g nL h k n pc ls (a4 :: a3 :: a2 :: a1 :: st) := by
  obtain ⟨p, l, e, R, s, m, args, below, meth, c, Q⟩ := κ
  obtain ⟨hx, hb, hml, hown, hts, hin, hfr, hlo, hce, hsl, hK, hSt, hNw, hz⟩ := hκ
  obtain ⟨⟨i1, i2, i3, i4, i5⟩, hln, hrest⟩ := hw
  have hG := ks_good i2
  have hini := hts _ i1
  have hcw : Cond.code y cc' nL' ret ∈ (Cond.code y cc' nL' ret :: lw_g) := List.mem_cons_self
  have hlen : ∀ sig, parseMethodDescriptor y.desc = some sig → 4 = sig.parameters.length := fun sig hs => by
    have h2 := i4
    rw [hs] at h2
    exact (Option.some.inj h2).symm
  have hfr' : (ks_room dc mc' ms').frames + 1 ≤ R.frames := by rw [hfr]; exact hdc
  have hlo' : 8 + (nL' + 11) + (ks_room dc mc' ms').locals ≤ R.locals := by show 8 + (nL' + 11) + 40 * dc ≤ R.locals; omega
  intro H locs la hR hS hl T hT X
  have hpre : PreS s H (va_Pc [a1, a2, a3, a4] (ks_W g h)) [a1, a2, a3, a4] := ⟨ks_blind, fun U hU hW => ⟨rfl, ks_W.at hU hW hR hS hK hSt hNw⟩⟩
  have hrun : va_Run p l e R s m args below meth c H locs k n mc' ms' (F0 m pc la (a4 :: a3 :: a2 :: a1 :: st)) st (ks_Q g Post ([a1, a2, a3, a4] : List Value).toArray) (ks_A g) := by
    rcases hln with hln | ⟨host, hln⟩
    · exact va_runS (As := [a1, a2, a3, a4]) (rest := st) (n := 4) ⟨hx, hb, hml, hown, hts⟩ (hM l) ⟨⟨rfl, rfl, hfr', hlo', pay_in hts hG, hcw, hts _ i2, hini, i3, hlen, hts _ hln⟩, hts _ hrest⟩ hpre (g := F0 m pc la (a4 :: a3 :: a2 :: a1 :: st)) rfl rfl (hl.1) rfl (lv_room hst) hd ⟨by rw [hce]; exact hk, by rw [hsl]; exact hn⟩
    · exact va_runSN (As := [a1, a2, a3, a4]) (rest := st) (n := 4) (host := host) ⟨hx, hb, hml, hown, hts⟩ (hM l) ⟨⟨⟨rfl, rfl, hfr', hlo', pay_in hts hG, hcw⟩, hts _ i2, hini, i3, hlen, va_Nw.use rfl (hNw.1 _ hln)⟩, hts _ hrest, trivial⟩ hpre (g := F0 m pc la (a4 :: a3 :: a2 :: a1 :: st)) rfl rfl (hl.1) rfl (lv_room hst) hd ⟨by rw [hce]; exact hk, by rw [hsl]; exact hn⟩
  obtain ⟨v, st₀, t, T', L, h0, X', hL, e1, e2, ⟨⟨v', h', hv, hPo, hR'⟩, hF⟩, st9⟩ := hrun T hT X
  cases hv
  obtain ⟨t2, a1, b1⟩ := kk v h' hPo T'.heap (locs ++ L) la (by rw [e1]; exact hR') ⟨Nat.le_trans hS.1 (by rw [e1, ← h0]; exact hF.1), fun q g1 g2 => by
      rw [e1, hF.2 q (by rw [h0]; exact Nat.lt_of_lt_of_le g1 hS.1) g2, h0]
      exact hS.2.1 q g1 g2, fun q hq => by
      rcases List.mem_append.mp hq with h | h
      · exact hS.2.2 q h
      · exact hL q h⟩ hl T' rfl X'
  exact ⟨t2, st9 t2 a1, b1⟩

theorem ks_callS5 (hκ : ks_Ok κ g own nm cc nL d mc ms) (pc : Nat) {ix dc mc' ms' nL' : Nat} {cc' : ByteArray} {y : MethodName} {ret : Option FieldType} {Post : Option Value → ks_H → Prop} {a1 a2 a3 a4 a5 : Value} (hd : decode cc pc = .ok (.invokestatic ix, 3)) (hw : ks_CS own ix y cc' nL' ret 5) (hM : ks_Met g (y, cc', nL', ret) dc mc' ms' [a1, a2, a3, a4, a5] h Post) (hdc : dc < d) (hk : k + mc' ≤ mc) (hn : n + ms' ≤ ms) (hst : (st.map fun v => v.category).sum ≤ 8) (kk : ∀ (v : Option Value) (h' : ks_H), Post v h' → ks_K κ g nL h' (k + mc') (n + ms') (pc + 3) ls (v.toList ++ st)) : ks_K κ g nL h k n pc ls (a5 :: a4 :: a3 :: a2 :: a1 :: st) := by
  obtain ⟨p, l, e, R, s, m, args, below, meth, c, Q⟩ := κ
  obtain ⟨hx, hb, hml, hown, hts, hin, hfr, hlo, hce, hsl, hK, hSt, hNw, hz⟩ := hκ
  obtain ⟨⟨i1, i2, i3, i4, i5⟩, hln, hrest⟩ := hw
  have hG := ks_good i2
  have hini := hts _ i1
  have hcw : Cond.code y cc' nL' ret ∈ (Cond.code y cc' nL' ret :: lw_g) := List.mem_cons_self
  have hlen : ∀ sig, parseMethodDescriptor y.desc = some sig → 5 = sig.parameters.length := fun sig hs => by
    have h2 := i4
    rw [hs] at h2
    exact (Option.some.inj h2).symm
  have hfr' : (ks_room dc mc' ms').frames + 1 ≤ R.frames := by rw [hfr]; exact hdc
  have hlo' : 8 + (nL' + 11) + (ks_room dc mc' ms').locals ≤ R.locals := by show 8 + (nL' + 11) + 40 * dc ≤ R.locals; omega
  intro H locs la hR hS hl T hT X
  have hpre : PreS s H (va_Pc [a1, a2, a3, a4, a5] (ks_W g h)) [a1, a2, a3, a4, a5] := ⟨ks_blind, fun U hU hW => ⟨rfl, ks_W.at hU hW hR hS hK hSt hNw⟩⟩
  have hrun : va_Run p l e R s m args below meth c H locs k n mc' ms' (F0 m pc la (a5 :: a4 :: a3 :: a2 :: a1 :: st)) st (ks_Q g Post ([a1, a2, a3, a4, a5] : List Value).toArray) (ks_A g) := by
    rcases hln with hln | ⟨host, hln⟩
    · exact va_runS (As := [a1, a2, a3, a4, a5]) (rest := st) (n := 5) ⟨hx, hb, hml, hown, hts⟩ (hM l) ⟨⟨rfl, rfl, hfr', hlo', pay_in hts hG, hcw, hts _ i2, hini, i3, hlen, hts _ hln⟩, hts _ hrest⟩ hpre (g := F0 m pc la (a5 :: a4 :: a3 :: a2 :: a1 :: st)) rfl rfl (hl.1) rfl (lv_room hst) hd ⟨by rw [hce]; exact hk, by rw [hsl]; exact hn⟩
    · exact va_runSN (As := [a1, a2, a3, a4, a5]) (rest := st) (n := 5) (host := host) ⟨hx, hb, hml, hown, hts⟩ (hM l) ⟨⟨⟨rfl, rfl, hfr', hlo', pay_in hts hG, hcw⟩, hts _ i2, hini, i3, hlen, va_Nw.use rfl (hNw.1 _ hln)⟩, hts _ hrest, trivial⟩ hpre (g := F0 m pc la (a5 :: a4 :: a3 :: a2 :: a1 :: st)) rfl rfl (hl.1) rfl (lv_room hst) hd ⟨by rw [hce]; exact hk, by rw [hsl]; exact hn⟩
  obtain ⟨v, st₀, t, T', L, h0, X', hL, e1, e2, ⟨⟨v', h', hv, hPo, hR'⟩, hF⟩, st9⟩ := hrun T hT X
  cases hv
  obtain ⟨t2, a1, b1⟩ := kk v h' hPo T'.heap (locs ++ L) la (by rw [e1]; exact hR') ⟨Nat.le_trans hS.1 (by rw [e1, ← h0]; exact hF.1), fun q g1 g2 => by
      rw [e1, hF.2 q (by rw [h0]; exact Nat.lt_of_lt_of_le g1 hS.1) g2, h0]
      exact hS.2.1 q g1 g2, fun q hq => by
      rcases List.mem_append.mp hq with h | h
      · exact hS.2.2 q h
      · exact hL q h⟩ hl T' rfl X'
  exact ⟨t2, st9 t2 a1, b1⟩

theorem ks_callI0 (hκ : ks_Ok κ g own nm cc nL d mc ms) (pc : Nat) {ix i dc mc' ms' nL' : Nat} {cc' : ByteArray} {y : MethodName} {Post : Option Value → ks_H → Prop} (hd : decode cc pc = .ok (.invokespecial ix, 3)) (hw : ks_CI own ix y cc' nL' 0) (hM : ks_Met g (y, cc', nL', none) dc mc' ms' [ks_ref g i] h Post) (hdc : dc < d) (hk : k + mc' ≤ mc) (hn : n + ms' ≤ ms) (hst : (st.map fun v => v.category).sum ≤ 8) (kk : ∀ (v : Option Value) (h' : ks_H), Post v h' → ks_K κ g nL h' (k + mc') (n + ms') (pc + 3) ls (v.toList ++ st)) : ks_K κ g nL h k n pc ls (ks_ref g i :: st) := by
  obtain ⟨p, l, e, R, s, m, args, below, meth, c, Q⟩ := κ
  obtain ⟨hx, hb, hml, hown, hts, hin, hfr, hlo, hce, hsl, hK, hSt, hNw, hz⟩ := hκ
  obtain ⟨⟨i1, i2, i3, i4, i5⟩, hln, hrest⟩ := hw
  have hG := ks_good i2
  have hini := hts _ i1
  have hcw : Cond.code y cc' nL' none ∈ (Cond.code y cc' nL' none :: lw_g) := List.mem_cons_self
  have hlen : ∀ sig, parseMethodDescriptor y.desc = some sig → 0 = sig.parameters.length := fun sig hs => by
    have h2 := i4
    rw [hs] at h2
    exact (Option.some.inj h2).symm
  have hfr' : (ks_room dc mc' ms').frames + 1 ≤ R.frames := by rw [hfr]; exact hdc
  have hlo' : 8 + (nL' + 11) + (ks_room dc mc' ms').locals ≤ R.locals := by show 8 + (nL' + 11) + 40 * dc ≤ R.locals; omega
  intro H locs la hR hS hl T hT X
  have hpre : PreS s H (va_Pc [ks_ref g i] (ks_W g h)) [.ref (g.1 + i)] := ⟨ks_blind, fun U hU hW => ⟨rfl, ks_W.at hU hW hR hS hK hSt hNw⟩⟩
  have hrun : va_Run p l e R s m args below meth c H locs k n mc' ms' (F0 m pc la (.ref (g.1 + i) :: st)) st (ks_Q g Post ([.ref (g.1 + i)] : List Value).toArray) (ks_A g) := by
    rcases hln with hln | ⟨host, hln⟩
    · exact va_runI (As := []) (rest := st) (n := 0) ⟨hx, hb, hml, hown, hts⟩ (hM l) ⟨⟨rfl, rfl, hfr', hlo', pay_in hts hG, hcw, hts _ i2, hini, i3, hlen, hts _ hln⟩, hrest.2, hts _ hrest.1⟩ hpre (g := F0 m pc la (.ref (g.1 + i) :: st)) rfl rfl (hl.1) rfl (lv_room hst) hd ⟨by rw [hce]; exact hk, by rw [hsl]; exact hn⟩
    · exact va_runIN (As := []) (rest := st) (n := 0) (host := host) ⟨hx, hb, hml, hown, hts⟩ (hM l) ⟨⟨⟨rfl, rfl, hfr', hlo', pay_in hts hG, hcw⟩, hts _ i2, hini, i3, hlen, va_Nw.use rfl (hNw.1 _ hln)⟩, hrest.2, hts _ hrest.1⟩ hpre (g := F0 m pc la (.ref (g.1 + i) :: st)) rfl rfl (hl.1) rfl (lv_room hst) hd ⟨by rw [hce]; exact hk, by rw [hsl]; exact hn⟩
  obtain ⟨v, st₀, t, T', L, h0, X', hL, e1, e2, ⟨⟨v', h', hv, hPo, hR'⟩, hF⟩, st9⟩ := hrun T hT X
  cases hv
  obtain ⟨t2, a1, b1⟩ := kk v h' hPo T'.heap (locs ++ L) la (by rw [e1]; exact hR') ⟨Nat.le_trans hS.1 (by rw [e1, ← h0]; exact hF.1), fun q g1 g2 => by
      rw [e1, hF.2 q (by rw [h0]; exact Nat.lt_of_lt_of_le g1 hS.1) g2, h0]
      exact hS.2.1 q g1 g2, fun q hq => by
      rcases List.mem_append.mp hq with h | h
      · exact hS.2.2 q h
      · exact hL q h⟩ hl T' rfl X'
  exact ⟨t2, st9 t2 a1, b1⟩

theorem ks_iret (hκ : ks_Ok κ g own nm cc nL d mc ms) (pc : Nat) {Post : Option Value → ks_H → Prop} {x : Int32} {ty : FieldType} (hRt : ks_Rt κ g (some ty) mc ms Post) (hd : decode cc pc = .ok (.ireturn, 1)) (hk : k ≤ mc) (hn : n ≤ ms) (hnr : narrow ty (.int x) = .int x) (hp : Post (some (.int x)) h) : ks_K κ g nL h k n pc ls [.int x] := by
  obtain ⟨p, l, e, R, s, m, args, below, meth, c, Q⟩ := κ
  obtain ⟨hx, hb, hml, hown, hts, hin, hfr, hlo, hce, hsl, hK, hSt, hNw, hz⟩ := hκ
  obtain ⟨r1, r2, rfl⟩ := hRt
  have hlocks := r2
  intro H locs la hR hS hl
  refine W.widen hk hn ?_
  exact W.zret hx hb r1 hnr (fun t ht hW => ⟨⟨_, h, rfl, hp, by rw [ht]; exact hR⟩, hS.F ht⟩) hS.2.2 hd

theorem ks_vret (hκ : ks_Ok κ g own nm cc nL d mc ms) (pc : Nat) {Post : Option Value → ks_H → Prop} (hRt : ks_Rt κ g none mc ms Post) (hd : decode cc pc = .ok (.return_, 1)) (hk : k ≤ mc) (hn : n ≤ ms) (hp : Post none h) : ks_K κ g nL h k n pc ls [] := by
  obtain ⟨p, l, e, R, s, m, args, below, meth, c, Q⟩ := κ
  obtain ⟨hx, hb, hml, hown, hts, hin, hfr, hlo, hce, hsl, hK, hSt, hNw, hz⟩ := hκ
  obtain ⟨r1, r2, rfl⟩ := hRt
  have hlocks := r2
  intro H locs la hR hS hl
  refine W.widen hk hn ?_
  exact W.vret hx hb r1 (fun t ht hW => ⟨⟨_, h, rfl, hp, by rw [ht]; exact hR⟩, hS.F ht⟩) hS.2.2 hd

theorem ks_aret (hκ : ks_Ok κ g own nm cc nL d mc ms) (pc : Nat) {Post : Option Value → ks_H → Prop} {i : Nat} {C : String} (hRt : ks_Rt κ g (some (.object C)) mc ms Post) (hd : decode cc pc = .ok (.areturn, 1)) (hk : k ≤ mc) (hn : n ≤ ms) (hp : Post (some (ks_ref g i)) h) : ks_K κ g nL h k n pc ls [ks_ref g i] := by
  obtain ⟨p, l, e, R, s, m, args, below, meth, c, Q⟩ := κ
  obtain ⟨hx, hb, hml, hown, hts, hin, hfr, hlo, hce, hsl, hK, hSt, hNw, hz⟩ := hκ
  obtain ⟨r1, r2, rfl⟩ := hRt
  have hlocks := r2
  intro H locs la hR hS hl
  refine W.widen hk hn ?_
  exact W.aret hx hb r1 (Or.inl ⟨_, rfl⟩) (Or.inr ⟨_, rfl⟩) (fun t ht hW => ⟨⟨_, h, rfl, hp, by rw [ht]; exact hR⟩, hS.F ht⟩) hS.2.2 hd

end KSH
end
section
set_option maxRecDepth 100000 in
theorem kin_0 : ∀ w ∈ u_ws RX0 TX0 3, w ∈ lw_g := by decide +kernel
theorem kcl_0 : ks_Cls 0 RX0 TX0 3 tyX0 := ⟨rfl, kin_0, tyX0_ok, nmX0⟩
set_option maxRecDepth 100000 in
theorem kin_1 : ∀ w ∈ u_ws RX1 TX1 4, w ∈ lw_g := by decide +kernel
theorem kcl_1 : ks_Cls 1 RX1 TX1 4 tyX1 := ⟨rfl, kin_1, tyX1_ok, nmX1⟩
set_option maxRecDepth 100000 in
theorem kin_2 : ∀ w ∈ u_ws RX2 TX2 2, w ∈ lw_g := by decide +kernel
theorem kcl_2 : ks_Cls 2 RX2 TX2 2 tyX2 := ⟨rfl, kin_2, tyX2_ok, nmX2⟩
set_option maxRecDepth 100000 in
theorem kin_3 : ∀ w ∈ u_ws RX3 TX3 4, w ∈ lw_g := by decide +kernel
theorem kcl_3 : ks_Cls 3 RX3 TX3 4 tyX3 := ⟨rfl, kin_3, tyX3_ok, nmX3⟩
set_option maxRecDepth 100000 in
theorem kin_4 : ∀ w ∈ u_ws RX4 TX4 14, w ∈ lw_g := by decide +kernel
theorem kcl_4 : ks_Cls 4 RX4 TX4 14 tyX4 := ⟨rfl, kin_4, tyX4_ok, nmX4⟩
set_option maxRecDepth 100000 in
theorem kin_5 : ∀ w ∈ u_ws RX5 TX5 3, w ∈ lw_g := by decide +kernel
theorem kcl_5 : ks_Cls 5 RX5 TX5 3 tyX5 := ⟨rfl, kin_5, tyX5_ok, nmX5⟩
set_option maxRecDepth 100000 in
theorem kin_6 : ∀ w ∈ u_ws RX6 TX6 6, w ∈ lw_g := by decide +kernel
theorem kcl_6 : ks_Cls 6 RX6 TX6 6 tyX6 := ⟨rfl, kin_6, tyX6_ok, nmX6⟩
set_option maxRecDepth 100000 in
theorem kin_7 : ∀ w ∈ u_ws RX7 TX7 10, w ∈ lw_g := by decide +kernel
theorem kcl_7 : ks_Cls 7 RX7 TX7 10 tyX7 := ⟨rfl, kin_7, tyX7_ok, nmX7⟩
set_option maxRecDepth 100000 in
theorem kf_X5_9 : ks_Fld RX5 9 5 0 (.array .int) 2 := ⟨RX5, TX5, 3, tyX5, kcl_5, by decide, ks_mg 99 (by decide +kernel) rfl, rfl, fun h => (by first | rfl | exact absurd h (by decide)), fun h => (by first | exact ⟨rfl, rfl⟩ | exact absurd h (by decide))⟩
set_option maxRecDepth 100000 in
theorem kf_X5_15 : ks_Fld RX5 15 5 1 (.array .int) 2 := ⟨RX5, TX5, 3, tyX5, kcl_5, by decide, ks_mg 100 (by decide +kernel) rfl, rfl, fun h => (by first | rfl | exact absurd h (by decide)), fun h => (by first | exact ⟨rfl, rfl⟩ | exact absurd h (by decide))⟩
set_option maxRecDepth 100000 in
theorem kf_X5_18 : ks_Fld RX5 18 5 2 (.int) 1 := ⟨RX5, TX5, 3, tyX5, kcl_5, by decide, ks_mg 101 (by decide +kernel) rfl, rfl, fun h => (by first | rfl | exact absurd h (by decide)), fun h => (by first | exact ⟨rfl, rfl⟩ | exact absurd h (by decide))⟩
set_option maxRecDepth 100000 in
theorem kf_X6_165 : ks_Fld RX6 165 5 2 (.int) 1 := ⟨RX5, TX5, 3, tyX5, kcl_5, by decide, ks_mg 102 (by decide +kernel) rfl, rfl, fun h => (by first | rfl | exact absurd h (by decide)), fun h => (by first | exact ⟨rfl, rfl⟩ | exact absurd h (by decide))⟩
set_option maxRecDepth 100000 in
theorem kf_X3_9 : ks_Fld RX3 9 3 0 (.array .int) 2 := ⟨RX3, TX3, 4, tyX3, kcl_3, by decide, ks_mg 117 (by decide +kernel) rfl, rfl, fun h => (by first | rfl | exact absurd h (by decide)), fun h => (by first | exact ⟨rfl, rfl⟩ | exact absurd h (by decide))⟩
set_option maxRecDepth 100000 in
theorem kf_X6_147 : ks_Fld RX6 147 3 0 (.array .int) 0 := ⟨RX3, TX3, 4, tyX3, kcl_3, by decide, ks_mg 118 (by decide +kernel) rfl, rfl, fun h => (by first | rfl | exact absurd h (by decide)), fun h => (by first | exact ⟨rfl, rfl⟩ | exact absurd h (by decide))⟩
set_option maxRecDepth 100000 in
theorem kf_X3_15 : ks_Fld RX3 15 3 1 (.array .int) 2 := ⟨RX3, TX3, 4, tyX3, kcl_3, by decide, ks_mg 119 (by decide +kernel) rfl, rfl, fun h => (by first | rfl | exact absurd h (by decide)), fun h => (by first | exact ⟨rfl, rfl⟩ | exact absurd h (by decide))⟩
set_option maxRecDepth 100000 in
theorem kf_X4_126 : ks_Fld RX4 126 3 1 (.array .int) 0 := ⟨RX3, TX3, 4, tyX3, kcl_3, by decide, ks_mg 120 (by decide +kernel) rfl, rfl, fun h => (by first | rfl | exact absurd h (by decide)), fun h => (by first | exact ⟨rfl, rfl⟩ | exact absurd h (by decide))⟩
set_option maxRecDepth 100000 in
theorem kf_X6_150 : ks_Fld RX6 150 3 1 (.array .int) 0 := ⟨RX3, TX3, 4, tyX3, kcl_3, by decide, ks_mg 121 (by decide +kernel) rfl, rfl, fun h => (by first | rfl | exact absurd h (by decide)), fun h => (by first | exact ⟨rfl, rfl⟩ | exact absurd h (by decide))⟩
set_option maxRecDepth 100000 in
theorem kf_X3_18 : ks_Fld RX3 18 3 2 (.array .int) 2 := ⟨RX3, TX3, 4, tyX3, kcl_3, by decide, ks_mg 122 (by decide +kernel) rfl, rfl, fun h => (by first | rfl | exact absurd h (by decide)), fun h => (by first | exact ⟨rfl, rfl⟩ | exact absurd h (by decide))⟩
set_option maxRecDepth 100000 in
theorem kf_X4_128 : ks_Fld RX4 128 3 2 (.array .int) 0 := ⟨RX3, TX3, 4, tyX3, kcl_3, by decide, ks_mg 123 (by decide +kernel) rfl, rfl, fun h => (by first | rfl | exact absurd h (by decide)), fun h => (by first | exact ⟨rfl, rfl⟩ | exact absurd h (by decide))⟩
set_option maxRecDepth 100000 in
theorem kf_X6_153 : ks_Fld RX6 153 3 2 (.array .int) 0 := ⟨RX3, TX3, 4, tyX3, kcl_3, by decide, ks_mg 124 (by decide +kernel) rfl, rfl, fun h => (by first | rfl | exact absurd h (by decide)), fun h => (by first | exact ⟨rfl, rfl⟩ | exact absurd h (by decide))⟩
set_option maxRecDepth 100000 in
theorem kf_X3_21 : ks_Fld RX3 21 3 3 (.int) 1 := ⟨RX3, TX3, 4, tyX3, kcl_3, by decide, ks_mg 125 (by decide +kernel) rfl, rfl, fun h => (by first | rfl | exact absurd h (by decide)), fun h => (by first | exact ⟨rfl, rfl⟩ | exact absurd h (by decide))⟩
set_option maxRecDepth 100000 in
theorem kf_X4_109 : ks_Fld RX4 109 3 3 (.int) 1 := ⟨RX3, TX3, 4, tyX3, kcl_3, by decide, ks_mg 126 (by decide +kernel) rfl, rfl, fun h => (by first | rfl | exact absurd h (by decide)), fun h => (by first | exact ⟨rfl, rfl⟩ | exact absurd h (by decide))⟩
set_option maxRecDepth 100000 in
theorem kf_X6_141 : ks_Fld RX6 141 3 3 (.int) 1 := ⟨RX3, TX3, 4, tyX3, kcl_3, by decide, ks_mg 127 (by decide +kernel) rfl, rfl, fun h => (by first | rfl | exact absurd h (by decide)), fun h => (by first | exact ⟨rfl, rfl⟩ | exact absurd h (by decide))⟩
set_option maxRecDepth 100000 in
theorem kf_X4_9 : ks_Fld RX4 9 4 0 (.array .int) 2 := ⟨RX4, TX4, 14, tyX4, kcl_4, by decide, ks_mg 142 (by decide +kernel) rfl, rfl, fun h => (by first | rfl | exact absurd h (by decide)), fun h => (by first | exact ⟨rfl, rfl⟩ | exact absurd h (by decide))⟩
set_option maxRecDepth 100000 in
theorem kf_X6_178 : ks_Fld RX6 178 4 0 (.array .int) 0 := ⟨RX4, TX4, 14, tyX4, kcl_4, by decide, ks_mg 143 (by decide +kernel) rfl, rfl, fun h => (by first | rfl | exact absurd h (by decide)), fun h => (by first | exact ⟨rfl, rfl⟩ | exact absurd h (by decide))⟩
set_option maxRecDepth 100000 in
theorem kf_X4_15 : ks_Fld RX4 15 4 1 (.int) 1 := ⟨RX4, TX4, 14, tyX4, kcl_4, by decide, ks_mg 144 (by decide +kernel) rfl, rfl, fun h => (by first | rfl | exact absurd h (by decide)), fun h => (by first | exact ⟨rfl, rfl⟩ | exact absurd h (by decide))⟩
set_option maxRecDepth 100000 in
theorem kf_X6_156 : ks_Fld RX6 156 4 1 (.int) 1 := ⟨RX4, TX4, 14, tyX4, kcl_4, by decide, ks_mg 145 (by decide +kernel) rfl, rfl, fun h => (by first | rfl | exact absurd h (by decide)), fun h => (by first | exact ⟨rfl, rfl⟩ | exact absurd h (by decide))⟩
set_option maxRecDepth 100000 in
theorem kf_X4_19 : ks_Fld RX4 19 4 2 (.int) 1 := ⟨RX4, TX4, 14, tyX4, kcl_4, by decide, ks_mg 146 (by decide +kernel) rfl, rfl, fun h => (by first | rfl | exact absurd h (by decide)), fun h => (by first | exact ⟨rfl, rfl⟩ | exact absurd h (by decide))⟩
set_option maxRecDepth 100000 in
theorem kf_X6_159 : ks_Fld RX6 159 4 2 (.int) 1 := ⟨RX4, TX4, 14, tyX4, kcl_4, by decide, ks_mg 147 (by decide +kernel) rfl, rfl, fun h => (by first | rfl | exact absurd h (by decide)), fun h => (by first | exact ⟨rfl, rfl⟩ | exact absurd h (by decide))⟩
set_option maxRecDepth 100000 in
theorem kf_X4_22 : ks_Fld RX4 22 4 3 (.int) 1 := ⟨RX4, TX4, 14, tyX4, kcl_4, by decide, ks_mg 148 (by decide +kernel) rfl, rfl, fun h => (by first | rfl | exact absurd h (by decide)), fun h => (by first | exact ⟨rfl, rfl⟩ | exact absurd h (by decide))⟩
set_option maxRecDepth 100000 in
theorem kf_X6_172 : ks_Fld RX6 172 4 3 (.int) 1 := ⟨RX4, TX4, 14, tyX4, kcl_4, by decide, ks_mg 149 (by decide +kernel) rfl, rfl, fun h => (by first | rfl | exact absurd h (by decide)), fun h => (by first | exact ⟨rfl, rfl⟩ | exact absurd h (by decide))⟩
set_option maxRecDepth 100000 in
theorem kf_X4_25 : ks_Fld RX4 25 4 4 (.int) 1 := ⟨RX4, TX4, 14, tyX4, kcl_4, by decide, ks_mg 150 (by decide +kernel) rfl, rfl, fun h => (by first | rfl | exact absurd h (by decide)), fun h => (by first | exact ⟨rfl, rfl⟩ | exact absurd h (by decide))⟩
set_option maxRecDepth 100000 in
theorem kf_X6_175 : ks_Fld RX6 175 4 4 (.int) 1 := ⟨RX4, TX4, 14, tyX4, kcl_4, by decide, ks_mg 151 (by decide +kernel) rfl, rfl, fun h => (by first | rfl | exact absurd h (by decide)), fun h => (by first | exact ⟨rfl, rfl⟩ | exact absurd h (by decide))⟩
set_option maxRecDepth 100000 in
theorem kf_X4_28 : ks_Fld RX4 28 4 5 (.array .int) 2 := ⟨RX4, TX4, 14, tyX4, kcl_4, by decide, ks_mg 152 (by decide +kernel) rfl, rfl, fun h => (by first | rfl | exact absurd h (by decide)), fun h => (by first | exact ⟨rfl, rfl⟩ | exact absurd h (by decide))⟩
set_option maxRecDepth 100000 in
theorem kf_X6_79 : ks_Fld RX6 79 4 5 (.array .int) 0 := ⟨RX4, TX4, 14, tyX4, kcl_4, by decide, ks_mg 153 (by decide +kernel) rfl, rfl, fun h => (by first | rfl | exact absurd h (by decide)), fun h => (by first | exact ⟨rfl, rfl⟩ | exact absurd h (by decide))⟩
set_option maxRecDepth 100000 in
theorem kf_X4_31 : ks_Fld RX4 31 4 6 (.array .int) 2 := ⟨RX4, TX4, 14, tyX4, kcl_4, by decide, ks_mg 154 (by decide +kernel) rfl, rfl, fun h => (by first | rfl | exact absurd h (by decide)), fun h => (by first | exact ⟨rfl, rfl⟩ | exact absurd h (by decide))⟩
set_option maxRecDepth 100000 in
theorem kf_X6_83 : ks_Fld RX6 83 4 6 (.array .int) 0 := ⟨RX4, TX4, 14, tyX4, kcl_4, by decide, ks_mg 155 (by decide +kernel) rfl, rfl, fun h => (by first | rfl | exact absurd h (by decide)), fun h => (by first | exact ⟨rfl, rfl⟩ | exact absurd h (by decide))⟩
set_option maxRecDepth 100000 in
theorem kf_X4_34 : ks_Fld RX4 34 4 7 (.array .int) 2 := ⟨RX4, TX4, 14, tyX4, kcl_4, by decide, ks_mg 156 (by decide +kernel) rfl, rfl, fun h => (by first | rfl | exact absurd h (by decide)), fun h => (by first | exact ⟨rfl, rfl⟩ | exact absurd h (by decide))⟩
set_option maxRecDepth 100000 in
theorem kf_X6_86 : ks_Fld RX6 86 4 7 (.array .int) 0 := ⟨RX4, TX4, 14, tyX4, kcl_4, by decide, ks_mg 157 (by decide +kernel) rfl, rfl, fun h => (by first | rfl | exact absurd h (by decide)), fun h => (by first | exact ⟨rfl, rfl⟩ | exact absurd h (by decide))⟩
set_option maxRecDepth 100000 in
theorem kf_X4_37 : ks_Fld RX4 37 4 8 (.array .int) 2 := ⟨RX4, TX4, 14, tyX4, kcl_4, by decide, ks_mg 158 (by decide +kernel) rfl, rfl, fun h => (by first | rfl | exact absurd h (by decide)), fun h => (by first | exact ⟨rfl, rfl⟩ | exact absurd h (by decide))⟩
set_option maxRecDepth 100000 in
theorem kf_X6_89 : ks_Fld RX6 89 4 8 (.array .int) 0 := ⟨RX4, TX4, 14, tyX4, kcl_4, by decide, ks_mg 159 (by decide +kernel) rfl, rfl, fun h => (by first | rfl | exact absurd h (by decide)), fun h => (by first | exact ⟨rfl, rfl⟩ | exact absurd h (by decide))⟩
set_option maxRecDepth 100000 in
theorem kf_X4_40 : ks_Fld RX4 40 4 9 (.array .int) 2 := ⟨RX4, TX4, 14, tyX4, kcl_4, by decide, ks_mg 160 (by decide +kernel) rfl, rfl, fun h => (by first | rfl | exact absurd h (by decide)), fun h => (by first | exact ⟨rfl, rfl⟩ | exact absurd h (by decide))⟩
set_option maxRecDepth 100000 in
theorem kf_X6_101 : ks_Fld RX6 101 4 9 (.array .int) 0 := ⟨RX4, TX4, 14, tyX4, kcl_4, by decide, ks_mg 161 (by decide +kernel) rfl, rfl, fun h => (by first | rfl | exact absurd h (by decide)), fun h => (by first | exact ⟨rfl, rfl⟩ | exact absurd h (by decide))⟩
set_option maxRecDepth 100000 in
theorem kf_X4_43 : ks_Fld RX4 43 4 10 (.array .int) 2 := ⟨RX4, TX4, 14, tyX4, kcl_4, by decide, ks_mg 162 (by decide +kernel) rfl, rfl, fun h => (by first | rfl | exact absurd h (by decide)), fun h => (by first | exact ⟨rfl, rfl⟩ | exact absurd h (by decide))⟩
set_option maxRecDepth 100000 in
theorem kf_X6_104 : ks_Fld RX6 104 4 10 (.array .int) 0 := ⟨RX4, TX4, 14, tyX4, kcl_4, by decide, ks_mg 163 (by decide +kernel) rfl, rfl, fun h => (by first | rfl | exact absurd h (by decide)), fun h => (by first | exact ⟨rfl, rfl⟩ | exact absurd h (by decide))⟩
set_option maxRecDepth 100000 in
theorem kf_X4_46 : ks_Fld RX4 46 4 11 (.array .int) 2 := ⟨RX4, TX4, 14, tyX4, kcl_4, by decide, ks_mg 164 (by decide +kernel) rfl, rfl, fun h => (by first | rfl | exact absurd h (by decide)), fun h => (by first | exact ⟨rfl, rfl⟩ | exact absurd h (by decide))⟩
set_option maxRecDepth 100000 in
theorem kf_X6_107 : ks_Fld RX6 107 4 11 (.array .int) 0 := ⟨RX4, TX4, 14, tyX4, kcl_4, by decide, ks_mg 165 (by decide +kernel) rfl, rfl, fun h => (by first | rfl | exact absurd h (by decide)), fun h => (by first | exact ⟨rfl, rfl⟩ | exact absurd h (by decide))⟩
set_option maxRecDepth 100000 in
theorem kf_X4_52 : ks_Fld RX4 52 4 12 (.object "KittenStairs$Yarn") 2 := ⟨RX4, TX4, 14, tyX4, kcl_4, by decide, ks_mg 166 (by decide +kernel) rfl, rfl, fun h => (by first | rfl | exact absurd h (by decide)), fun h => (by first | exact ⟨rfl, rfl⟩ | exact absurd h (by decide))⟩
set_option maxRecDepth 100000 in
theorem kf_X6_92 : ks_Fld RX6 92 4 12 (.object "KittenStairs$Yarn") 0 := ⟨RX4, TX4, 14, tyX4, kcl_4, by decide, ks_mg 167 (by decide +kernel) rfl, rfl, fun h => (by first | rfl | exact absurd h (by decide)), fun h => (by first | exact ⟨rfl, rfl⟩ | exact absurd h (by decide))⟩
set_option maxRecDepth 100000 in
theorem kf_X4_59 : ks_Fld RX4 59 4 13 (.object "KittenStairs$Plans") 2 := ⟨RX4, TX4, 14, tyX4, kcl_4, by decide, ks_mg 168 (by decide +kernel) rfl, rfl, fun h => (by first | rfl | exact absurd h (by decide)), fun h => (by first | exact ⟨rfl, rfl⟩ | exact absurd h (by decide))⟩
set_option maxRecDepth 100000 in
theorem kf_X6_137 : ks_Fld RX6 137 4 13 (.object "KittenStairs$Plans") 0 := ⟨RX4, TX4, 14, tyX4, kcl_4, by decide, ks_mg 169 (by decide +kernel) rfl, rfl, fun h => (by first | rfl | exact absurd h (by decide)), fun h => (by first | exact ⟨rfl, rfl⟩ | exact absurd h (by decide))⟩
set_option maxRecDepth 100000 in
theorem kf_X0_13 : ks_Fld RX0 13 0 0 (.array (.object "KittenStairs$Stairs")) 2 := ⟨RX0, TX0, 3, tyX0, kcl_0, by decide, ks_mg 207 (by decide +kernel) rfl, rfl, fun h => (by first | rfl | exact absurd h (by decide)), fun h => (by first | exact ⟨rfl, rfl⟩ | exact absurd h (by decide))⟩
set_option maxRecDepth 100000 in
theorem kf_X0_17 : ks_Fld RX0 17 0 1 (.int) 1 := ⟨RX0, TX0, 3, tyX0, kcl_0, by decide, ks_mg 208 (by decide +kernel) rfl, rfl, fun h => (by first | rfl | exact absurd h (by decide)), fun h => (by first | exact ⟨rfl, rfl⟩ | exact absurd h (by decide))⟩
set_option maxRecDepth 100000 in
theorem kf_X0_21 : ks_Fld RX0 21 0 2 (.int) 1 := ⟨RX0, TX0, 3, tyX0, kcl_0, by decide, ks_mg 209 (by decide +kernel) rfl, rfl, fun h => (by first | rfl | exact absurd h (by decide)), fun h => (by first | exact ⟨rfl, rfl⟩ | exact absurd h (by decide))⟩
set_option maxRecDepth 100000 in
theorem kf_X6_184 : ks_Fld RX6 184 0 2 (.int) 1 := ⟨RX0, TX0, 3, tyX0, kcl_0, by decide, ks_mg 210 (by decide +kernel) rfl, rfl, fun h => (by first | rfl | exact absurd h (by decide)), fun h => (by first | exact ⟨rfl, rfl⟩ | exact absurd h (by decide))⟩
set_option maxRecDepth 100000 in
theorem kf_X2_9 : ks_Fld RX2 9 2 0 (.array .int) 2 := ⟨RX2, TX2, 2, tyX2, kcl_2, by decide, ks_mg 224 (by decide +kernel) rfl, rfl, fun h => (by first | rfl | exact absurd h (by decide)), fun h => (by first | exact ⟨rfl, rfl⟩ | exact absurd h (by decide))⟩
set_option maxRecDepth 100000 in
theorem kf_X2_15 : ks_Fld RX2 15 2 1 (.int) 1 := ⟨RX2, TX2, 2, tyX2, kcl_2, by decide, ks_mg 225 (by decide +kernel) rfl, rfl, fun h => (by first | rfl | exact absurd h (by decide)), fun h => (by first | exact ⟨rfl, rfl⟩ | exact absurd h (by decide))⟩
set_option maxRecDepth 100000 in
theorem kf_X1_33 : ks_Fld RX1 33 2 1 (.int) 1 := ⟨RX2, TX2, 2, tyX2, kcl_2, by decide, ks_mg 226 (by decide +kernel) rfl, rfl, fun h => (by first | rfl | exact absurd h (by decide)), fun h => (by first | exact ⟨rfl, rfl⟩ | exact absurd h (by decide))⟩
set_option maxRecDepth 100000 in
theorem kf_X6_181 : ks_Fld RX6 181 2 1 (.int) 1 := ⟨RX2, TX2, 2, tyX2, kcl_2, by decide, ks_mg 227 (by decide +kernel) rfl, rfl, fun h => (by first | rfl | exact absurd h (by decide)), fun h => (by first | exact ⟨rfl, rfl⟩ | exact absurd h (by decide))⟩
set_option maxRecDepth 100000 in
theorem kf_X1_9 : ks_Fld RX1 9 1 0 (.array .int) 2 := ⟨RX1, TX1, 4, tyX1, kcl_1, by decide, ks_mg 239 (by decide +kernel) rfl, rfl, fun h => (by first | rfl | exact absurd h (by decide)), fun h => (by first | exact ⟨rfl, rfl⟩ | exact absurd h (by decide))⟩
set_option maxRecDepth 100000 in
theorem kf_X1_15 : ks_Fld RX1 15 1 1 (.array .int) 2 := ⟨RX1, TX1, 4, tyX1, kcl_1, by decide, ks_mg 240 (by decide +kernel) rfl, rfl, fun h => (by first | rfl | exact absurd h (by decide)), fun h => (by first | exact ⟨rfl, rfl⟩ | exact absurd h (by decide))⟩
set_option maxRecDepth 100000 in
theorem kf_X1_18 : ks_Fld RX1 18 1 2 (.int) 1 := ⟨RX1, TX1, 4, tyX1, kcl_1, by decide, ks_mg 241 (by decide +kernel) rfl, rfl, fun h => (by first | rfl | exact absurd h (by decide)), fun h => (by first | exact ⟨rfl, rfl⟩ | exact absurd h (by decide))⟩
set_option maxRecDepth 100000 in
theorem kf_X6_226 : ks_Fld RX6 226 1 2 (.int) 1 := ⟨RX1, TX1, 4, tyX1, kcl_1, by decide, ks_mg 242 (by decide +kernel) rfl, rfl, fun h => (by first | rfl | exact absurd h (by decide)), fun h => (by first | exact ⟨rfl, rfl⟩ | exact absurd h (by decide))⟩
set_option maxRecDepth 100000 in
theorem kf_X1_22 : ks_Fld RX1 22 1 3 (.int) 1 := ⟨RX1, TX1, 4, tyX1, kcl_1, by decide, ks_mg 243 (by decide +kernel) rfl, rfl, fun h => (by first | rfl | exact absurd h (by decide)), fun h => (by first | exact ⟨rfl, rfl⟩ | exact absurd h (by decide))⟩
set_option maxRecDepth 100000 in
theorem kf_X6_12 : ks_Fld RX6 12 6 0 (.object "KittenStairs$Stairs") 2 := ⟨RX6, TX6, 6, tyX6, kcl_6, by decide, ks_mg 253 (by decide +kernel) rfl, rfl, fun h => (by first | rfl | exact absurd h (by decide)), fun h => (by first | exact ⟨rfl, rfl⟩ | exact absurd h (by decide))⟩
set_option maxRecDepth 100000 in
theorem kf_X6_16 : ks_Fld RX6 16 6 1 (.object "KittenStairs$Stairs") 2 := ⟨RX6, TX6, 6, tyX6, kcl_6, by decide, ks_mg 254 (by decide +kernel) rfl, rfl, fun h => (by first | rfl | exact absurd h (by decide)), fun h => (by first | exact ⟨rfl, rfl⟩ | exact absurd h (by decide))⟩
set_option maxRecDepth 100000 in
theorem kf_X6_22 : ks_Fld RX6 22 6 2 (.object "KittenStairs$History") 2 := ⟨RX6, TX6, 6, tyX6, kcl_6, by decide, ks_mg 255 (by decide +kernel) rfl, rfl, fun h => (by first | rfl | exact absurd h (by decide)), fun h => (by first | exact ⟨rfl, rfl⟩ | exact absurd h (by decide))⟩
set_option maxRecDepth 100000 in
theorem kf_X6_26 : ks_Fld RX6 26 6 3 (.array (.object "KittenStairs$Stairs")) 2 := ⟨RX6, TX6, 6, tyX6, kcl_6, by decide, ks_mg 256 (by decide +kernel) rfl, rfl, fun h => (by first | rfl | exact absurd h (by decide)), fun h => (by first | exact ⟨rfl, rfl⟩ | exact absurd h (by decide))⟩
set_option maxRecDepth 100000 in
theorem kf_X6_33 : ks_Fld RX6 33 6 4 (.object "KittenStairs$Pad") 2 := ⟨RX6, TX6, 6, tyX6, kcl_6, by decide, ks_mg 257 (by decide +kernel) rfl, rfl, fun h => (by first | rfl | exact absurd h (by decide)), fun h => (by first | exact ⟨rfl, rfl⟩ | exact absurd h (by decide))⟩
set_option maxRecDepth 100000 in
theorem kf_X6_40 : ks_Fld RX6 40 6 5 (.object "KittenStairs$Orders") 2 := ⟨RX6, TX6, 6, tyX6, kcl_6, by decide, ks_mg 258 (by decide +kernel) rfl, rfl, fun h => (by first | rfl | exact absurd h (by decide)), fun h => (by first | exact ⟨rfl, rfl⟩ | exact absurd h (by decide))⟩
set_option maxRecDepth 100000 in
theorem kf_X7_7 : ks_Fld RX7 7 7 0 (.array .int) 2 := ⟨RX7, TX7, 10, tyX7, kcl_7, by decide, ks_mg 681 (by decide +kernel) rfl, rfl, fun h => (by first | rfl | exact absurd h (by decide)), fun h => (by first | exact ⟨rfl, rfl⟩ | exact absurd h (by decide))⟩
set_option maxRecDepth 100000 in
theorem kf_X7_20 : ks_Fld RX7 20 7 1 (.int) 1 := ⟨RX7, TX7, 10, tyX7, kcl_7, by decide, ks_mg 682 (by decide +kernel) rfl, rfl, fun h => (by first | rfl | exact absurd h (by decide)), fun h => (by first | exact ⟨rfl, rfl⟩ | exact absurd h (by decide))⟩
set_option maxRecDepth 100000 in
theorem kf_X7_13 : ks_Fld RX7 13 7 2 (.array .boolean) 2 := ⟨RX7, TX7, 10, tyX7, kcl_7, by decide, ks_mg 683 (by decide +kernel) rfl, rfl, fun h => (by first | rfl | exact absurd h (by decide)), fun h => (by first | exact ⟨rfl, rfl⟩ | exact absurd h (by decide))⟩
set_option maxRecDepth 100000 in
theorem kf_X7_17 : ks_Fld RX7 17 7 3 (.array .int) 2 := ⟨RX7, TX7, 10, tyX7, kcl_7, by decide, ks_mg 684 (by decide +kernel) rfl, rfl, fun h => (by first | rfl | exact absurd h (by decide)), fun h => (by first | exact ⟨rfl, rfl⟩ | exact absurd h (by decide))⟩
set_option maxRecDepth 100000 in
theorem kf_X7_193 : ks_Fld RX7 193 7 4 (.int) 1 := ⟨RX7, TX7, 10, tyX7, kcl_7, by decide, ks_mg 685 (by decide +kernel) rfl, rfl, fun h => (by first | rfl | exact absurd h (by decide)), fun h => (by first | exact ⟨rfl, rfl⟩ | exact absurd h (by decide))⟩
set_option maxRecDepth 100000 in
theorem kf_X7_211 : ks_Fld RX7 211 7 5 (.int) 1 := ⟨RX7, TX7, 10, tyX7, kcl_7, by decide, ks_mg 686 (by decide +kernel) rfl, rfl, fun h => (by first | rfl | exact absurd h (by decide)), fun h => (by first | exact ⟨rfl, rfl⟩ | exact absurd h (by decide))⟩
set_option maxRecDepth 100000 in
theorem kf_X7_235 : ks_Fld RX7 235 7 6 (.char) 1 := ⟨RX7, TX7, 10, tyX7, kcl_7, by decide, ks_mg 687 (by decide +kernel) rfl, rfl, fun h => (by first | rfl | exact absurd h (by decide)), fun h => (by first | exact ⟨rfl, rfl⟩ | exact absurd h (by decide))⟩
set_option maxRecDepth 100000 in
theorem kf_X7_232 : ks_Fld RX7 232 7 7 (.int) 1 := ⟨RX7, TX7, 10, tyX7, kcl_7, by decide, ks_mg 688 (by decide +kernel) rfl, rfl, fun h => (by first | rfl | exact absurd h (by decide)), fun h => (by first | exact ⟨rfl, rfl⟩ | exact absurd h (by decide))⟩
set_option maxRecDepth 100000 in
theorem kf_X7_229 : ks_Fld RX7 229 7 8 (.int) 1 := ⟨RX7, TX7, 10, tyX7, kcl_7, by decide, ks_mg 689 (by decide +kernel) rfl, rfl, fun h => (by first | rfl | exact absurd h (by decide)), fun h => (by first | exact ⟨rfl, rfl⟩ | exact absurd h (by decide))⟩
set_option maxRecDepth 100000 in
theorem kf_X7_226 : ks_Fld RX7 226 7 9 (.int) 1 := ⟨RX7, TX7, 10, tyX7, kcl_7, by decide, ks_mg 690 (by decide +kernel) rfl, rfl, fun h => (by first | rfl | exact absurd h (by decide)), fun h => (by first | exact ⟨rfl, rfl⟩ | exact absurd h (by decide))⟩
set_option maxRecDepth 100000 in
theorem kb_X6_init : ks_CB yX6_init cX6_init 1 none 0 := ⟨ks_mg 69 (by decide +kernel) rfl, ks_mg 83 (by decide +kernel) rfl, ⟨by decide +kernel, by decide +kernel⟩, by decide +kernel, by decide⟩
set_option maxRecDepth 100000 in
theorem kb_X4_init : ks_CB yX4_init cX4_init 1 none 0 := ⟨ks_mg 70 (by decide +kernel) rfl, ks_mg 91 (by decide +kernel) rfl, ⟨by decide +kernel, by decide +kernel⟩, by decide +kernel, by decide⟩
set_option maxRecDepth 100000 in
theorem kb_X5_init : ks_CB yX5_init cX5_init 1 none 0 := ⟨ks_mg 71 (by decide +kernel) rfl, ks_mg 97 (by decide +kernel) rfl, ⟨by decide +kernel, by decide +kernel⟩, by decide +kernel, by decide⟩
set_option maxRecDepth 100000 in
theorem kb_X3_init : ks_CB yX3_init cX3_init 1 none 0 := ⟨ks_mg 72 (by decide +kernel) rfl, ks_mg 115 (by decide +kernel) rfl, ⟨by decide +kernel, by decide +kernel⟩, by decide +kernel, by decide⟩
set_option maxRecDepth 100000 in
theorem kb_X0_init : ks_CB yX0_init cX0_init 1 none 0 := ⟨ks_mg 74 (by decide +kernel) rfl, ks_mg 203 (by decide +kernel) rfl, ⟨by decide +kernel, by decide +kernel⟩, by decide +kernel, by decide⟩
set_option maxRecDepth 100000 in
theorem kb_X2_init : ks_CB yX2_init cX2_init 1 none 0 := ⟨ks_mg 75 (by decide +kernel) rfl, ks_mg 222 (by decide +kernel) rfl, ⟨by decide +kernel, by decide +kernel⟩, by decide +kernel, by decide⟩
set_option maxRecDepth 100000 in
theorem kb_X1_init : ks_CB yX1_init cX1_init 1 none 0 := ⟨ks_mg 76 (by decide +kernel) rfl, ks_mg 237 (by decide +kernel) rfl, ⟨by decide +kernel, by decide +kernel⟩, by decide +kernel, by decide⟩
set_option maxRecDepth 100000 in
theorem kb_X6_set : ks_CB yX6_set cX6_set 3 (some .int) 2 := ⟨ks_mg 69 (by decide +kernel) rfl, ks_mg 275 (by decide +kernel) rfl, ⟨by decide +kernel, by decide +kernel⟩, by decide +kernel, by decide⟩
set_option maxRecDepth 100000 in
theorem kb_X0_draft : ks_CB yX0_draft cX0_draft 2 none 1 := ⟨ks_mg 74 (by decide +kernel) rfl, ks_mg 279 (by decide +kernel) rfl, ⟨by decide +kernel, by decide +kernel⟩, by decide +kernel, by decide⟩
set_option maxRecDepth 100000 in
theorem kb_X6_roomAt : ks_CB yX6_roomAt cX6_roomAt 3 (some (.object "KittenStairs$Stairs")) 2 := ⟨ks_mg 69 (by decide +kernel) rfl, ks_mg 282 (by decide +kernel) rfl, ⟨by decide +kernel, by decide +kernel⟩, by decide +kernel, by decide⟩
set_option maxRecDepth 100000 in
theorem kb_X4_copyFrom : ks_CB yX4_copyFrom cX4_copyFrom 2 none 1 := ⟨ks_mg 70 (by decide +kernel) rfl, ks_mg 286 (by decide +kernel) rfl, ⟨by decide +kernel, by decide +kernel⟩, by decide +kernel, by decide⟩
set_option maxRecDepth 100000 in
theorem kb_X5_copyFrom : ks_CB yX5_copyFrom cX5_copyFrom 2 none 1 := ⟨ks_mg 71 (by decide +kernel) rfl, ks_mg 290 (by decide +kernel) rfl, ⟨by decide +kernel, by decide +kernel⟩, by decide +kernel, by decide⟩
set_option maxRecDepth 100000 in
theorem kb_X3_copyFrom : ks_CB yX3_copyFrom cX3_copyFrom 2 none 1 := ⟨ks_mg 72 (by decide +kernel) rfl, ks_mg 295 (by decide +kernel) rfl, ⟨by decide +kernel, by decide +kernel⟩, by decide +kernel, by decide⟩
set_option maxRecDepth 100000 in
theorem kb_X4_changeSetting : ks_CB yX4_changeSetting cX4_changeSetting 4 (some .int) 2 := ⟨ks_mg 70 (by decide +kernel) rfl, ks_mg 300 (by decide +kernel) rfl, ⟨by decide +kernel, by decide +kernel⟩, by decide +kernel, by decide⟩
set_option maxRecDepth 100000 in
theorem kb_X6_settled : ks_CB yX6_settled cX6_settled 2 (some .int) 1 := ⟨ks_mg 69 (by decide +kernel) rfl, ks_mg 308 (by decide +kernel) rfl, ⟨by decide +kernel, by decide +kernel⟩, by decide +kernel, by decide⟩
set_option maxRecDepth 100000 in
theorem kb_X0_keepDraft : ks_CB yX0_keepDraft cX0_keepDraft 1 none 0 := ⟨ks_mg 74 (by decide +kernel) rfl, ks_mg 312 (by decide +kernel) rfl, ⟨by decide +kernel, by decide +kernel⟩, by decide +kernel, by decide⟩
set_option maxRecDepth 100000 in
theorem kb_X6_kitten : ks_CB yX6_kitten cX6_kitten 2 (some .int) 1 := ⟨ks_mg 69 (by decide +kernel) rfl, ks_mg 316 (by decide +kernel) rfl, ⟨by decide +kernel, by decide +kernel⟩, by decide +kernel, by decide⟩
set_option maxRecDepth 100000 in
theorem kb_X4_addKitten : ks_CB yX4_addKitten cX4_addKitten 3 (some .int) 1 := ⟨ks_mg 70 (by decide +kernel) rfl, ks_mg 320 (by decide +kernel) rfl, ⟨by decide +kernel, by decide +kernel⟩, by decide +kernel, by decide⟩
set_option maxRecDepth 100000 in
theorem kb_X6_leap : ks_CB yX6_leap cX6_leap 3 (some .int) 2 := ⟨ks_mg 69 (by decide +kernel) rfl, ks_mg 324 (by decide +kernel) rfl, ⟨by decide +kernel, by decide +kernel⟩, by decide +kernel, by decide⟩
set_option maxRecDepth 100000 in
theorem kb_X4_tryLeap : ks_CB yX4_tryLeap cX4_tryLeap 3 (some .int) 2 := ⟨ks_mg 70 (by decide +kernel) rfl, ks_mg 328 (by decide +kernel) rfl, ⟨by decide +kernel, by decide +kernel⟩, by decide +kernel, by decide⟩
set_option maxRecDepth 100000 in
theorem kb_X4_hasKitten : ks_CB yX4_hasKitten cX4_hasKitten 2 (some .boolean) 1 := ⟨ks_mg 70 (by decide +kernel) rfl, ks_mg 332 (by decide +kernel) rfl, ⟨by decide +kernel, by decide +kernel⟩, by decide +kernel, by decide⟩
set_option maxRecDepth 100000 in
theorem kb_X6_isLeap : ks_CB yX6_isLeap cX6_isLeap 1 (some .boolean) 1 := ⟨ks_mg 69 (by decide +kernel) rfl, ks_mg 335 (by decide +kernel) rfl, ⟨by decide +kernel, by decide +kernel⟩, by decide +kernel, by decide⟩
set_option maxRecDepth 100000 in
theorem kb_X4_refusal : ks_CB yX4_refusal cX4_refusal 4 (some .int) 2 := ⟨ks_mg 70 (by decide +kernel) rfl, ks_mg 339 (by decide +kernel) rfl, ⟨by decide +kernel, by decide +kernel⟩, by decide +kernel, by decide⟩
set_option maxRecDepth 100000 in
theorem kb_X4_naps : ks_CB yX4_naps cX4_naps 2 (some .boolean) 1 := ⟨ks_mg 70 (by decide +kernel) rfl, ks_mg 343 (by decide +kernel) rfl, ⟨by decide +kernel, by decide +kernel⟩, by decide +kernel, by decide⟩
set_option maxRecDepth 100000 in
theorem kb_X4_cost : ks_CB yX4_cost cX4_cost 1 (some .int) 1 := ⟨ks_mg 70 (by decide +kernel) rfl, ks_mg 346 (by decide +kernel) rfl, ⟨by decide +kernel, by decide +kernel⟩, by decide +kernel, by decide⟩
set_option maxRecDepth 100000 in
theorem kb_X4_isHeldBack : ks_CB yX4_isHeldBack cX4_isHeldBack 6 (some .boolean) 2 := ⟨ks_mg 70 (by decide +kernel) rfl, ks_mg 350 (by decide +kernel) rfl, ⟨by decide +kernel, by decide +kernel⟩, by decide +kernel, by decide⟩
set_option maxRecDepth 100000 in
theorem kb_X5_boundEdgeSet : ks_CB yX5_boundEdgeSet cX5_boundEdgeSet 9 (some .int) 2 := ⟨ks_mg 71 (by decide +kernel) rfl, ks_mg 357 (by decide +kernel) rfl, ⟨by decide +kernel, by decide +kernel⟩, by decide +kernel, by decide⟩
set_option maxRecDepth 100000 in
theorem kb_X4_ballLasts : ks_CB yX4_ballLasts cX4_ballLasts 7 (some .boolean) 2 := ⟨ks_mg 70 (by decide +kernel) rfl, ks_mg 361 (by decide +kernel) rfl, ⟨by decide +kernel, by decide +kernel⟩, by decide +kernel, by decide⟩
set_option maxRecDepth 100000 in
theorem kb_X4_edgeOnWay : ks_CB yX4_edgeOnWay cX4_edgeOnWay 3 (some .int) 3 := ⟨ks_mg 70 (by decide +kernel) rfl, ks_mg 364 (by decide +kernel) rfl, ⟨by decide +kernel, by decide +kernel⟩, by decide +kernel, by decide⟩
set_option maxRecDepth 100000 in
theorem kb_X5_topOwner : ks_CB yX5_topOwner cX5_topOwner 3 (some .int) 1 := ⟨ks_mg 71 (by decide +kernel) rfl, ks_mg 368 (by decide +kernel) rfl, ⟨by decide +kernel, by decide +kernel⟩, by decide +kernel, by decide⟩
set_option maxRecDepth 100000 in
theorem kb_X4_makeLeap : ks_CB yX4_makeLeap cX4_makeLeap 5 none 2 := ⟨ks_mg 70 (by decide +kernel) rfl, ks_mg 372 (by decide +kernel) rfl, ⟨by decide +kernel, by decide +kernel⟩, by decide +kernel, by decide⟩
set_option maxRecDepth 100000 in
theorem kb_X4_comeOver : ks_CB yX4_comeOver cX4_comeOver 3 none 2 := ⟨ks_mg 70 (by decide +kernel) rfl, ks_mg 376 (by decide +kernel) rfl, ⟨by decide +kernel, by decide +kernel⟩, by decide +kernel, by decide⟩
set_option maxRecDepth 100000 in
theorem kb_X5_removeTop : ks_CB yX5_removeTop cX5_removeTop 4 none 1 := ⟨ks_mg 71 (by decide +kernel) rfl, ks_mg 380 (by decide +kernel) rfl, ⟨by decide +kernel, by decide +kernel⟩, by decide +kernel, by decide⟩
set_option maxRecDepth 100000 in
theorem kb_X5_lay : ks_CB yX5_lay cX5_lay 3 none 2 := ⟨ks_mg 71 (by decide +kernel) rfl, ks_mg 384 (by decide +kernel) rfl, ⟨by decide +kernel, by decide +kernel⟩, by decide +kernel, by decide⟩
set_option maxRecDepth 100000 in
theorem kb_X6_nap : ks_CB yX6_nap cX6_nap 2 (some .int) 1 := ⟨ks_mg 69 (by decide +kernel) rfl, ks_mg 388 (by decide +kernel) rfl, ⟨by decide +kernel, by decide +kernel⟩, by decide +kernel, by decide⟩
set_option maxRecDepth 100000 in
theorem kb_X4_beginNap : ks_CB yX4_beginNap cX4_beginNap 2 (some .int) 1 := ⟨ks_mg 70 (by decide +kernel) rfl, ks_mg 392 (by decide +kernel) rfl, ⟨by decide +kernel, by decide +kernel⟩, by decide +kernel, by decide⟩
set_option maxRecDepth 100000 in
theorem kb_X6_snip : ks_CB yX6_snip cX6_snip 3 (some .int) 2 := ⟨ks_mg 69 (by decide +kernel) rfl, ks_mg 396 (by decide +kernel) rfl, ⟨by decide +kernel, by decide +kernel⟩, by decide +kernel, by decide⟩
set_option maxRecDepth 100000 in
theorem kb_X4_snipStrands : ks_CB yX4_snipStrands cX4_snipStrands 4 (some .int) 2 := ⟨ks_mg 70 (by decide +kernel) rfl, ks_mg 400 (by decide +kernel) rfl, ⟨by decide +kernel, by decide +kernel⟩, by decide +kernel, by decide⟩
set_option maxRecDepth 100000 in
theorem kb_X6_isEdge : ks_CB yX6_isEdge cX6_isEdge 1 (some .boolean) 1 := ⟨ks_mg 69 (by decide +kernel) rfl, ks_mg 403 (by decide +kernel) rfl, ⟨by decide +kernel, by decide +kernel⟩, by decide +kernel, by decide⟩
set_option maxRecDepth 100000 in
theorem kb_X5_removeAll : ks_CB yX5_removeAll cX5_removeAll 5 (some .int) 2 := ⟨ks_mg 71 (by decide +kernel) rfl, ks_mg 407 (by decide +kernel) rfl, ⟨by decide +kernel, by decide +kernel⟩, by decide +kernel, by decide⟩
set_option maxRecDepth 100000 in
theorem kb_X6_plan : ks_CB yX6_plan cX6_plan 4 (some .int) 3 := ⟨ks_mg 69 (by decide +kernel) rfl, ks_mg 411 (by decide +kernel) rfl, ⟨by decide +kernel, by decide +kernel⟩, by decide +kernel, by decide⟩
set_option maxRecDepth 100000 in
theorem kb_X4_planLeap : ks_CB yX4_planLeap cX4_planLeap 4 (some .int) 3 := ⟨ks_mg 70 (by decide +kernel) rfl, ks_mg 415 (by decide +kernel) rfl, ⟨by decide +kernel, by decide +kernel⟩, by decide +kernel, by decide⟩
set_option maxRecDepth 100000 in
theorem kb_X3_insert : ks_CB yX3_insert cX3_insert 5 none 3 := ⟨ks_mg 72 (by decide +kernel) rfl, ks_mg 419 (by decide +kernel) rfl, ⟨by decide +kernel, by decide +kernel⟩, by decide +kernel, by decide⟩
set_option maxRecDepth 100000 in
theorem kb_X3_isLater : ks_CB yX3_isLater cX3_isLater 4 (some .boolean) 3 := ⟨ks_mg 72 (by decide +kernel) rfl, ks_mg 423 (by decide +kernel) rfl, ⟨by decide +kernel, by decide +kernel⟩, by decide +kernel, by decide⟩
set_option maxRecDepth 100000 in
theorem kb_X3_move : ks_CB yX3_move cX3_move 3 none 2 := ⟨ks_mg 72 (by decide +kernel) rfl, ks_mg 427 (by decide +kernel) rfl, ⟨by decide +kernel, by decide +kernel⟩, by decide +kernel, by decide⟩
set_option maxRecDepth 100000 in
theorem kb_X6_pass : ks_CB yX6_pass cX6_pass 2 (some .int) 1 := ⟨ks_mg 69 (by decide +kernel) rfl, ks_mg 431 (by decide +kernel) rfl, ⟨by decide +kernel, by decide +kernel⟩, by decide +kernel, by decide⟩
set_option maxRecDepth 100000 in
theorem kb_X4_passTurns : ks_CB yX4_passTurns cX4_passTurns 4 (some .int) 1 := ⟨ks_mg 70 (by decide +kernel) rfl, ks_mg 435 (by decide +kernel) rfl, ⟨by decide +kernel, by decide +kernel⟩, by decide +kernel, by decide⟩
set_option maxRecDepth 100000 in
theorem kb_X4_passOneTurn : ks_CB yX4_passOneTurn cX4_passOneTurn 5 (some .int) 0 := ⟨ks_mg 70 (by decide +kernel) rfl, ks_mg 439 (by decide +kernel) rfl, ⟨by decide +kernel, by decide +kernel⟩, by decide +kernel, by decide⟩
set_option maxRecDepth 100000 in
theorem kb_X4_wakeKittens : ks_CB yX4_wakeKittens cX4_wakeKittens 2 none 0 := ⟨ks_mg 70 (by decide +kernel) rfl, ks_mg 443 (by decide +kernel) rfl, ⟨by decide +kernel, by decide +kernel⟩, by decide +kernel, by decide⟩
set_option maxRecDepth 100000 in
theorem kb_X3_firstTurn : ks_CB yX3_firstTurn cX3_firstTurn 1 (some .int) 0 := ⟨ks_mg 72 (by decide +kernel) rfl, ks_mg 447 (by decide +kernel) rfl, ⟨by decide +kernel, by decide +kernel⟩, by decide +kernel, by decide⟩
set_option maxRecDepth 100000 in
theorem kb_X3_removeFirst : ks_CB yX3_removeFirst cX3_removeFirst 2 none 0 := ⟨ks_mg 72 (by decide +kernel) rfl, ks_mg 451 (by decide +kernel) rfl, ⟨by decide +kernel, by decide +kernel⟩, by decide +kernel, by decide⟩
set_option maxRecDepth 100000 in
theorem kb_X4_refreshKittens : ks_CB yX4_refreshKittens cX4_refreshKittens 2 none 0 := ⟨ks_mg 70 (by decide +kernel) rfl, ks_mg 455 (by decide +kernel) rfl, ⟨by decide +kernel, by decide +kernel⟩, by decide +kernel, by decide⟩
set_option maxRecDepth 100000 in
theorem kb_X6_of : ks_CB yX6_of cX6_of 3 (some .int) 2 := ⟨ks_mg 69 (by decide +kernel) rfl, ks_mg 459 (by decide +kernel) rfl, ⟨by decide +kernel, by decide +kernel⟩, by decide +kernel, by decide⟩
set_option maxRecDepth 100000 in
theorem kb_X5_lyingOf : ks_CB yX5_lyingOf cX5_lyingOf 4 (some .int) 1 := ⟨ks_mg 71 (by decide +kernel) rfl, ks_mg 464 (by decide +kernel) rfl, ⟨by decide +kernel, by decide +kernel⟩, by decide +kernel, by decide⟩
set_option maxRecDepth 100000 in
theorem kb_X4_boundSet : ks_CB yX4_boundSet cX4_boundSet 4 (some .int) 1 := ⟨ks_mg 70 (by decide +kernel) rfl, ks_mg 468 (by decide +kernel) rfl, ⟨by decide +kernel, by decide +kernel⟩, by decide +kernel, by decide⟩
set_option maxRecDepth 100000 in
theorem kb_X4_reachSet : ks_CB yX4_reachSet cX4_reachSet 5 (some .int) 1 := ⟨ks_mg 70 (by decide +kernel) rfl, ks_mg 472 (by decide +kernel) rfl, ⟨by decide +kernel, by decide +kernel⟩, by decide +kernel, by decide⟩
set_option maxRecDepth 100000 in
theorem kb_X6_ofEdge : ks_CB yX6_ofEdge cX6_ofEdge 3 (some .int) 2 := ⟨ks_mg 69 (by decide +kernel) rfl, ks_mg 476 (by decide +kernel) rfl, ⟨by decide +kernel, by decide +kernel⟩, by decide +kernel, by decide⟩
set_option maxRecDepth 100000 in
theorem kb_X5_lyingAt : ks_CB yX5_lyingAt cX5_lyingAt 4 (some .int) 1 := ⟨ks_mg 71 (by decide +kernel) rfl, ks_mg 481 (by decide +kernel) rfl, ⟨by decide +kernel, by decide +kernel⟩, by decide +kernel, by decide⟩
set_option maxRecDepth 100000 in
theorem kb_X5_ownerSetAt : ks_CB yX5_ownerSetAt cX5_ownerSetAt 4 (some .int) 1 := ⟨ks_mg 71 (by decide +kernel) rfl, ks_mg 486 (by decide +kernel) rfl, ⟨by decide +kernel, by decide +kernel⟩, by decide +kernel, by decide⟩
set_option maxRecDepth 100000 in
theorem kb_X4_boundPairs : ks_CB yX4_boundPairs cX4_boundPairs 5 (some .int) 1 := ⟨ks_mg 70 (by decide +kernel) rfl, ks_mg 490 (by decide +kernel) rfl, ⟨by decide +kernel, by decide +kernel⟩, by decide +kernel, by decide⟩
set_option maxRecDepth 100000 in
theorem kb_X6_strand : ks_CB yX6_strand cX6_strand 3 (some .int) 2 := ⟨ks_mg 69 (by decide +kernel) rfl, ks_mg 494 (by decide +kernel) rfl, ⟨by decide +kernel, by decide +kernel⟩, by decide +kernel, by decide⟩
set_option maxRecDepth 100000 in
theorem kb_X5_ownerAt : ks_CB yX5_ownerAt cX5_ownerAt 5 (some .int) 2 := ⟨ks_mg 71 (by decide +kernel) rfl, ks_mg 498 (by decide +kernel) rfl, ⟨by decide +kernel, by decide +kernel⟩, by decide +kernel, by decide⟩
set_option maxRecDepth 100000 in
theorem kb_X6_bound : ks_CB yX6_bound cX6_bound 3 (some .int) 2 := ⟨ks_mg 69 (by decide +kernel) rfl, ks_mg 502 (by decide +kernel) rfl, ⟨by decide +kernel, by decide +kernel⟩, by decide +kernel, by decide⟩
set_option maxRecDepth 100000 in
theorem kb_X6_planned : ks_CB yX6_planned cX6_planned 3 (some .int) 2 := ⟨ks_mg 69 (by decide +kernel) rfl, ks_mg 507 (by decide +kernel) rfl, ⟨by decide +kernel, by decide +kernel⟩, by decide +kernel, by decide⟩
set_option maxRecDepth 100000 in
theorem kb_X6_count : ks_CB yX6_count cX6_count 2 (some .int) 1 := ⟨ks_mg 69 (by decide +kernel) rfl, ks_mg 511 (by decide +kernel) rfl, ⟨by decide +kernel, by decide +kernel⟩, by decide +kernel, by decide⟩
set_option maxRecDepth 100000 in
theorem kb_X4_nappingSet : ks_CB yX4_nappingSet cX4_nappingSet 3 (some .int) 0 := ⟨ks_mg 70 (by decide +kernel) rfl, ks_mg 515 (by decide +kernel) rfl, ⟨by decide +kernel, by decide +kernel⟩, by decide +kernel, by decide⟩
set_option maxRecDepth 100000 in
theorem kb_X4_sumOfAll : ks_CB yX4_sumOfAll cX4_sumOfAll 4 (some .int) 1 := ⟨ks_mg 70 (by decide +kernel) rfl, ks_mg 519 (by decide +kernel) rfl, ⟨by decide +kernel, by decide +kernel⟩, by decide +kernel, by decide⟩
set_option maxRecDepth 100000 in
theorem kb_X6_why : ks_CB yX6_why cX6_why 3 (some .int) 2 := ⟨ks_mg 69 (by decide +kernel) rfl, ks_mg 523 (by decide +kernel) rfl, ⟨by decide +kernel, by decide +kernel⟩, by decide +kernel, by decide⟩
set_option maxRecDepth 100000 in
theorem kb_X6_ifLeapt : ks_CB yX6_ifLeapt cX6_ifLeapt 4 (some .int) 3 := ⟨ks_mg 69 (by decide +kernel) rfl, ks_mg 529 (by decide +kernel) rfl, ⟨by decide +kernel, by decide +kernel⟩, by decide +kernel, by decide⟩
set_option maxRecDepth 100000 in
theorem kb_X6_frees : ks_CB yX6_frees cX6_frees 5 (some .int) 2 := ⟨ks_mg 69 (by decide +kernel) rfl, ks_mg 535 (by decide +kernel) rfl, ⟨by decide +kernel, by decide +kernel⟩, by decide +kernel, by decide⟩
set_option maxRecDepth 100000 in
theorem kb_X5_fewestGone : ks_CB yX5_fewestGone cX5_fewestGone 6 (some .int) 3 := ⟨ks_mg 71 (by decide +kernel) rfl, ks_mg 539 (by decide +kernel) rfl, ⟨by decide +kernel, by decide +kernel⟩, by decide +kernel, by decide⟩
set_option maxRecDepth 100000 in
theorem kb_X5_mostKept : ks_CB yX5_mostKept cX5_mostKept 7 (some .int) 3 := ⟨ks_mg 71 (by decide +kernel) rfl, ks_mg 543 (by decide +kernel) rfl, ⟨by decide +kernel, by decide +kernel⟩, by decide +kernel, by decide⟩
set_option maxRecDepth 100000 in
theorem kb_X6_quietIn : ks_CB yX6_quietIn cX6_quietIn 2 (some .int) 0 := ⟨ks_mg 69 (by decide +kernel) rfl, ks_mg 550 (by decide +kernel) rfl, ⟨by decide +kernel, by decide +kernel⟩, by decide +kernel, by decide⟩
set_option maxRecDepth 100000 in
theorem kb_X4_lastWaking : ks_CB yX4_lastWaking cX4_lastWaking 3 (some .int) 0 := ⟨ks_mg 70 (by decide +kernel) rfl, ks_mg 554 (by decide +kernel) rfl, ⟨by decide +kernel, by decide +kernel⟩, by decide +kernel, by decide⟩
set_option maxRecDepth 100000 in
theorem kb_X3_lastTurn : ks_CB yX3_lastTurn cX3_lastTurn 1 (some .int) 0 := ⟨ks_mg 72 (by decide +kernel) rfl, ks_mg 559 (by decide +kernel) rfl, ⟨by decide +kernel, by decide +kernel⟩, by decide +kernel, by decide⟩
set_option maxRecDepth 100000 in
theorem kb_X6_stepIn : ks_CB yX6_stepIn cX6_stepIn 4 (some .int) 2 := ⟨ks_mg 69 (by decide +kernel) rfl, ks_mg 564 (by decide +kernel) rfl, ⟨by decide +kernel, by decide +kernel⟩, by decide +kernel, by decide⟩
set_option maxRecDepth 100000 in
theorem kb_X6_thickest : ks_CB yX6_thickest cX6_thickest 5 (some .int) 0 := ⟨ks_mg 69 (by decide +kernel) rfl, ks_mg 569 (by decide +kernel) rfl, ⟨by decide +kernel, by decide +kernel⟩, by decide +kernel, by decide⟩
set_option maxRecDepth 100000 in
theorem kb_X6_put : ks_CB yX6_put cX6_put 3 (some .int) 1 := ⟨ks_mg 69 (by decide +kernel) rfl, ks_mg 573 (by decide +kernel) rfl, ⟨by decide +kernel, by decide +kernel⟩, by decide +kernel, by decide⟩
set_option maxRecDepth 100000 in
theorem kb_X2_append : ks_CB yX2_append cX2_append 5 (some .int) 1 := ⟨ks_mg 75 (by decide +kernel) rfl, ks_mg 577 (by decide +kernel) rfl, ⟨by decide +kernel, by decide +kernel⟩, by decide +kernel, by decide⟩
set_option maxRecDepth 100000 in
theorem kb_X2_signsIn : ks_CB yX2_signsIn cX2_signsIn 7 (some .int) 1 := ⟨ks_mg 75 (by decide +kernel) rfl, ks_mg 580 (by decide +kernel) rfl, ⟨by decide +kernel, by decide +kernel⟩, by decide +kernel, by decide⟩
set_option maxRecDepth 100000 in
theorem kb_X6_wipe : ks_CB yX6_wipe cX6_wipe 1 (some .int) 0 := ⟨ks_mg 69 (by decide +kernel) rfl, ks_mg 587 (by decide +kernel) rfl, ⟨by decide +kernel, by decide +kernel⟩, by decide +kernel, by decide⟩
set_option maxRecDepth 100000 in
theorem kb_X2_empty : ks_CB yX2_empty cX2_empty 2 (some .int) 0 := ⟨ks_mg 75 (by decide +kernel) rfl, ks_mg 591 (by decide +kernel) rfl, ⟨by decide +kernel, by decide +kernel⟩, by decide +kernel, by decide⟩
set_option maxRecDepth 100000 in
theorem kb_X6_fault : ks_CB yX6_fault cX6_fault 1 (some .int) 0 := ⟨ks_mg 69 (by decide +kernel) rfl, ks_mg 595 (by decide +kernel) rfl, ⟨by decide +kernel, by decide +kernel⟩, by decide +kernel, by decide⟩
set_option maxRecDepth 100000 in
theorem kb_X1_read : ks_CB yX1_read cX1_read 2 (some .int) 1 := ⟨ks_mg 76 (by decide +kernel) rfl, ks_mg 599 (by decide +kernel) rfl, ⟨by decide +kernel, by decide +kernel⟩, by decide +kernel, by decide⟩
set_option maxRecDepth 100000 in
theorem kb_X1_readOrder : ks_CB yX1_readOrder cX1_readOrder 3 (some .boolean) 1 := ⟨ks_mg 76 (by decide +kernel) rfl, ks_mg 603 (by decide +kernel) rfl, ⟨by decide +kernel, by decide +kernel⟩, by decide +kernel, by decide⟩
set_option maxRecDepth 100000 in
theorem kb_X2_signAt : ks_CB yX2_signAt cX2_signAt 2 (some .int) 1 := ⟨ks_mg 75 (by decide +kernel) rfl, ks_mg 607 (by decide +kernel) rfl, ⟨by decide +kernel, by decide +kernel⟩, by decide +kernel, by decide⟩
set_option maxRecDepth 100000 in
theorem kb_X1_isLetter : ks_CB yX1_isLetter cX1_isLetter 1 (some .boolean) 1 := ⟨ks_mg 76 (by decide +kernel) rfl, ks_mg 610 (by decide +kernel) rfl, ⟨by decide +kernel, by decide +kernel⟩, by decide +kernel, by decide⟩
set_option maxRecDepth 100000 in
theorem kb_X1_readDigit : ks_CB yX1_readDigit cX1_readDigit 4 (some .boolean) 2 := ⟨ks_mg 76 (by decide +kernel) rfl, ks_mg 614 (by decide +kernel) rfl, ⟨by decide +kernel, by decide +kernel⟩, by decide +kernel, by decide⟩
set_option maxRecDepth 100000 in
theorem kb_X1_digit : ks_CB yX1_digit cX1_digit 3 (some .int) 1 := ⟨ks_mg 76 (by decide +kernel) rfl, ks_mg 618 (by decide +kernel) rfl, ⟨by decide +kernel, by decide +kernel⟩, by decide +kernel, by decide⟩
set_option maxRecDepth 100000 in
theorem kb_X1_keep : ks_CB yX1_keep cX1_keep 3 (some .boolean) 2 := ⟨ks_mg 76 (by decide +kernel) rfl, ks_mg 622 (by decide +kernel) rfl, ⟨by decide +kernel, by decide +kernel⟩, by decide +kernel, by decide⟩
set_option maxRecDepth 100000 in
theorem kb_X1_hasPart : ks_CB yX1_hasPart cX1_hasPart 2 (some .boolean) 2 := ⟨ks_mg 76 (by decide +kernel) rfl, ks_mg 625 (by decide +kernel) rfl, ⟨by decide +kernel, by decide +kernel⟩, by decide +kernel, by decide⟩
set_option maxRecDepth 100000 in
theorem kb_X1_readBy : ks_CB yX1_readBy cX1_readBy 5 (some .boolean) 2 := ⟨ks_mg 76 (by decide +kernel) rfl, ks_mg 629 (by decide +kernel) rfl, ⟨by decide +kernel, by decide +kernel⟩, by decide +kernel, by decide⟩
set_option maxRecDepth 100000 in
theorem kb_X1_readSign : ks_CB yX1_readSign cX1_readSign 3 (some .boolean) 2 := ⟨ks_mg 76 (by decide +kernel) rfl, ks_mg 633 (by decide +kernel) rfl, ⟨by decide +kernel, by decide +kernel⟩, by decide +kernel, by decide⟩
set_option maxRecDepth 100000 in
theorem kb_X1_number : ks_CB yX1_number cX1_number 4 (some .int) 1 := ⟨ks_mg 76 (by decide +kernel) rfl, ks_mg 637 (by decide +kernel) rfl, ⟨by decide +kernel, by decide +kernel⟩, by decide +kernel, by decide⟩
set_option maxRecDepth 100000 in
theorem kb_X1_readNumber : ks_CB yX1_readNumber cX1_readNumber 4 (some .boolean) 2 := ⟨ks_mg 76 (by decide +kernel) rfl, ks_mg 641 (by decide +kernel) rfl, ⟨by decide +kernel, by decide +kernel⟩, by decide +kernel, by decide⟩
set_option maxRecDepth 100000 in
theorem kb_X6_carryOut : ks_CB yX6_carryOut cX6_carryOut 2 (some .int) 0 := ⟨ks_mg 69 (by decide +kernel) rfl, ks_mg 645 (by decide +kernel) rfl, ⟨by decide +kernel, by decide +kernel⟩, by decide +kernel, by decide⟩
set_option maxRecDepth 100000 in
theorem kb_X6_carryOneOut : ks_CB yX6_carryOneOut cX6_carryOneOut 5 (some .int) 1 := ⟨ks_mg 69 (by decide +kernel) rfl, ks_mg 649 (by decide +kernel) rfl, ⟨by decide +kernel, by decide +kernel⟩, by decide +kernel, by decide⟩
set_option maxRecDepth 100000 in
theorem kb_X1_part : ks_CB yX1_part cX1_part 3 (some .int) 2 := ⟨ks_mg 76 (by decide +kernel) rfl, ks_mg 653 (by decide +kernel) rfl, ⟨by decide +kernel, by decide +kernel⟩, by decide +kernel, by decide⟩
set_option maxRecDepth 100000 in
theorem kb_X1_letter : ks_CB yX1_letter cX1_letter 2 (some .int) 1 := ⟨ks_mg 76 (by decide +kernel) rfl, ks_mg 657 (by decide +kernel) rfl, ⟨by decide +kernel, by decide +kernel⟩, by decide +kernel, by decide⟩
set_option maxRecDepth 100000 in
theorem kb_X6_undo : ks_CB yX6_undo cX6_undo 1 (some .int) 0 := ⟨ks_mg 69 (by decide +kernel) rfl, ks_mg 661 (by decide +kernel) rfl, ⟨by decide +kernel, by decide +kernel⟩, by decide +kernel, by decide⟩
set_option maxRecDepth 100000 in
theorem kb_X0_takeBack : ks_CB yX0_takeBack cX0_takeBack 2 none 1 := ⟨ks_mg 74 (by decide +kernel) rfl, ks_mg 665 (by decide +kernel) rfl, ⟨by decide +kernel, by decide +kernel⟩, by decide +kernel, by decide⟩
set_option maxRecDepth 100000 in
theorem kb_X6_save : ks_CB yX6_save cX6_save 2 (some .int) 1 := ⟨ks_mg 69 (by decide +kernel) rfl, ks_mg 669 (by decide +kernel) rfl, ⟨by decide +kernel, by decide +kernel⟩, by decide +kernel, by decide⟩
set_option maxRecDepth 100000 in
theorem kb_X6_restore : ks_CB yX6_restore cX6_restore 3 (some .int) 1 := ⟨ks_mg 69 (by decide +kernel) rfl, ks_mg 674 (by decide +kernel) rfl, ⟨by decide +kernel, by decide +kernel⟩, by decide +kernel, by decide⟩
set_option maxRecDepth 100000 in
theorem kb_X7_init : ks_CB yX7_init cX7_init 1 none 0 := ⟨ks_mg 77 (by decide +kernel) rfl, ks_mg 679 (by decide +kernel) rfl, ⟨by decide +kernel, by decide +kernel⟩, by decide +kernel, by decide⟩
set_option maxRecDepth 100000 in
theorem kb_X7_set : ks_CB yX7_set cX7_set 4 (some .int) 2 := ⟨ks_mg 77 (by decide +kernel) rfl, ks_mg 716 (by decide +kernel) rfl, ⟨by decide +kernel, by decide +kernel⟩, by decide +kernel, by decide⟩
set_option maxRecDepth 100000 in
theorem kb_X7_isValue : ks_CB yX7_isValue cX7_isValue 2 (some .boolean) 2 := ⟨ks_mg 77 (by decide +kernel) rfl, ks_mg 719 (by decide +kernel) rfl, ⟨by decide +kernel, by decide +kernel⟩, by decide +kernel, by decide⟩
set_option maxRecDepth 100000 in
theorem kb_X7_in : ks_CB yX7_in cX7_in 6 (some .boolean) 3 := ⟨ks_mg 77 (by decide +kernel) rfl, ks_mg 723 (by decide +kernel) rfl, ⟨by decide +kernel, by decide +kernel⟩, by decide +kernel, by decide⟩
set_option maxRecDepth 100000 in
theorem kb_X7_changes : ks_CB yX7_changes cX7_changes 2 none 0 := ⟨ks_mg 77 (by decide +kernel) rfl, ks_mg 731 (by decide +kernel) rfl, ⟨by decide +kernel, by decide +kernel⟩, by decide +kernel, by decide⟩
set_option maxRecDepth 100000 in
theorem kb_X7_copies : ks_CB yX7_copies cX7_copies 4 none 2 := ⟨ks_mg 77 (by decide +kernel) rfl, ks_mg 735 (by decide +kernel) rfl, ⟨by decide +kernel, by decide +kernel⟩, by decide +kernel, by decide⟩
set_option maxRecDepth 100000 in
theorem kb_X7_kitten : ks_CB yX7_kitten cX7_kitten 3 (some .int) 1 := ⟨ks_mg 77 (by decide +kernel) rfl, ks_mg 739 (by decide +kernel) rfl, ⟨by decide +kernel, by decide +kernel⟩, by decide +kernel, by decide⟩
set_option maxRecDepth 100000 in
theorem kb_X7_kittenError : ks_CB yX7_kittenError cX7_kittenError 2 (some .int) 1 := ⟨ks_mg 77 (by decide +kernel) rfl, ks_mg 743 (by decide +kernel) rfl, ⟨by decide +kernel, by decide +kernel⟩, by decide +kernel, by decide⟩
set_option maxRecDepth 100000 in
theorem kb_X7_comes : ks_CB yX7_comes cX7_comes 4 (some .int) 1 := ⟨ks_mg 77 (by decide +kernel) rfl, ks_mg 747 (by decide +kernel) rfl, ⟨by decide +kernel, by decide +kernel⟩, by decide +kernel, by decide⟩
set_option maxRecDepth 100000 in
theorem kb_X7_kittenAt : ks_CB yX7_kittenAt cX7_kittenAt 2 (some .int) 2 := ⟨ks_mg 77 (by decide +kernel) rfl, ks_mg 750 (by decide +kernel) rfl, ⟨by decide +kernel, by decide +kernel⟩, by decide +kernel, by decide⟩
set_option maxRecDepth 100000 in
theorem kb_X7_leap : ks_CB yX7_leap cX7_leap 4 (some .int) 2 := ⟨ks_mg 77 (by decide +kernel) rfl, ks_mg 754 (by decide +kernel) rfl, ⟨by decide +kernel, by decide +kernel⟩, by decide +kernel, by decide⟩
set_option maxRecDepth 100000 in
theorem kb_X7_leapError : ks_CB yX7_leapError cX7_leapError 3 (some .int) 2 := ⟨ks_mg 77 (by decide +kernel) rfl, ks_mg 758 (by decide +kernel) rfl, ⟨by decide +kernel, by decide +kernel⟩, by decide +kernel, by decide⟩
set_option maxRecDepth 100000 in
theorem kb_X7_isKitten : ks_CB yX7_isKitten cX7_isKitten 2 (some .boolean) 1 := ⟨ks_mg 77 (by decide +kernel) rfl, ks_mg 762 (by decide +kernel) rfl, ⟨by decide +kernel, by decide +kernel⟩, by decide +kernel, by decide⟩
set_option maxRecDepth 100000 in
theorem kb_X7_areSteps : ks_CB yX7_areSteps cX7_areSteps 1 (some .boolean) 1 := ⟨ks_mg 77 (by decide +kernel) rfl, ks_mg 765 (by decide +kernel) rfl, ⟨by decide +kernel, by decide +kernel⟩, by decide +kernel, by decide⟩
set_option maxRecDepth 100000 in
theorem kb_X7_reason : ks_CB yX7_reason cX7_reason 5 (some .int) 3 := ⟨ks_mg 77 (by decide +kernel) rfl, ks_mg 770 (by decide +kernel) rfl, ⟨by decide +kernel, by decide +kernel⟩, by decide +kernel, by decide⟩
set_option maxRecDepth 100000 in
theorem kb_X7_naps : ks_CB yX7_naps cX7_naps 3 (some .boolean) 2 := ⟨ks_mg 77 (by decide +kernel) rfl, ks_mg 774 (by decide +kernel) rfl, ⟨by decide +kernel, by decide +kernel⟩, by decide +kernel, by decide⟩
set_option maxRecDepth 100000 in
theorem kb_X7_cost : ks_CB yX7_cost cX7_cost 1 (some .int) 1 := ⟨ks_mg 77 (by decide +kernel) rfl, ks_mg 777 (by decide +kernel) rfl, ⟨by decide +kernel, by decide +kernel⟩, by decide +kernel, by decide⟩
set_option maxRecDepth 100000 in
theorem kb_X7_isHeldBack : ks_CB yX7_isHeldBack cX7_isHeldBack 10 (some .boolean) 3 := ⟨ks_mg 77 (by decide +kernel) rfl, ks_mg 781 (by decide +kernel) rfl, ⟨by decide +kernel, by decide +kernel⟩, by decide +kernel, by decide⟩
set_option maxRecDepth 100000 in
theorem kb_X7_boundTo : ks_CB yX7_boundTo cX7_boundTo 5 (some .int) 2 := ⟨ks_mg 77 (by decide +kernel) rfl, ks_mg 785 (by decide +kernel) rfl, ⟨by decide +kernel, by decide +kernel⟩, by decide +kernel, by decide⟩
set_option maxRecDepth 100000 in
theorem kb_X7_boundEdges : ks_CB yX7_boundEdges cX7_boundEdges 6 (some .int) 3 := ⟨ks_mg 77 (by decide +kernel) rfl, ks_mg 789 (by decide +kernel) rfl, ⟨by decide +kernel, by decide +kernel⟩, by decide +kernel, by decide⟩
set_option maxRecDepth 100000 in
theorem kb_X7_areBoundAt : ks_CB yX7_areBoundAt cX7_areBoundAt 9 (some .boolean) 4 := ⟨ks_mg 77 (by decide +kernel) rfl, ks_mg 793 (by decide +kernel) rfl, ⟨by decide +kernel, by decide +kernel⟩, by decide +kernel, by decide⟩
set_option maxRecDepth 100000 in
theorem kb_X7_ownerAt : ks_CB yX7_ownerAt cX7_ownerAt 5 (some .int) 3 := ⟨ks_mg 77 (by decide +kernel) rfl, ks_mg 797 (by decide +kernel) rfl, ⟨by decide +kernel, by decide +kernel⟩, by decide +kernel, by decide⟩
set_option maxRecDepth 100000 in
theorem kb_X7_size : ks_CB yX7_size cX7_size 1 (some .int) 1 := ⟨ks_mg 77 (by decide +kernel) rfl, ks_mg 800 (by decide +kernel) rfl, ⟨by decide +kernel, by decide +kernel⟩, by decide +kernel, by decide⟩
set_option maxRecDepth 100000 in
theorem kb_X7_isTooShort : ks_CB yX7_isTooShort cX7_isTooShort 7 (some .boolean) 3 := ⟨ks_mg 77 (by decide +kernel) rfl, ks_mg 804 (by decide +kernel) rfl, ⟨by decide +kernel, by decide +kernel⟩, by decide +kernel, by decide⟩
set_option maxRecDepth 100000 in
theorem kb_X7_edgeOf : ks_CB yX7_edgeOf cX7_edgeOf 6 (some .int) 4 := ⟨ks_mg 77 (by decide +kernel) rfl, ks_mg 808 (by decide +kernel) rfl, ⟨by decide +kernel, by decide +kernel⟩, by decide +kernel, by decide⟩
set_option maxRecDepth 100000 in
theorem kb_X7_windsBack : ks_CB yX7_windsBack cX7_windsBack 5 (some .boolean) 3 := ⟨ks_mg 77 (by decide +kernel) rfl, ks_mg 812 (by decide +kernel) rfl, ⟨by decide +kernel, by decide +kernel⟩, by decide +kernel, by decide⟩
set_option maxRecDepth 100000 in
theorem kb_X7_top : ks_CB yX7_top cX7_top 5 (some .int) 2 := ⟨ks_mg 77 (by decide +kernel) rfl, ks_mg 816 (by decide +kernel) rfl, ⟨by decide +kernel, by decide +kernel⟩, by decide +kernel, by decide⟩
set_option maxRecDepth 100000 in
theorem kb_X7_leaps : ks_CB yX7_leaps cX7_leaps 7 (some .int) 3 := ⟨ks_mg 77 (by decide +kernel) rfl, ks_mg 820 (by decide +kernel) rfl, ⟨by decide +kernel, by decide +kernel⟩, by decide +kernel, by decide⟩
set_option maxRecDepth 100000 in
theorem kb_X7_crosses : ks_CB yX7_crosses cX7_crosses 5 none 3 := ⟨ks_mg 77 (by decide +kernel) rfl, ks_mg 824 (by decide +kernel) rfl, ⟨by decide +kernel, by decide +kernel⟩, by decide +kernel, by decide⟩
set_option maxRecDepth 100000 in
theorem kb_X7_removesStrand : ks_CB yX7_removesStrand cX7_removesStrand 4 none 2 := ⟨ks_mg 77 (by decide +kernel) rfl, ks_mg 828 (by decide +kernel) rfl, ⟨by decide +kernel, by decide +kernel⟩, by decide +kernel, by decide⟩
set_option maxRecDepth 100000 in
theorem kb_X7_nap : ks_CB yX7_nap cX7_nap 3 (some .int) 1 := ⟨ks_mg 77 (by decide +kernel) rfl, ks_mg 832 (by decide +kernel) rfl, ⟨by decide +kernel, by decide +kernel⟩, by decide +kernel, by decide⟩
set_option maxRecDepth 100000 in
theorem kb_X7_napError : ks_CB yX7_napError cX7_napError 2 (some .int) 1 := ⟨ks_mg 77 (by decide +kernel) rfl, ks_mg 836 (by decide +kernel) rfl, ⟨by decide +kernel, by decide +kernel⟩, by decide +kernel, by decide⟩
set_option maxRecDepth 100000 in
theorem kb_X7_sleeps : ks_CB yX7_sleeps cX7_sleeps 2 (some .int) 1 := ⟨ks_mg 77 (by decide +kernel) rfl, ks_mg 840 (by decide +kernel) rfl, ⟨by decide +kernel, by decide +kernel⟩, by decide +kernel, by decide⟩
set_option maxRecDepth 100000 in
theorem kb_X7_snip : ks_CB yX7_snip cX7_snip 4 (some .int) 2 := ⟨ks_mg 77 (by decide +kernel) rfl, ks_mg 844 (by decide +kernel) rfl, ⟨by decide +kernel, by decide +kernel⟩, by decide +kernel, by decide⟩
set_option maxRecDepth 100000 in
theorem kb_X7_snipError : ks_CB yX7_snipError cX7_snipError 3 (some .int) 2 := ⟨ks_mg 77 (by decide +kernel) rfl, ks_mg 848 (by decide +kernel) rfl, ⟨by decide +kernel, by decide +kernel⟩, by decide +kernel, by decide⟩
set_option maxRecDepth 100000 in
theorem kb_X7_isEdge : ks_CB yX7_isEdge cX7_isEdge 1 (some .boolean) 1 := ⟨ks_mg 77 (by decide +kernel) rfl, ks_mg 851 (by decide +kernel) rfl, ⟨by decide +kernel, by decide +kernel⟩, by decide +kernel, by decide⟩
set_option maxRecDepth 100000 in
theorem kb_X7_strandsAt : ks_CB yX7_strandsAt cX7_strandsAt 5 (some .int) 2 := ⟨ks_mg 77 (by decide +kernel) rfl, ks_mg 856 (by decide +kernel) rfl, ⟨by decide +kernel, by decide +kernel⟩, by decide +kernel, by decide⟩
set_option maxRecDepth 100000 in
theorem kb_X7_snips : ks_CB yX7_snips cX7_snips 5 (some .int) 2 := ⟨ks_mg 77 (by decide +kernel) rfl, ks_mg 860 (by decide +kernel) rfl, ⟨by decide +kernel, by decide +kernel⟩, by decide +kernel, by decide⟩
set_option maxRecDepth 100000 in
theorem kb_X7_plan : ks_CB yX7_plan cX7_plan 5 (some .int) 3 := ⟨ks_mg 77 (by decide +kernel) rfl, ks_mg 864 (by decide +kernel) rfl, ⟨by decide +kernel, by decide +kernel⟩, by decide +kernel, by decide⟩
set_option maxRecDepth 100000 in
theorem kb_X7_planError : ks_CB yX7_planError cX7_planError 4 (some .int) 3 := ⟨ks_mg 77 (by decide +kernel) rfl, ks_mg 868 (by decide +kernel) rfl, ⟨by decide +kernel, by decide +kernel⟩, by decide +kernel, by decide⟩
set_option maxRecDepth 100000 in
theorem kb_X7_plans : ks_CB yX7_plans cX7_plans 7 (some .int) 3 := ⟨ks_mg 77 (by decide +kernel) rfl, ks_mg 873 (by decide +kernel) rfl, ⟨by decide +kernel, by decide +kernel⟩, by decide +kernel, by decide⟩
set_option maxRecDepth 100000 in
theorem kb_X7_planAt : ks_CB yX7_planAt cX7_planAt 2 (some .int) 2 := ⟨ks_mg 77 (by decide +kernel) rfl, ks_mg 876 (by decide +kernel) rfl, ⟨by decide +kernel, by decide +kernel⟩, by decide +kernel, by decide⟩
set_option maxRecDepth 100000 in
theorem kb_X7_pass : ks_CB yX7_pass cX7_pass 3 (some .int) 1 := ⟨ks_mg 77 (by decide +kernel) rfl, ks_mg 880 (by decide +kernel) rfl, ⟨by decide +kernel, by decide +kernel⟩, by decide +kernel, by decide⟩
set_option maxRecDepth 100000 in
theorem kb_X7_passError : ks_CB yX7_passError cX7_passError 2 (some .int) 1 := ⟨ks_mg 77 (by decide +kernel) rfl, ks_mg 884 (by decide +kernel) rfl, ⟨by decide +kernel, by decide +kernel⟩, by decide +kernel, by decide⟩
set_option maxRecDepth 100000 in
theorem kb_X7_turns : ks_CB yX7_turns cX7_turns 5 (some .int) 2 := ⟨ks_mg 77 (by decide +kernel) rfl, ks_mg 888 (by decide +kernel) rfl, ⟨by decide +kernel, by decide +kernel⟩, by decide +kernel, by decide⟩
set_option maxRecDepth 100000 in
theorem kb_X7_turn : ks_CB yX7_turn cX7_turn 8 (some .int) 1 := ⟨ks_mg 77 (by decide +kernel) rfl, ks_mg 892 (by decide +kernel) rfl, ⟨by decide +kernel, by decide +kernel⟩, by decide +kernel, by decide⟩
set_option maxRecDepth 100000 in
theorem kb_X7_of : ks_CB yX7_of cX7_of 4 (some .int) 2 := ⟨ks_mg 77 (by decide +kernel) rfl, ks_mg 896 (by decide +kernel) rfl, ⟨by decide +kernel, by decide +kernel⟩, by decide +kernel, by decide⟩
set_option maxRecDepth 100000 in
theorem kb_X7_strandsOf : ks_CB yX7_strandsOf cX7_strandsOf 4 (some .int) 1 := ⟨ks_mg 77 (by decide +kernel) rfl, ks_mg 900 (by decide +kernel) rfl, ⟨by decide +kernel, by decide +kernel⟩, by decide +kernel, by decide⟩
set_option maxRecDepth 100000 in
theorem kb_X7_stepsOf : ks_CB yX7_stepsOf cX7_stepsOf 4 (some .int) 1 := ⟨ks_mg 77 (by decide +kernel) rfl, ks_mg 904 (by decide +kernel) rfl, ⟨by decide +kernel, by decide +kernel⟩, by decide +kernel, by decide⟩
set_option maxRecDepth 100000 in
theorem kb_X7_ofEdge : ks_CB yX7_ofEdge cX7_ofEdge 3 (some .int) 2 := ⟨ks_mg 77 (by decide +kernel) rfl, ks_mg 908 (by decide +kernel) rfl, ⟨by decide +kernel, by decide +kernel⟩, by decide +kernel, by decide⟩
set_option maxRecDepth 100000 in
theorem kb_X7_thickness : ks_CB yX7_thickness cX7_thickness 4 (some .int) 1 := ⟨ks_mg 77 (by decide +kernel) rfl, ks_mg 912 (by decide +kernel) rfl, ⟨by decide +kernel, by decide +kernel⟩, by decide +kernel, by decide⟩
set_option maxRecDepth 100000 in
theorem kb_X7_kittensAt : ks_CB yX7_kittensAt cX7_kittensAt 4 (some .int) 1 := ⟨ks_mg 77 (by decide +kernel) rfl, ks_mg 916 (by decide +kernel) rfl, ⟨by decide +kernel, by decide +kernel⟩, by decide +kernel, by decide⟩
set_option maxRecDepth 100000 in
theorem kb_X7_pairsAt : ks_CB yX7_pairsAt cX7_pairsAt 4 (some .int) 1 := ⟨ks_mg 77 (by decide +kernel) rfl, ks_mg 920 (by decide +kernel) rfl, ⟨by decide +kernel, by decide +kernel⟩, by decide +kernel, by decide⟩
set_option maxRecDepth 100000 in
theorem kb_X7_strand : ks_CB yX7_strand cX7_strand 5 (some .int) 2 := ⟨ks_mg 77 (by decide +kernel) rfl, ks_mg 924 (by decide +kernel) rfl, ⟨by decide +kernel, by decide +kernel⟩, by decide +kernel, by decide⟩
set_option maxRecDepth 100000 in
theorem kb_X7_bound : ks_CB yX7_bound cX7_bound 3 (some .int) 2 := ⟨ks_mg 77 (by decide +kernel) rfl, ks_mg 928 (by decide +kernel) rfl, ⟨by decide +kernel, by decide +kernel⟩, by decide +kernel, by decide⟩
set_option maxRecDepth 100000 in
theorem kb_X7_planned : ks_CB yX7_planned cX7_planned 3 (some .int) 2 := ⟨ks_mg 77 (by decide +kernel) rfl, ks_mg 932 (by decide +kernel) rfl, ⟨by decide +kernel, by decide +kernel⟩, by decide +kernel, by decide⟩
set_option maxRecDepth 100000 in
theorem kb_X7_count : ks_CB yX7_count cX7_count 2 (some .int) 1 := ⟨ks_mg 77 (by decide +kernel) rfl, ks_mg 936 (by decide +kernel) rfl, ⟨by decide +kernel, by decide +kernel⟩, by decide +kernel, by decide⟩
set_option maxRecDepth 100000 in
theorem kb_X7_napping : ks_CB yX7_napping cX7_napping 3 (some .int) 0 := ⟨ks_mg 77 (by decide +kernel) rfl, ks_mg 940 (by decide +kernel) rfl, ⟨by decide +kernel, by decide +kernel⟩, by decide +kernel, by decide⟩
set_option maxRecDepth 100000 in
theorem kb_X7_all : ks_CB yX7_all cX7_all 4 (some .int) 1 := ⟨ks_mg 77 (by decide +kernel) rfl, ks_mg 944 (by decide +kernel) rfl, ⟨by decide +kernel, by decide +kernel⟩, by decide +kernel, by decide⟩
set_option maxRecDepth 100000 in
theorem kb_X7_pairs : ks_CB yX7_pairs cX7_pairs 3 (some .int) 0 := ⟨ks_mg 77 (by decide +kernel) rfl, ks_mg 948 (by decide +kernel) rfl, ⟨by decide +kernel, by decide +kernel⟩, by decide +kernel, by decide⟩
set_option maxRecDepth 100000 in
theorem kb_X7_ones : ks_CB yX7_ones cX7_ones 3 (some .int) 1 := ⟨ks_mg 77 (by decide +kernel) rfl, ks_mg 951 (by decide +kernel) rfl, ⟨by decide +kernel, by decide +kernel⟩, by decide +kernel, by decide⟩
set_option maxRecDepth 100000 in
theorem kb_X7_why : ks_CB yX7_why cX7_why 3 (some .int) 2 := ⟨ks_mg 77 (by decide +kernel) rfl, ks_mg 955 (by decide +kernel) rfl, ⟨by decide +kernel, by decide +kernel⟩, by decide +kernel, by decide⟩
set_option maxRecDepth 100000 in
theorem kb_X7_ifLeapt : ks_CB yX7_ifLeapt cX7_ifLeapt 9 (some .int) 3 := ⟨ks_mg 77 (by decide +kernel) rfl, ks_mg 959 (by decide +kernel) rfl, ⟨by decide +kernel, by decide +kernel⟩, by decide +kernel, by decide⟩
set_option maxRecDepth 100000 in
theorem kb_X7_frees : ks_CB yX7_frees cX7_frees 7 (some .int) 2 := ⟨ks_mg 77 (by decide +kernel) rfl, ks_mg 964 (by decide +kernel) rfl, ⟨by decide +kernel, by decide +kernel⟩, by decide +kernel, by decide⟩
set_option maxRecDepth 100000 in
theorem kb_X7_sorting : ks_CB yX7_sorting cX7_sorting 8 (some .int) 3 := ⟨ks_mg 77 (by decide +kernel) rfl, ks_mg 968 (by decide +kernel) rfl, ⟨by decide +kernel, by decide +kernel⟩, by decide +kernel, by decide⟩
set_option maxRecDepth 100000 in
theorem kb_X7_quietIn : ks_CB yX7_quietIn cX7_quietIn 3 (some .int) 0 := ⟨ks_mg 77 (by decide +kernel) rfl, ks_mg 972 (by decide +kernel) rfl, ⟨by decide +kernel, by decide +kernel⟩, by decide +kernel, by decide⟩
set_option maxRecDepth 100000 in
theorem kb_X7_stepIn : ks_CB yX7_stepIn cX7_stepIn 4 (some .int) 2 := ⟨ks_mg 77 (by decide +kernel) rfl, ks_mg 976 (by decide +kernel) rfl, ⟨by decide +kernel, by decide +kernel⟩, by decide +kernel, by decide⟩
set_option maxRecDepth 100000 in
theorem kb_X7_thickest : ks_CB yX7_thickest cX7_thickest 5 (some .int) 0 := ⟨ks_mg 77 (by decide +kernel) rfl, ks_mg 980 (by decide +kernel) rfl, ⟨by decide +kernel, by decide +kernel⟩, by decide +kernel, by decide⟩
set_option maxRecDepth 100000 in
theorem kb_X7_put : ks_CB yX7_put cX7_put 5 (some .int) 1 := ⟨ks_mg 77 (by decide +kernel) rfl, ks_mg 984 (by decide +kernel) rfl, ⟨by decide +kernel, by decide +kernel⟩, by decide +kernel, by decide⟩
set_option maxRecDepth 100000 in
theorem kb_X7_charactersOf : ks_CB yX7_charactersOf cX7_charactersOf 5 (some .int) 1 := ⟨ks_mg 77 (by decide +kernel) rfl, ks_mg 987 (by decide +kernel) rfl, ⟨by decide +kernel, by decide +kernel⟩, by decide +kernel, by decide⟩
set_option maxRecDepth 100000 in
theorem kb_X7_wipe : ks_CB yX7_wipe cX7_wipe 2 (some .int) 0 := ⟨ks_mg 77 (by decide +kernel) rfl, ks_mg 994 (by decide +kernel) rfl, ⟨by decide +kernel, by decide +kernel⟩, by decide +kernel, by decide⟩
set_option maxRecDepth 100000 in
theorem kb_X7_fault : ks_CB yX7_fault cX7_fault 2 (some .int) 0 := ⟨ks_mg 77 (by decide +kernel) rfl, ks_mg 998 (by decide +kernel) rfl, ⟨by decide +kernel, by decide +kernel⟩, by decide +kernel, by decide⟩
set_option maxRecDepth 100000 in
theorem kb_X7_readsOrder : ks_CB yX7_readsOrder cX7_readsOrder 1 (some .boolean) 0 := ⟨ks_mg 77 (by decide +kernel) rfl, ks_mg 1002 (by decide +kernel) rfl, ⟨by decide +kernel, by decide +kernel⟩, by decide +kernel, by decide⟩
set_option maxRecDepth 100000 in
theorem kb_X7_readsNumber : ks_CB yX7_readsNumber cX7_readsNumber 1 (some .boolean) 0 := ⟨ks_mg 77 (by decide +kernel) rfl, ks_mg 1006 (by decide +kernel) rfl, ⟨by decide +kernel, by decide +kernel⟩, by decide +kernel, by decide⟩
set_option maxRecDepth 100000 in
theorem kb_X7_number : ks_CB yX7_number cX7_number 2 (some .int) 0 := ⟨ks_mg 77 (by decide +kernel) rfl, ks_mg 1010 (by decide +kernel) rfl, ⟨by decide +kernel, by decide +kernel⟩, by decide +kernel, by decide⟩
set_option maxRecDepth 100000 in
theorem kb_X7_digit : ks_CB yX7_digit cX7_digit 2 (some .int) 0 := ⟨ks_mg 77 (by decide +kernel) rfl, ks_mg 1014 (by decide +kernel) rfl, ⟨by decide +kernel, by decide +kernel⟩, by decide +kernel, by decide⟩
set_option maxRecDepth 100000 in
theorem kb_X7_isHere : ks_CB yX7_isHere cX7_isHere 3 (some .boolean) 2 := ⟨ks_mg 77 (by decide +kernel) rfl, ks_mg 1018 (by decide +kernel) rfl, ⟨by decide +kernel, by decide +kernel⟩, by decide +kernel, by decide⟩
set_option maxRecDepth 100000 in
theorem kb_X7_readsKitten : ks_CB yX7_readsKitten cX7_readsKitten 1 (some .boolean) 0 := ⟨ks_mg 77 (by decide +kernel) rfl, ks_mg 1022 (by decide +kernel) rfl, ⟨by decide +kernel, by decide +kernel⟩, by decide +kernel, by decide⟩
set_option maxRecDepth 100000 in
theorem kb_X7_readsBy : ks_CB yX7_readsBy cX7_readsBy 3 (some .boolean) 0 := ⟨ks_mg 77 (by decide +kernel) rfl, ks_mg 1026 (by decide +kernel) rfl, ⟨by decide +kernel, by decide +kernel⟩, by decide +kernel, by decide⟩
set_option maxRecDepth 100000 in
theorem kb_X7_takes : ks_CB yX7_takes cX7_takes 3 (some .boolean) 1 := ⟨ks_mg 77 (by decide +kernel) rfl, ks_mg 1030 (by decide +kernel) rfl, ⟨by decide +kernel, by decide +kernel⟩, by decide +kernel, by decide⟩
set_option maxRecDepth 100000 in
theorem kb_X7_carryOut : ks_CB yX7_carryOut cX7_carryOut 5 (some .int) 0 := ⟨ks_mg 77 (by decide +kernel) rfl, ks_mg 1034 (by decide +kernel) rfl, ⟨by decide +kernel, by decide +kernel⟩, by decide +kernel, by decide⟩
set_option maxRecDepth 100000 in
theorem kb_X7_orderError : ks_CB yX7_orderError cX7_orderError 1 (some .int) 0 := ⟨ks_mg 77 (by decide +kernel) rfl, ks_mg 1039 (by decide +kernel) rfl, ⟨by decide +kernel, by decide +kernel⟩, by decide +kernel, by decide⟩
set_option maxRecDepth 100000 in
theorem kb_X7_does : ks_CB yX7_does cX7_does 1 (some .int) 0 := ⟨ks_mg 77 (by decide +kernel) rfl, ks_mg 1043 (by decide +kernel) rfl, ⟨by decide +kernel, by decide +kernel⟩, by decide +kernel, by decide⟩
set_option maxRecDepth 100000 in
theorem kb_X7_undo : ks_CB yX7_undo cX7_undo 1 (some .int) 0 := ⟨ks_mg 77 (by decide +kernel) rfl, ks_mg 1047 (by decide +kernel) rfl, ⟨by decide +kernel, by decide +kernel⟩, by decide +kernel, by decide⟩
set_option maxRecDepth 100000 in
theorem kb_X7_save : ks_CB yX7_save cX7_save 2 (some .int) 1 := ⟨ks_mg 77 (by decide +kernel) rfl, ks_mg 1051 (by decide +kernel) rfl, ⟨by decide +kernel, by decide +kernel⟩, by decide +kernel, by decide⟩
set_option maxRecDepth 100000 in
theorem kb_X7_isSlot : ks_CB yX7_isSlot cX7_isSlot 1 (some .boolean) 1 := ⟨ks_mg 77 (by decide +kernel) rfl, ks_mg 1054 (by decide +kernel) rfl, ⟨by decide +kernel, by decide +kernel⟩, by decide +kernel, by decide⟩
set_option maxRecDepth 100000 in
theorem kb_X7_restore : ks_CB yX7_restore cX7_restore 2 (some .int) 1 := ⟨ks_mg 77 (by decide +kernel) rfl, ks_mg 1058 (by decide +kernel) rfl, ⟨by decide +kernel, by decide +kernel⟩, by decide +kernel, by decide⟩
set_option maxRecDepth 100000 in
theorem kc_L_9 : ks_CI RL 9 yX6_init cX6_init 1 0 := ⟨kb_X6_init, Or.inl (ks_mg 81 (by decide +kernel) rfl), ks_mg 82 (by decide +kernel) rfl, rfl⟩
set_option maxRecDepth 100000 in
theorem kc_X6_11 : ks_CI RX6 11 yX4_init cX4_init 1 0 := ⟨kb_X4_init, Or.inl (ks_mg 89 (by decide +kernel) rfl), ks_mg 90 (by decide +kernel) rfl, rfl⟩
set_option maxRecDepth 100000 in
theorem kc_X4_51 : ks_CI RX4 51 yX5_init cX5_init 1 0 := ⟨kb_X5_init, Or.inr ⟨RX6, by decide +kernel⟩, ks_mg 96 (by decide +kernel) rfl, rfl⟩
set_option maxRecDepth 100000 in
theorem kc_X4_58 : ks_CI RX4 58 yX3_init cX3_init 1 0 := ⟨kb_X3_init, Or.inr ⟨RX6, by decide +kernel⟩, ks_mg 114 (by decide +kernel) rfl, rfl⟩
set_option maxRecDepth 100000 in
theorem kc_X6_21 : ks_CI RX6 21 yX0_init cX0_init 1 0 := ⟨kb_X0_init, Or.inr ⟨RX6, by decide +kernel⟩, ks_mg 202 (by decide +kernel) rfl, rfl⟩
set_option maxRecDepth 100000 in
theorem kc_X6_32 : ks_CI RX6 32 yX2_init cX2_init 1 0 := ⟨kb_X2_init, Or.inr ⟨RX6, by decide +kernel⟩, ks_mg 221 (by decide +kernel) rfl, rfl⟩
set_option maxRecDepth 100000 in
theorem kc_X6_39 : ks_CI RX6 39 yX1_init cX1_init 1 0 := ⟨kb_X1_init, Or.inr ⟨RX6, by decide +kernel⟩, ks_mg 236 (by decide +kernel) rfl, rfl⟩
set_option maxRecDepth 100000 in
theorem kc_L_13 : ks_CV RL 13 yX6_set cX6_set 3 (some .int) 2 := ⟨kb_X6_set, ks_mg 272 (by decide +kernel) rfl, ks_mg 273 (by decide +kernel) rfl, ks_mg 274 (by decide +kernel) rfl⟩
set_option maxRecDepth 100000 in
theorem kc_X6_44 : ks_CV RX6 44 yX0_draft cX0_draft 2 none 1 := ⟨kb_X0_draft, ks_mg 276 (by decide +kernel) rfl, ks_mg 277 (by decide +kernel) rfl, ks_mg 278 (by decide +kernel) rfl⟩
set_option maxRecDepth 100000 in
theorem kc_X0_24 : ks_CS RX0 24 yX6_roomAt cX6_roomAt 3 (some (.object "KittenStairs$Stairs")) 2 := ⟨kb_X6_roomAt, Or.inr ⟨RX6, by decide +kernel⟩, ks_mg 281 (by decide +kernel) rfl⟩
set_option maxRecDepth 100000 in
theorem kc_X0_28 : ks_CV RX0 28 yX4_copyFrom cX4_copyFrom 2 none 1 := ⟨kb_X4_copyFrom, ks_mg 283 (by decide +kernel) rfl, ks_mg 284 (by decide +kernel) rfl, ks_mg 285 (by decide +kernel) rfl⟩
set_option maxRecDepth 100000 in
theorem kc_X4_72 : ks_CV RX4 72 yX5_copyFrom cX5_copyFrom 2 none 1 := ⟨kb_X5_copyFrom, ks_mg 287 (by decide +kernel) rfl, ks_mg 288 (by decide +kernel) rfl, ks_mg 289 (by decide +kernel) rfl⟩
set_option maxRecDepth 100000 in
theorem kc_X4_76 : ks_CV RX4 76 yX3_copyFrom cX3_copyFrom 2 none 1 := ⟨kb_X3_copyFrom, ks_mg 292 (by decide +kernel) rfl, ks_mg 293 (by decide +kernel) rfl, ks_mg 294 (by decide +kernel) rfl⟩
set_option maxRecDepth 100000 in
theorem kc_X6_48 : ks_CV RX6 48 yX4_changeSetting cX4_changeSetting 4 (some .int) 2 := ⟨kb_X4_changeSetting, ks_mg 297 (by decide +kernel) rfl, ks_mg 298 (by decide +kernel) rfl, ks_mg 299 (by decide +kernel) rfl⟩
set_option maxRecDepth 100000 in
theorem kc_X6_52 : ks_CV RX6 52 yX6_settled cX6_settled 2 (some .int) 1 := ⟨kb_X6_settled, ks_mg 305 (by decide +kernel) rfl, ks_mg 307 (by decide +kernel) rfl, ks_mg 0 (by decide +kernel) rfl⟩
set_option maxRecDepth 100000 in
theorem kc_X6_237 : ks_CV RX6 237 yX0_keepDraft cX0_keepDraft 1 none 0 := ⟨kb_X0_keepDraft, ks_mg 309 (by decide +kernel) rfl, ks_mg 310 (by decide +kernel) rfl, ks_mg 311 (by decide +kernel) rfl⟩
set_option maxRecDepth 100000 in
theorem kc_L_18 : ks_CV RL 18 yX6_kitten cX6_kitten 2 (some .int) 1 := ⟨kb_X6_kitten, ks_mg 313 (by decide +kernel) rfl, ks_mg 314 (by decide +kernel) rfl, ks_mg 315 (by decide +kernel) rfl⟩
set_option maxRecDepth 100000 in
theorem kc_X6_56 : ks_CV RX6 56 yX4_addKitten cX4_addKitten 3 (some .int) 1 := ⟨kb_X4_addKitten, ks_mg 317 (by decide +kernel) rfl, ks_mg 318 (by decide +kernel) rfl, ks_mg 319 (by decide +kernel) rfl⟩
set_option maxRecDepth 100000 in
theorem kc_L_23 : ks_CV RL 23 yX6_leap cX6_leap 3 (some .int) 2 := ⟨kb_X6_leap, ks_mg 321 (by decide +kernel) rfl, ks_mg 322 (by decide +kernel) rfl, ks_mg 323 (by decide +kernel) rfl⟩
set_option maxRecDepth 100000 in
theorem kc_X6_59 : ks_CV RX6 59 yX4_tryLeap cX4_tryLeap 3 (some .int) 2 := ⟨kb_X4_tryLeap, ks_mg 325 (by decide +kernel) rfl, ks_mg 326 (by decide +kernel) rfl, ks_mg 327 (by decide +kernel) rfl⟩
set_option maxRecDepth 100000 in
theorem kc_X4_85 : ks_CV RX4 85 yX4_hasKitten cX4_hasKitten 2 (some .boolean) 1 := ⟨kb_X4_hasKitten, ks_mg 329 (by decide +kernel) rfl, ks_mg 330 (by decide +kernel) rfl, ks_mg 331 (by decide +kernel) rfl⟩
set_option maxRecDepth 100000 in
theorem kc_X4_89 : ks_CS RX4 89 yX6_isLeap cX6_isLeap 1 (some .boolean) 1 := ⟨kb_X6_isLeap, Or.inr ⟨RX6, by decide +kernel⟩, ks_mg 334 (by decide +kernel) rfl⟩
set_option maxRecDepth 100000 in
theorem kc_X4_92 : ks_CV RX4 92 yX4_refusal cX4_refusal 4 (some .int) 2 := ⟨kb_X4_refusal, ks_mg 336 (by decide +kernel) rfl, ks_mg 337 (by decide +kernel) rfl, ks_mg 338 (by decide +kernel) rfl⟩
set_option maxRecDepth 100000 in
theorem kc_X4_100 : ks_CV RX4 100 yX4_naps cX4_naps 2 (some .boolean) 1 := ⟨kb_X4_naps, ks_mg 340 (by decide +kernel) rfl, ks_mg 342 (by decide +kernel) rfl, ks_mg 1 (by decide +kernel) rfl⟩
set_option maxRecDepth 100000 in
theorem kc_X4_137 : ks_CS RX4 137 yX4_cost cX4_cost 1 (some .int) 1 := ⟨kb_X4_cost, Or.inl (ks_mg 344 (by decide +kernel) rfl), ks_mg 345 (by decide +kernel) rfl⟩
set_option maxRecDepth 100000 in
theorem kc_X4_141 : ks_CV RX4 141 yX4_isHeldBack cX4_isHeldBack 6 (some .boolean) 2 := ⟨kb_X4_isHeldBack, ks_mg 347 (by decide +kernel) rfl, ks_mg 349 (by decide +kernel) rfl, ks_mg 2 (by decide +kernel) rfl⟩
set_option maxRecDepth 100000 in
theorem kc_X4_153 : ks_CV RX4 153 yX5_boundEdgeSet cX5_boundEdgeSet 9 (some .int) 2 := ⟨kb_X5_boundEdgeSet, ks_mg 354 (by decide +kernel) rfl, ks_mg 355 (by decide +kernel) rfl, ks_mg 356 (by decide +kernel) rfl⟩
set_option maxRecDepth 100000 in
theorem kc_X4_145 : ks_CV RX4 145 yX4_ballLasts cX4_ballLasts 7 (some .boolean) 2 := ⟨kb_X4_ballLasts, ks_mg 358 (by decide +kernel) rfl, ks_mg 360 (by decide +kernel) rfl, ks_mg 3 (by decide +kernel) rfl⟩
set_option maxRecDepth 100000 in
theorem kc_X4_156 : ks_CS RX4 156 yX4_edgeOnWay cX4_edgeOnWay 3 (some .int) 3 := ⟨kb_X4_edgeOnWay, Or.inl (ks_mg 362 (by decide +kernel) rfl), ks_mg 363 (by decide +kernel) rfl⟩
set_option maxRecDepth 100000 in
theorem kc_X4_160 : ks_CV RX4 160 yX5_topOwner cX5_topOwner 3 (some .int) 1 := ⟨kb_X5_topOwner, ks_mg 365 (by decide +kernel) rfl, ks_mg 366 (by decide +kernel) rfl, ks_mg 367 (by decide +kernel) rfl⟩
set_option maxRecDepth 100000 in
theorem kc_X4_96 : ks_CV RX4 96 yX4_makeLeap cX4_makeLeap 5 none 2 := ⟨kb_X4_makeLeap, ks_mg 369 (by decide +kernel) rfl, ks_mg 370 (by decide +kernel) rfl, ks_mg 371 (by decide +kernel) rfl⟩
set_option maxRecDepth 100000 in
theorem kc_X4_163 : ks_CV RX4 163 yX4_comeOver cX4_comeOver 3 none 2 := ⟨kb_X4_comeOver, ks_mg 373 (by decide +kernel) rfl, ks_mg 375 (by decide +kernel) rfl, ks_mg 4 (by decide +kernel) rfl⟩
set_option maxRecDepth 100000 in
theorem kc_X4_166 : ks_CV RX4 166 yX5_removeTop cX5_removeTop 4 none 1 := ⟨kb_X5_removeTop, ks_mg 377 (by decide +kernel) rfl, ks_mg 378 (by decide +kernel) rfl, ks_mg 379 (by decide +kernel) rfl⟩
set_option maxRecDepth 100000 in
theorem kc_X4_170 : ks_CV RX4 170 yX5_lay cX5_lay 3 none 2 := ⟨kb_X5_lay, ks_mg 381 (by decide +kernel) rfl, ks_mg 382 (by decide +kernel) rfl, ks_mg 383 (by decide +kernel) rfl⟩
set_option maxRecDepth 100000 in
theorem kc_L_27 : ks_CV RL 27 yX6_nap cX6_nap 2 (some .int) 1 := ⟨kb_X6_nap, ks_mg 385 (by decide +kernel) rfl, ks_mg 386 (by decide +kernel) rfl, ks_mg 387 (by decide +kernel) rfl⟩
set_option maxRecDepth 100000 in
theorem kc_X6_62 : ks_CV RX6 62 yX4_beginNap cX4_beginNap 2 (some .int) 1 := ⟨kb_X4_beginNap, ks_mg 389 (by decide +kernel) rfl, ks_mg 390 (by decide +kernel) rfl, ks_mg 391 (by decide +kernel) rfl⟩
set_option maxRecDepth 100000 in
theorem kc_L_31 : ks_CV RL 31 yX6_snip cX6_snip 3 (some .int) 2 := ⟨kb_X6_snip, ks_mg 393 (by decide +kernel) rfl, ks_mg 394 (by decide +kernel) rfl, ks_mg 395 (by decide +kernel) rfl⟩
set_option maxRecDepth 100000 in
theorem kc_X6_65 : ks_CV RX6 65 yX4_snipStrands cX4_snipStrands 4 (some .int) 2 := ⟨kb_X4_snipStrands, ks_mg 397 (by decide +kernel) rfl, ks_mg 398 (by decide +kernel) rfl, ks_mg 399 (by decide +kernel) rfl⟩
set_option maxRecDepth 100000 in
theorem kc_X4_103 : ks_CS RX4 103 yX6_isEdge cX6_isEdge 1 (some .boolean) 1 := ⟨kb_X6_isEdge, Or.inr ⟨RX6, by decide +kernel⟩, ks_mg 402 (by decide +kernel) rfl⟩
set_option maxRecDepth 100000 in
theorem kc_X4_106 : ks_CV RX4 106 yX5_removeAll cX5_removeAll 5 (some .int) 2 := ⟨kb_X5_removeAll, ks_mg 404 (by decide +kernel) rfl, ks_mg 405 (by decide +kernel) rfl, ks_mg 406 (by decide +kernel) rfl⟩
set_option maxRecDepth 100000 in
theorem kc_L_35 : ks_CV RL 35 yX6_plan cX6_plan 4 (some .int) 3 := ⟨kb_X6_plan, ks_mg 408 (by decide +kernel) rfl, ks_mg 409 (by decide +kernel) rfl, ks_mg 410 (by decide +kernel) rfl⟩
set_option maxRecDepth 100000 in
theorem kc_X6_68 : ks_CV RX6 68 yX4_planLeap cX4_planLeap 4 (some .int) 3 := ⟨kb_X4_planLeap, ks_mg 412 (by decide +kernel) rfl, ks_mg 413 (by decide +kernel) rfl, ks_mg 414 (by decide +kernel) rfl⟩
set_option maxRecDepth 100000 in
theorem kc_X4_112 : ks_CV RX4 112 yX3_insert cX3_insert 5 none 3 := ⟨kb_X3_insert, ks_mg 416 (by decide +kernel) rfl, ks_mg 417 (by decide +kernel) rfl, ks_mg 418 (by decide +kernel) rfl⟩
set_option maxRecDepth 100000 in
theorem kc_X3_31 : ks_CV RX3 31 yX3_isLater cX3_isLater 4 (some .boolean) 3 := ⟨kb_X3_isLater, ks_mg 420 (by decide +kernel) rfl, ks_mg 422 (by decide +kernel) rfl, ks_mg 5 (by decide +kernel) rfl⟩
set_option maxRecDepth 100000 in
theorem kc_X3_35 : ks_CV RX3 35 yX3_move cX3_move 3 none 2 := ⟨kb_X3_move, ks_mg 424 (by decide +kernel) rfl, ks_mg 426 (by decide +kernel) rfl, ks_mg 6 (by decide +kernel) rfl⟩
set_option maxRecDepth 100000 in
theorem kc_L_40 : ks_CV RL 40 yX6_pass cX6_pass 2 (some .int) 1 := ⟨kb_X6_pass, ks_mg 428 (by decide +kernel) rfl, ks_mg 429 (by decide +kernel) rfl, ks_mg 430 (by decide +kernel) rfl⟩
set_option maxRecDepth 100000 in
theorem kc_X6_72 : ks_CV RX6 72 yX4_passTurns cX4_passTurns 4 (some .int) 1 := ⟨kb_X4_passTurns, ks_mg 432 (by decide +kernel) rfl, ks_mg 433 (by decide +kernel) rfl, ks_mg 434 (by decide +kernel) rfl⟩
set_option maxRecDepth 100000 in
theorem kc_X4_116 : ks_CV RX4 116 yX4_passOneTurn cX4_passOneTurn 5 (some .int) 0 := ⟨kb_X4_passOneTurn, ks_mg 436 (by decide +kernel) rfl, ks_mg 437 (by decide +kernel) rfl, ks_mg 438 (by decide +kernel) rfl⟩
set_option maxRecDepth 100000 in
theorem kc_X4_120 : ks_CV RX4 120 yX4_wakeKittens cX4_wakeKittens 2 none 0 := ⟨kb_X4_wakeKittens, ks_mg 440 (by decide +kernel) rfl, ks_mg 442 (by decide +kernel) rfl, ks_mg 7 (by decide +kernel) rfl⟩
set_option maxRecDepth 100000 in
theorem kc_X4_123 : ks_CV RX4 123 yX3_firstTurn cX3_firstTurn 1 (some .int) 0 := ⟨kb_X3_firstTurn, ks_mg 444 (by decide +kernel) rfl, ks_mg 445 (by decide +kernel) rfl, ks_mg 446 (by decide +kernel) rfl⟩
set_option maxRecDepth 100000 in
theorem kc_X4_131 : ks_CV RX4 131 yX3_removeFirst cX3_removeFirst 2 none 0 := ⟨kb_X3_removeFirst, ks_mg 448 (by decide +kernel) rfl, ks_mg 449 (by decide +kernel) rfl, ks_mg 450 (by decide +kernel) rfl⟩
set_option maxRecDepth 100000 in
theorem kc_X4_134 : ks_CV RX4 134 yX4_refreshKittens cX4_refreshKittens 2 none 0 := ⟨kb_X4_refreshKittens, ks_mg 452 (by decide +kernel) rfl, ks_mg 454 (by decide +kernel) rfl, ks_mg 8 (by decide +kernel) rfl⟩
set_option maxRecDepth 100000 in
theorem kc_L_44 : ks_CV RL 44 yX6_of cX6_of 3 (some .int) 2 := ⟨kb_X6_of, ks_mg 456 (by decide +kernel) rfl, ks_mg 457 (by decide +kernel) rfl, ks_mg 458 (by decide +kernel) rfl⟩
set_option maxRecDepth 100000 in
theorem kc_X6_75 : ks_CV RX6 75 yX4_hasKitten cX4_hasKitten 2 (some .boolean) 1 := ⟨kb_X4_hasKitten, ks_mg 460 (by decide +kernel) rfl, ks_mg 330 (by decide +kernel) rfl, ks_mg 331 (by decide +kernel) rfl⟩
set_option maxRecDepth 100000 in
theorem kc_X6_96 : ks_CV RX6 96 yX5_lyingOf cX5_lyingOf 4 (some .int) 1 := ⟨kb_X5_lyingOf, ks_mg 461 (by decide +kernel) rfl, ks_mg 462 (by decide +kernel) rfl, ks_mg 463 (by decide +kernel) rfl⟩
set_option maxRecDepth 100000 in
theorem kc_X6_110 : ks_CV RX6 110 yX4_boundSet cX4_boundSet 4 (some .int) 1 := ⟨kb_X4_boundSet, ks_mg 465 (by decide +kernel) rfl, ks_mg 466 (by decide +kernel) rfl, ks_mg 467 (by decide +kernel) rfl⟩
set_option maxRecDepth 100000 in
theorem kc_X6_113 : ks_CV RX6 113 yX4_reachSet cX4_reachSet 5 (some .int) 1 := ⟨kb_X4_reachSet, ks_mg 469 (by decide +kernel) rfl, ks_mg 470 (by decide +kernel) rfl, ks_mg 471 (by decide +kernel) rfl⟩
set_option maxRecDepth 100000 in
theorem kc_L_48 : ks_CV RL 48 yX6_ofEdge cX6_ofEdge 3 (some .int) 2 := ⟨kb_X6_ofEdge, ks_mg 473 (by decide +kernel) rfl, ks_mg 474 (by decide +kernel) rfl, ks_mg 475 (by decide +kernel) rfl⟩
set_option maxRecDepth 100000 in
theorem kc_X6_116 : ks_CS RX6 116 yX6_isEdge cX6_isEdge 1 (some .boolean) 1 := ⟨kb_X6_isEdge, Or.inl (ks_mg 477 (by decide +kernel) rfl), ks_mg 402 (by decide +kernel) rfl⟩
set_option maxRecDepth 100000 in
theorem kc_X6_119 : ks_CV RX6 119 yX5_lyingAt cX5_lyingAt 4 (some .int) 1 := ⟨kb_X5_lyingAt, ks_mg 478 (by decide +kernel) rfl, ks_mg 479 (by decide +kernel) rfl, ks_mg 480 (by decide +kernel) rfl⟩
set_option maxRecDepth 100000 in
theorem kc_X6_122 : ks_CV RX6 122 yX5_topOwner cX5_topOwner 3 (some .int) 1 := ⟨kb_X5_topOwner, ks_mg 482 (by decide +kernel) rfl, ks_mg 366 (by decide +kernel) rfl, ks_mg 367 (by decide +kernel) rfl⟩
set_option maxRecDepth 100000 in
theorem kc_X6_125 : ks_CV RX6 125 yX5_ownerSetAt cX5_ownerSetAt 4 (some .int) 1 := ⟨kb_X5_ownerSetAt, ks_mg 483 (by decide +kernel) rfl, ks_mg 484 (by decide +kernel) rfl, ks_mg 485 (by decide +kernel) rfl⟩
set_option maxRecDepth 100000 in
theorem kc_X6_128 : ks_CV RX6 128 yX4_boundPairs cX4_boundPairs 5 (some .int) 1 := ⟨kb_X4_boundPairs, ks_mg 487 (by decide +kernel) rfl, ks_mg 488 (by decide +kernel) rfl, ks_mg 489 (by decide +kernel) rfl⟩
set_option maxRecDepth 100000 in
theorem kc_L_52 : ks_CV RL 52 yX6_strand cX6_strand 3 (some .int) 2 := ⟨kb_X6_strand, ks_mg 491 (by decide +kernel) rfl, ks_mg 492 (by decide +kernel) rfl, ks_mg 493 (by decide +kernel) rfl⟩
set_option maxRecDepth 100000 in
theorem kc_X6_131 : ks_CV RX6 131 yX5_ownerAt cX5_ownerAt 5 (some .int) 2 := ⟨kb_X5_ownerAt, ks_mg 495 (by decide +kernel) rfl, ks_mg 496 (by decide +kernel) rfl, ks_mg 497 (by decide +kernel) rfl⟩
set_option maxRecDepth 100000 in
theorem kc_L_56 : ks_CV RL 56 yX6_bound cX6_bound 3 (some .int) 2 := ⟨kb_X6_bound, ks_mg 499 (by decide +kernel) rfl, ks_mg 500 (by decide +kernel) rfl, ks_mg 501 (by decide +kernel) rfl⟩
set_option maxRecDepth 100000 in
theorem kc_X6_134 : ks_CV RX6 134 yX5_boundEdgeSet cX5_boundEdgeSet 9 (some .int) 2 := ⟨kb_X5_boundEdgeSet, ks_mg 503 (by decide +kernel) rfl, ks_mg 355 (by decide +kernel) rfl, ks_mg 356 (by decide +kernel) rfl⟩
set_option maxRecDepth 100000 in
theorem kc_L_60 : ks_CV RL 60 yX6_planned cX6_planned 3 (some .int) 2 := ⟨kb_X6_planned, ks_mg 504 (by decide +kernel) rfl, ks_mg 505 (by decide +kernel) rfl, ks_mg 506 (by decide +kernel) rfl⟩
set_option maxRecDepth 100000 in
theorem kc_L_64 : ks_CV RL 64 yX6_count cX6_count 2 (some .int) 1 := ⟨kb_X6_count, ks_mg 508 (by decide +kernel) rfl, ks_mg 509 (by decide +kernel) rfl, ks_mg 510 (by decide +kernel) rfl⟩
set_option maxRecDepth 100000 in
theorem kc_X6_161 : ks_CV RX6 161 yX4_nappingSet cX4_nappingSet 3 (some .int) 0 := ⟨kb_X4_nappingSet, ks_mg 512 (by decide +kernel) rfl, ks_mg 513 (by decide +kernel) rfl, ks_mg 514 (by decide +kernel) rfl⟩
set_option maxRecDepth 100000 in
theorem kc_X6_168 : ks_CV RX6 168 yX4_sumOfAll cX4_sumOfAll 4 (some .int) 1 := ⟨kb_X4_sumOfAll, ks_mg 516 (by decide +kernel) rfl, ks_mg 517 (by decide +kernel) rfl, ks_mg 518 (by decide +kernel) rfl⟩
set_option maxRecDepth 100000 in
theorem kc_L_68 : ks_CV RL 68 yX6_why cX6_why 3 (some .int) 2 := ⟨kb_X6_why, ks_mg 520 (by decide +kernel) rfl, ks_mg 521 (by decide +kernel) rfl, ks_mg 522 (by decide +kernel) rfl⟩
set_option maxRecDepth 100000 in
theorem kc_X6_185 : ks_CS RX6 185 yX6_isLeap cX6_isLeap 1 (some .boolean) 1 := ⟨kb_X6_isLeap, Or.inl (ks_mg 524 (by decide +kernel) rfl), ks_mg 334 (by decide +kernel) rfl⟩
set_option maxRecDepth 100000 in
theorem kc_X6_188 : ks_CV RX6 188 yX4_refusal cX4_refusal 4 (some .int) 2 := ⟨kb_X4_refusal, ks_mg 525 (by decide +kernel) rfl, ks_mg 337 (by decide +kernel) rfl, ks_mg 338 (by decide +kernel) rfl⟩
set_option maxRecDepth 100000 in
theorem kc_L_72 : ks_CV RL 72 yX6_ifLeapt cX6_ifLeapt 4 (some .int) 3 := ⟨kb_X6_ifLeapt, ks_mg 526 (by decide +kernel) rfl, ks_mg 527 (by decide +kernel) rfl, ks_mg 528 (by decide +kernel) rfl⟩
set_option maxRecDepth 100000 in
theorem kc_X6_191 : ks_CV RX6 191 yX4_copyFrom cX4_copyFrom 2 none 1 := ⟨kb_X4_copyFrom, ks_mg 530 (by decide +kernel) rfl, ks_mg 284 (by decide +kernel) rfl, ks_mg 285 (by decide +kernel) rfl⟩
set_option maxRecDepth 100000 in
theorem kc_X6_194 : ks_CV RX6 194 yX4_makeLeap cX4_makeLeap 5 none 2 := ⟨kb_X4_makeLeap, ks_mg 531 (by decide +kernel) rfl, ks_mg 370 (by decide +kernel) rfl, ks_mg 371 (by decide +kernel) rfl⟩
set_option maxRecDepth 100000 in
theorem kc_L_76 : ks_CV RL 76 yX6_frees cX6_frees 5 (some .int) 2 := ⟨kb_X6_frees, ks_mg 532 (by decide +kernel) rfl, ks_mg 533 (by decide +kernel) rfl, ks_mg 534 (by decide +kernel) rfl⟩
set_option maxRecDepth 100000 in
theorem kc_X6_198 : ks_CV RX6 198 yX5_fewestGone cX5_fewestGone 6 (some .int) 3 := ⟨kb_X5_fewestGone, ks_mg 536 (by decide +kernel) rfl, ks_mg 537 (by decide +kernel) rfl, ks_mg 538 (by decide +kernel) rfl⟩
set_option maxRecDepth 100000 in
theorem kc_X5_28 : ks_CV RX5 28 yX5_mostKept cX5_mostKept 7 (some .int) 3 := ⟨kb_X5_mostKept, ks_mg 540 (by decide +kernel) rfl, ks_mg 542 (by decide +kernel) rfl, ks_mg 9 (by decide +kernel) rfl⟩
set_option maxRecDepth 100000 in
theorem kc_L_80 : ks_CV RL 80 yX6_quietIn cX6_quietIn 2 (some .int) 0 := ⟨kb_X6_quietIn, ks_mg 547 (by decide +kernel) rfl, ks_mg 548 (by decide +kernel) rfl, ks_mg 549 (by decide +kernel) rfl⟩
set_option maxRecDepth 100000 in
theorem kc_X6_201 : ks_CV RX6 201 yX4_lastWaking cX4_lastWaking 3 (some .int) 0 := ⟨kb_X4_lastWaking, ks_mg 551 (by decide +kernel) rfl, ks_mg 552 (by decide +kernel) rfl, ks_mg 553 (by decide +kernel) rfl⟩
set_option maxRecDepth 100000 in
theorem kc_X6_204 : ks_CV RX6 204 yX3_lastTurn cX3_lastTurn 1 (some .int) 0 := ⟨kb_X3_lastTurn, ks_mg 556 (by decide +kernel) rfl, ks_mg 557 (by decide +kernel) rfl, ks_mg 558 (by decide +kernel) rfl⟩
set_option maxRecDepth 100000 in
theorem kc_L_85 : ks_CV RL 85 yX6_stepIn cX6_stepIn 4 (some .int) 2 := ⟨kb_X6_stepIn, ks_mg 561 (by decide +kernel) rfl, ks_mg 562 (by decide +kernel) rfl, ks_mg 563 (by decide +kernel) rfl⟩
set_option maxRecDepth 100000 in
theorem kc_X6_212 : ks_CV RX6 212 yX4_passOneTurn cX4_passOneTurn 5 (some .int) 0 := ⟨kb_X4_passOneTurn, ks_mg 565 (by decide +kernel) rfl, ks_mg 437 (by decide +kernel) rfl, ks_mg 438 (by decide +kernel) rfl⟩
set_option maxRecDepth 100000 in
theorem kc_L_89 : ks_CV RL 89 yX6_thickest cX6_thickest 5 (some .int) 0 := ⟨kb_X6_thickest, ks_mg 566 (by decide +kernel) rfl, ks_mg 567 (by decide +kernel) rfl, ks_mg 568 (by decide +kernel) rfl⟩
set_option maxRecDepth 100000 in
theorem kc_L_95 : ks_CV RL 95 yX6_put cX6_put 3 (some .int) 1 := ⟨kb_X6_put, ks_mg 570 (by decide +kernel) rfl, ks_mg 571 (by decide +kernel) rfl, ks_mg 572 (by decide +kernel) rfl⟩
set_option maxRecDepth 100000 in
theorem kc_X6_215 : ks_CV RX6 215 yX2_append cX2_append 5 (some .int) 1 := ⟨kb_X2_append, ks_mg 574 (by decide +kernel) rfl, ks_mg 575 (by decide +kernel) rfl, ks_mg 576 (by decide +kernel) rfl⟩
set_option maxRecDepth 100000 in
theorem kc_X2_19 : ks_CS RX2 19 yX2_signsIn cX2_signsIn 7 (some .int) 1 := ⟨kb_X2_signsIn, Or.inl (ks_mg 578 (by decide +kernel) rfl), ks_mg 579 (by decide +kernel) rfl⟩
set_option maxRecDepth 100000 in
theorem kc_L_100 : ks_CV RL 100 yX6_wipe cX6_wipe 1 (some .int) 0 := ⟨kb_X6_wipe, ks_mg 584 (by decide +kernel) rfl, ks_mg 585 (by decide +kernel) rfl, ks_mg 586 (by decide +kernel) rfl⟩
set_option maxRecDepth 100000 in
theorem kc_X6_219 : ks_CV RX6 219 yX2_empty cX2_empty 2 (some .int) 0 := ⟨kb_X2_empty, ks_mg 588 (by decide +kernel) rfl, ks_mg 589 (by decide +kernel) rfl, ks_mg 590 (by decide +kernel) rfl⟩
set_option maxRecDepth 100000 in
theorem kc_L_104 : ks_CV RL 104 yX6_fault cX6_fault 1 (some .int) 0 := ⟨kb_X6_fault, ks_mg 592 (by decide +kernel) rfl, ks_mg 593 (by decide +kernel) rfl, ks_mg 594 (by decide +kernel) rfl⟩
set_option maxRecDepth 100000 in
theorem kc_X6_222 : ks_CV RX6 222 yX1_read cX1_read 2 (some .int) 1 := ⟨kb_X1_read, ks_mg 596 (by decide +kernel) rfl, ks_mg 597 (by decide +kernel) rfl, ks_mg 598 (by decide +kernel) rfl⟩
set_option maxRecDepth 100000 in
theorem kc_X1_29 : ks_CV RX1 29 yX1_readOrder cX1_readOrder 3 (some .boolean) 1 := ⟨kb_X1_readOrder, ks_mg 600 (by decide +kernel) rfl, ks_mg 602 (by decide +kernel) rfl, ks_mg 10 (by decide +kernel) rfl⟩
set_option maxRecDepth 100000 in
theorem kc_X1_42 : ks_CV RX1 42 yX2_signAt cX2_signAt 2 (some .int) 1 := ⟨kb_X2_signAt, ks_mg 604 (by decide +kernel) rfl, ks_mg 605 (by decide +kernel) rfl, ks_mg 606 (by decide +kernel) rfl⟩
set_option maxRecDepth 100000 in
theorem kc_X1_46 : ks_CS RX1 46 yX1_isLetter cX1_isLetter 1 (some .boolean) 1 := ⟨kb_X1_isLetter, Or.inl (ks_mg 608 (by decide +kernel) rfl), ks_mg 609 (by decide +kernel) rfl⟩
set_option maxRecDepth 100000 in
theorem kc_X1_50 : ks_CV RX1 50 yX1_readDigit cX1_readDigit 4 (some .boolean) 2 := ⟨kb_X1_readDigit, ks_mg 611 (by decide +kernel) rfl, ks_mg 613 (by decide +kernel) rfl, ks_mg 11 (by decide +kernel) rfl⟩
set_option maxRecDepth 100000 in
theorem kc_X1_59 : ks_CV RX1 59 yX1_digit cX1_digit 3 (some .int) 1 := ⟨kb_X1_digit, ks_mg 615 (by decide +kernel) rfl, ks_mg 617 (by decide +kernel) rfl, ks_mg 12 (by decide +kernel) rfl⟩
set_option maxRecDepth 100000 in
theorem kc_X1_63 : ks_CV RX1 63 yX1_keep cX1_keep 3 (some .boolean) 2 := ⟨kb_X1_keep, ks_mg 619 (by decide +kernel) rfl, ks_mg 621 (by decide +kernel) rfl, ks_mg 13 (by decide +kernel) rfl⟩
set_option maxRecDepth 100000 in
theorem kc_X1_25 : ks_CS RX1 25 yX1_hasPart cX1_hasPart 2 (some .boolean) 2 := ⟨kb_X1_hasPart, Or.inl (ks_mg 623 (by decide +kernel) rfl), ks_mg 624 (by decide +kernel) rfl⟩
set_option maxRecDepth 100000 in
theorem kc_X1_53 : ks_CV RX1 53 yX1_readBy cX1_readBy 5 (some .boolean) 2 := ⟨kb_X1_readBy, ks_mg 626 (by decide +kernel) rfl, ks_mg 628 (by decide +kernel) rfl, ks_mg 14 (by decide +kernel) rfl⟩
set_option maxRecDepth 100000 in
theorem kc_X1_38 : ks_CV RX1 38 yX1_readSign cX1_readSign 3 (some .boolean) 2 := ⟨kb_X1_readSign, ks_mg 630 (by decide +kernel) rfl, ks_mg 632 (by decide +kernel) rfl, ks_mg 15 (by decide +kernel) rfl⟩
set_option maxRecDepth 100000 in
theorem kc_X1_66 : ks_CV RX1 66 yX1_number cX1_number 4 (some .int) 1 := ⟨kb_X1_number, ks_mg 634 (by decide +kernel) rfl, ks_mg 636 (by decide +kernel) rfl, ks_mg 16 (by decide +kernel) rfl⟩
set_option maxRecDepth 100000 in
theorem kc_X1_56 : ks_CV RX1 56 yX1_readNumber cX1_readNumber 4 (some .boolean) 2 := ⟨kb_X1_readNumber, ks_mg 638 (by decide +kernel) rfl, ks_mg 640 (by decide +kernel) rfl, ks_mg 17 (by decide +kernel) rfl⟩
set_option maxRecDepth 100000 in
theorem kc_L_108 : ks_CV RL 108 yX6_carryOut cX6_carryOut 2 (some .int) 0 := ⟨kb_X6_carryOut, ks_mg 642 (by decide +kernel) rfl, ks_mg 643 (by decide +kernel) rfl, ks_mg 644 (by decide +kernel) rfl⟩
set_option maxRecDepth 100000 in
theorem kc_X6_227 : ks_CV RX6 227 yX6_carryOneOut cX6_carryOneOut 5 (some .int) 1 := ⟨kb_X6_carryOneOut, ks_mg 646 (by decide +kernel) rfl, ks_mg 648 (by decide +kernel) rfl, ks_mg 18 (by decide +kernel) rfl⟩
set_option maxRecDepth 100000 in
theorem kc_X6_240 : ks_CV RX6 240 yX1_part cX1_part 3 (some .int) 2 := ⟨kb_X1_part, ks_mg 650 (by decide +kernel) rfl, ks_mg 651 (by decide +kernel) rfl, ks_mg 652 (by decide +kernel) rfl⟩
set_option maxRecDepth 100000 in
theorem kc_X6_243 : ks_CV RX6 243 yX1_letter cX1_letter 2 (some .int) 1 := ⟨kb_X1_letter, ks_mg 654 (by decide +kernel) rfl, ks_mg 655 (by decide +kernel) rfl, ks_mg 656 (by decide +kernel) rfl⟩
set_option maxRecDepth 100000 in
theorem kc_L_112 : ks_CV RL 112 yX6_undo cX6_undo 1 (some .int) 0 := ⟨kb_X6_undo, ks_mg 658 (by decide +kernel) rfl, ks_mg 659 (by decide +kernel) rfl, ks_mg 660 (by decide +kernel) rfl⟩
set_option maxRecDepth 100000 in
theorem kc_X6_230 : ks_CV RX6 230 yX0_takeBack cX0_takeBack 2 none 1 := ⟨kb_X0_takeBack, ks_mg 662 (by decide +kernel) rfl, ks_mg 663 (by decide +kernel) rfl, ks_mg 664 (by decide +kernel) rfl⟩
set_option maxRecDepth 100000 in
theorem kc_L_116 : ks_CV RL 116 yX6_save cX6_save 2 (some .int) 1 := ⟨kb_X6_save, ks_mg 666 (by decide +kernel) rfl, ks_mg 667 (by decide +kernel) rfl, ks_mg 668 (by decide +kernel) rfl⟩
set_option maxRecDepth 100000 in
theorem kc_X6_233 : ks_CS RX6 233 yX6_roomAt cX6_roomAt 3 (some (.object "KittenStairs$Stairs")) 2 := ⟨kb_X6_roomAt, Or.inl (ks_mg 670 (by decide +kernel) rfl), ks_mg 281 (by decide +kernel) rfl⟩
set_option maxRecDepth 100000 in
theorem kc_L_120 : ks_CV RL 120 yX6_restore cX6_restore 3 (some .int) 1 := ⟨kb_X6_restore, ks_mg 671 (by decide +kernel) rfl, ks_mg 672 (by decide +kernel) rfl, ks_mg 673 (by decide +kernel) rfl⟩
set_option maxRecDepth 100000 in
theorem kc_L_12 : ks_CI RL 12 yX7_init cX7_init 1 0 := ⟨kb_X7_init, Or.inl (ks_mg 677 (by decide +kernel) rfl), ks_mg 678 (by decide +kernel) rfl, rfl⟩
set_option maxRecDepth 100000 in
theorem kc_L_17 : ks_CV RL 17 yX7_set cX7_set 4 (some .int) 2 := ⟨kb_X7_set, ks_mg 713 (by decide +kernel) rfl, ks_mg 714 (by decide +kernel) rfl, ks_mg 715 (by decide +kernel) rfl⟩
set_option maxRecDepth 100000 in
theorem kc_X7_126 : ks_CS RX7 126 yX7_isValue cX7_isValue 2 (some .boolean) 2 := ⟨kb_X7_isValue, Or.inl (ks_mg 717 (by decide +kernel) rfl), ks_mg 718 (by decide +kernel) rfl⟩
set_option maxRecDepth 100000 in
theorem kc_X7_70 : ks_CS RX7 70 yX7_in cX7_in 6 (some .boolean) 3 := ⟨kb_X7_in, Or.inl (ks_mg 721 (by decide +kernel) rfl), ks_mg 722 (by decide +kernel) rfl⟩
set_option maxRecDepth 100000 in
theorem kc_X7_129 : ks_CV RX7 129 yX7_changes cX7_changes 2 none 0 := ⟨kb_X7_changes, ks_mg 728 (by decide +kernel) rfl, ks_mg 730 (by decide +kernel) rfl, ks_mg 19 (by decide +kernel) rfl⟩
set_option maxRecDepth 100000 in
theorem kc_X7_24 : ks_CV RX7 24 yX7_copies cX7_copies 4 none 2 := ⟨kb_X7_copies, ks_mg 732 (by decide +kernel) rfl, ks_mg 734 (by decide +kernel) rfl, ks_mg 20 (by decide +kernel) rfl⟩
set_option maxRecDepth 100000 in
theorem kc_L_22 : ks_CV RL 22 yX7_kitten cX7_kitten 3 (some .int) 1 := ⟨kb_X7_kitten, ks_mg 736 (by decide +kernel) rfl, ks_mg 737 (by decide +kernel) rfl, ks_mg 738 (by decide +kernel) rfl⟩
set_option maxRecDepth 100000 in
theorem kc_X7_132 : ks_CV RX7 132 yX7_kittenError cX7_kittenError 2 (some .int) 1 := ⟨kb_X7_kittenError, ks_mg 740 (by decide +kernel) rfl, ks_mg 742 (by decide +kernel) rfl, ks_mg 21 (by decide +kernel) rfl⟩
set_option maxRecDepth 100000 in
theorem kc_X7_135 : ks_CV RX7 135 yX7_comes cX7_comes 4 (some .int) 1 := ⟨kb_X7_comes, ks_mg 744 (by decide +kernel) rfl, ks_mg 746 (by decide +kernel) rfl, ks_mg 22 (by decide +kernel) rfl⟩
set_option maxRecDepth 100000 in
theorem kc_X7_28 : ks_CS RX7 28 yX7_kittenAt cX7_kittenAt 2 (some .int) 2 := ⟨kb_X7_kittenAt, Or.inl (ks_mg 748 (by decide +kernel) rfl), ks_mg 749 (by decide +kernel) rfl⟩
set_option maxRecDepth 100000 in
theorem kc_L_26 : ks_CV RL 26 yX7_leap cX7_leap 4 (some .int) 2 := ⟨kb_X7_leap, ks_mg 751 (by decide +kernel) rfl, ks_mg 752 (by decide +kernel) rfl, ks_mg 753 (by decide +kernel) rfl⟩
set_option maxRecDepth 100000 in
theorem kc_X7_138 : ks_CV RX7 138 yX7_leapError cX7_leapError 3 (some .int) 2 := ⟨kb_X7_leapError, ks_mg 755 (by decide +kernel) rfl, ks_mg 757 (by decide +kernel) rfl, ks_mg 23 (by decide +kernel) rfl⟩
set_option maxRecDepth 100000 in
theorem kc_X7_103 : ks_CV RX7 103 yX7_isKitten cX7_isKitten 2 (some .boolean) 1 := ⟨kb_X7_isKitten, ks_mg 759 (by decide +kernel) rfl, ks_mg 761 (by decide +kernel) rfl, ks_mg 24 (by decide +kernel) rfl⟩
set_option maxRecDepth 100000 in
theorem kc_X7_107 : ks_CS RX7 107 yX7_areSteps cX7_areSteps 1 (some .boolean) 1 := ⟨kb_X7_areSteps, Or.inl (ks_mg 763 (by decide +kernel) rfl), ks_mg 764 (by decide +kernel) rfl⟩
set_option maxRecDepth 100000 in
theorem kc_X7_90 : ks_CV RX7 90 yX7_reason cX7_reason 5 (some .int) 3 := ⟨kb_X7_reason, ks_mg 767 (by decide +kernel) rfl, ks_mg 769 (by decide +kernel) rfl, ks_mg 25 (by decide +kernel) rfl⟩
set_option maxRecDepth 100000 in
theorem kc_X7_64 : ks_CV RX7 64 yX7_naps cX7_naps 3 (some .boolean) 2 := ⟨kb_X7_naps, ks_mg 771 (by decide +kernel) rfl, ks_mg 773 (by decide +kernel) rfl, ks_mg 26 (by decide +kernel) rfl⟩
set_option maxRecDepth 100000 in
theorem kc_X7_74 : ks_CS RX7 74 yX7_cost cX7_cost 1 (some .int) 1 := ⟨kb_X7_cost, Or.inl (ks_mg 775 (by decide +kernel) rfl), ks_mg 776 (by decide +kernel) rfl⟩
set_option maxRecDepth 100000 in
theorem kc_X7_77 : ks_CV RX7 77 yX7_isHeldBack cX7_isHeldBack 10 (some .boolean) 3 := ⟨kb_X7_isHeldBack, ks_mg 778 (by decide +kernel) rfl, ks_mg 780 (by decide +kernel) rfl, ks_mg 27 (by decide +kernel) rfl⟩
set_option maxRecDepth 100000 in
theorem kc_X7_53 : ks_CV RX7 53 yX7_boundTo cX7_boundTo 5 (some .int) 2 := ⟨kb_X7_boundTo, ks_mg 782 (by decide +kernel) rfl, ks_mg 784 (by decide +kernel) rfl, ks_mg 28 (by decide +kernel) rfl⟩
set_option maxRecDepth 100000 in
theorem kc_X7_50 : ks_CV RX7 50 yX7_boundEdges cX7_boundEdges 6 (some .int) 3 := ⟨kb_X7_boundEdges, ks_mg 786 (by decide +kernel) rfl, ks_mg 788 (by decide +kernel) rfl, ks_mg 29 (by decide +kernel) rfl⟩
set_option maxRecDepth 100000 in
theorem kc_X7_46 : ks_CV RX7 46 yX7_areBoundAt cX7_areBoundAt 9 (some .boolean) 4 := ⟨kb_X7_areBoundAt, ks_mg 790 (by decide +kernel) rfl, ks_mg 792 (by decide +kernel) rfl, ks_mg 30 (by decide +kernel) rfl⟩
set_option maxRecDepth 100000 in
theorem kc_X7_32 : ks_CV RX7 32 yX7_ownerAt cX7_ownerAt 5 (some .int) 3 := ⟨kb_X7_ownerAt, ks_mg 794 (by decide +kernel) rfl, ks_mg 796 (by decide +kernel) rfl, ks_mg 31 (by decide +kernel) rfl⟩
set_option maxRecDepth 100000 in
theorem kc_X7_56 : ks_CS RX7 56 yX7_size cX7_size 1 (some .int) 1 := ⟨kb_X7_size, Or.inl (ks_mg 798 (by decide +kernel) rfl), ks_mg 799 (by decide +kernel) rfl⟩
set_option maxRecDepth 100000 in
theorem kc_X7_80 : ks_CV RX7 80 yX7_isTooShort cX7_isTooShort 7 (some .boolean) 3 := ⟨kb_X7_isTooShort, ks_mg 801 (by decide +kernel) rfl, ks_mg 803 (by decide +kernel) rfl, ks_mg 32 (by decide +kernel) rfl⟩
set_option maxRecDepth 100000 in
theorem kc_X7_60 : ks_CV RX7 60 yX7_edgeOf cX7_edgeOf 6 (some .int) 4 := ⟨kb_X7_edgeOf, ks_mg 805 (by decide +kernel) rfl, ks_mg 807 (by decide +kernel) rfl, ks_mg 33 (by decide +kernel) rfl⟩
set_option maxRecDepth 100000 in
theorem kc_X7_39 : ks_CV RX7 39 yX7_windsBack cX7_windsBack 5 (some .boolean) 3 := ⟨kb_X7_windsBack, ks_mg 809 (by decide +kernel) rfl, ks_mg 811 (by decide +kernel) rfl, ks_mg 34 (by decide +kernel) rfl⟩
set_option maxRecDepth 100000 in
theorem kc_X7_36 : ks_CV RX7 36 yX7_top cX7_top 5 (some .int) 2 := ⟨kb_X7_top, ks_mg 813 (by decide +kernel) rfl, ks_mg 815 (by decide +kernel) rfl, ks_mg 35 (by decide +kernel) rfl⟩
set_option maxRecDepth 100000 in
theorem kc_X7_93 : ks_CV RX7 93 yX7_leaps cX7_leaps 7 (some .int) 3 := ⟨kb_X7_leaps, ks_mg 817 (by decide +kernel) rfl, ks_mg 819 (by decide +kernel) rfl, ks_mg 36 (by decide +kernel) rfl⟩
set_option maxRecDepth 100000 in
theorem kc_X7_83 : ks_CV RX7 83 yX7_crosses cX7_crosses 5 none 3 := ⟨kb_X7_crosses, ks_mg 821 (by decide +kernel) rfl, ks_mg 823 (by decide +kernel) rfl, ks_mg 37 (by decide +kernel) rfl⟩
set_option maxRecDepth 100000 in
theorem kc_X7_43 : ks_CV RX7 43 yX7_removesStrand cX7_removesStrand 4 none 2 := ⟨kb_X7_removesStrand, ks_mg 825 (by decide +kernel) rfl, ks_mg 827 (by decide +kernel) rfl, ks_mg 38 (by decide +kernel) rfl⟩
set_option maxRecDepth 100000 in
theorem kc_L_30 : ks_CV RL 30 yX7_nap cX7_nap 3 (some .int) 1 := ⟨kb_X7_nap, ks_mg 829 (by decide +kernel) rfl, ks_mg 830 (by decide +kernel) rfl, ks_mg 831 (by decide +kernel) rfl⟩
set_option maxRecDepth 100000 in
theorem kc_X7_141 : ks_CV RX7 141 yX7_napError cX7_napError 2 (some .int) 1 := ⟨kb_X7_napError, ks_mg 833 (by decide +kernel) rfl, ks_mg 835 (by decide +kernel) rfl, ks_mg 39 (by decide +kernel) rfl⟩
set_option maxRecDepth 100000 in
theorem kc_X7_144 : ks_CV RX7 144 yX7_sleeps cX7_sleeps 2 (some .int) 1 := ⟨kb_X7_sleeps, ks_mg 837 (by decide +kernel) rfl, ks_mg 839 (by decide +kernel) rfl, ks_mg 40 (by decide +kernel) rfl⟩
set_option maxRecDepth 100000 in
theorem kc_L_34 : ks_CV RL 34 yX7_snip cX7_snip 4 (some .int) 2 := ⟨kb_X7_snip, ks_mg 841 (by decide +kernel) rfl, ks_mg 842 (by decide +kernel) rfl, ks_mg 843 (by decide +kernel) rfl⟩
set_option maxRecDepth 100000 in
theorem kc_X7_147 : ks_CV RX7 147 yX7_snipError cX7_snipError 3 (some .int) 2 := ⟨kb_X7_snipError, ks_mg 845 (by decide +kernel) rfl, ks_mg 847 (by decide +kernel) rfl, ks_mg 41 (by decide +kernel) rfl⟩
set_option maxRecDepth 100000 in
theorem kc_X7_110 : ks_CS RX7 110 yX7_isEdge cX7_isEdge 1 (some .boolean) 1 := ⟨kb_X7_isEdge, Or.inl (ks_mg 849 (by decide +kernel) rfl), ks_mg 850 (by decide +kernel) rfl⟩
set_option maxRecDepth 100000 in
theorem kc_X7_113 : ks_CV RX7 113 yX7_strandsAt cX7_strandsAt 5 (some .int) 2 := ⟨kb_X7_strandsAt, ks_mg 853 (by decide +kernel) rfl, ks_mg 855 (by decide +kernel) rfl, ks_mg 42 (by decide +kernel) rfl⟩
set_option maxRecDepth 100000 in
theorem kc_X7_150 : ks_CV RX7 150 yX7_snips cX7_snips 5 (some .int) 2 := ⟨kb_X7_snips, ks_mg 857 (by decide +kernel) rfl, ks_mg 859 (by decide +kernel) rfl, ks_mg 43 (by decide +kernel) rfl⟩
set_option maxRecDepth 100000 in
theorem kc_L_39 : ks_CV RL 39 yX7_plan cX7_plan 5 (some .int) 3 := ⟨kb_X7_plan, ks_mg 861 (by decide +kernel) rfl, ks_mg 862 (by decide +kernel) rfl, ks_mg 863 (by decide +kernel) rfl⟩
set_option maxRecDepth 100000 in
theorem kc_X7_153 : ks_CV RX7 153 yX7_planError cX7_planError 4 (some .int) 3 := ⟨kb_X7_planError, ks_mg 865 (by decide +kernel) rfl, ks_mg 867 (by decide +kernel) rfl, ks_mg 44 (by decide +kernel) rfl⟩
set_option maxRecDepth 100000 in
theorem kc_X7_156 : ks_CV RX7 156 yX7_plans cX7_plans 7 (some .int) 3 := ⟨kb_X7_plans, ks_mg 870 (by decide +kernel) rfl, ks_mg 872 (by decide +kernel) rfl, ks_mg 45 (by decide +kernel) rfl⟩
set_option maxRecDepth 100000 in
theorem kc_X7_87 : ks_CS RX7 87 yX7_planAt cX7_planAt 2 (some .int) 2 := ⟨kb_X7_planAt, Or.inl (ks_mg 874 (by decide +kernel) rfl), ks_mg 875 (by decide +kernel) rfl⟩
set_option maxRecDepth 100000 in
theorem kc_L_43 : ks_CV RL 43 yX7_pass cX7_pass 3 (some .int) 1 := ⟨kb_X7_pass, ks_mg 877 (by decide +kernel) rfl, ks_mg 878 (by decide +kernel) rfl, ks_mg 879 (by decide +kernel) rfl⟩
set_option maxRecDepth 100000 in
theorem kc_X7_159 : ks_CV RX7 159 yX7_passError cX7_passError 2 (some .int) 1 := ⟨kb_X7_passError, ks_mg 881 (by decide +kernel) rfl, ks_mg 883 (by decide +kernel) rfl, ks_mg 46 (by decide +kernel) rfl⟩
set_option maxRecDepth 100000 in
theorem kc_X7_162 : ks_CV RX7 162 yX7_turns cX7_turns 5 (some .int) 2 := ⟨kb_X7_turns, ks_mg 885 (by decide +kernel) rfl, ks_mg 887 (by decide +kernel) rfl, ks_mg 47 (by decide +kernel) rfl⟩
set_option maxRecDepth 100000 in
theorem kc_X7_96 : ks_CV RX7 96 yX7_turn cX7_turn 8 (some .int) 1 := ⟨kb_X7_turn, ks_mg 889 (by decide +kernel) rfl, ks_mg 891 (by decide +kernel) rfl, ks_mg 48 (by decide +kernel) rfl⟩
set_option maxRecDepth 100000 in
theorem kc_L_47 : ks_CV RL 47 yX7_of cX7_of 4 (some .int) 2 := ⟨kb_X7_of, ks_mg 893 (by decide +kernel) rfl, ks_mg 894 (by decide +kernel) rfl, ks_mg 895 (by decide +kernel) rfl⟩
set_option maxRecDepth 100000 in
theorem kc_X7_165 : ks_CV RX7 165 yX7_strandsOf cX7_strandsOf 4 (some .int) 1 := ⟨kb_X7_strandsOf, ks_mg 897 (by decide +kernel) rfl, ks_mg 899 (by decide +kernel) rfl, ks_mg 49 (by decide +kernel) rfl⟩
set_option maxRecDepth 100000 in
theorem kc_X7_168 : ks_CV RX7 168 yX7_stepsOf cX7_stepsOf 4 (some .int) 1 := ⟨kb_X7_stepsOf, ks_mg 901 (by decide +kernel) rfl, ks_mg 903 (by decide +kernel) rfl, ks_mg 50 (by decide +kernel) rfl⟩
set_option maxRecDepth 100000 in
theorem kc_L_51 : ks_CV RL 51 yX7_ofEdge cX7_ofEdge 3 (some .int) 2 := ⟨kb_X7_ofEdge, ks_mg 905 (by decide +kernel) rfl, ks_mg 906 (by decide +kernel) rfl, ks_mg 907 (by decide +kernel) rfl⟩
set_option maxRecDepth 100000 in
theorem kc_X7_171 : ks_CV RX7 171 yX7_thickness cX7_thickness 4 (some .int) 1 := ⟨kb_X7_thickness, ks_mg 909 (by decide +kernel) rfl, ks_mg 911 (by decide +kernel) rfl, ks_mg 51 (by decide +kernel) rfl⟩
set_option maxRecDepth 100000 in
theorem kc_X7_174 : ks_CV RX7 174 yX7_kittensAt cX7_kittensAt 4 (some .int) 1 := ⟨kb_X7_kittensAt, ks_mg 913 (by decide +kernel) rfl, ks_mg 915 (by decide +kernel) rfl, ks_mg 52 (by decide +kernel) rfl⟩
set_option maxRecDepth 100000 in
theorem kc_X7_177 : ks_CV RX7 177 yX7_pairsAt cX7_pairsAt 4 (some .int) 1 := ⟨kb_X7_pairsAt, ks_mg 917 (by decide +kernel) rfl, ks_mg 919 (by decide +kernel) rfl, ks_mg 53 (by decide +kernel) rfl⟩
set_option maxRecDepth 100000 in
theorem kc_L_55 : ks_CV RL 55 yX7_strand cX7_strand 5 (some .int) 2 := ⟨kb_X7_strand, ks_mg 921 (by decide +kernel) rfl, ks_mg 922 (by decide +kernel) rfl, ks_mg 923 (by decide +kernel) rfl⟩
set_option maxRecDepth 100000 in
theorem kc_L_59 : ks_CV RL 59 yX7_bound cX7_bound 3 (some .int) 2 := ⟨kb_X7_bound, ks_mg 925 (by decide +kernel) rfl, ks_mg 926 (by decide +kernel) rfl, ks_mg 927 (by decide +kernel) rfl⟩
set_option maxRecDepth 100000 in
theorem kc_L_63 : ks_CV RL 63 yX7_planned cX7_planned 3 (some .int) 2 := ⟨kb_X7_planned, ks_mg 929 (by decide +kernel) rfl, ks_mg 930 (by decide +kernel) rfl, ks_mg 931 (by decide +kernel) rfl⟩
set_option maxRecDepth 100000 in
theorem kc_L_67 : ks_CV RL 67 yX7_count cX7_count 2 (some .int) 1 := ⟨kb_X7_count, ks_mg 933 (by decide +kernel) rfl, ks_mg 934 (by decide +kernel) rfl, ks_mg 935 (by decide +kernel) rfl⟩
set_option maxRecDepth 100000 in
theorem kc_X7_183 : ks_CV RX7 183 yX7_napping cX7_napping 3 (some .int) 0 := ⟨kb_X7_napping, ks_mg 937 (by decide +kernel) rfl, ks_mg 939 (by decide +kernel) rfl, ks_mg 54 (by decide +kernel) rfl⟩
set_option maxRecDepth 100000 in
theorem kc_X7_187 : ks_CV RX7 187 yX7_all cX7_all 4 (some .int) 1 := ⟨kb_X7_all, ks_mg 941 (by decide +kernel) rfl, ks_mg 943 (by decide +kernel) rfl, ks_mg 55 (by decide +kernel) rfl⟩
set_option maxRecDepth 100000 in
theorem kc_X7_190 : ks_CV RX7 190 yX7_pairs cX7_pairs 3 (some .int) 0 := ⟨kb_X7_pairs, ks_mg 945 (by decide +kernel) rfl, ks_mg 947 (by decide +kernel) rfl, ks_mg 56 (by decide +kernel) rfl⟩
set_option maxRecDepth 100000 in
theorem kc_X7_180 : ks_CS RX7 180 yX7_ones cX7_ones 3 (some .int) 1 := ⟨kb_X7_ones, Or.inl (ks_mg 949 (by decide +kernel) rfl), ks_mg 950 (by decide +kernel) rfl⟩
set_option maxRecDepth 100000 in
theorem kc_L_71 : ks_CV RL 71 yX7_why cX7_why 3 (some .int) 2 := ⟨kb_X7_why, ks_mg 952 (by decide +kernel) rfl, ks_mg 953 (by decide +kernel) rfl, ks_mg 954 (by decide +kernel) rfl⟩
set_option maxRecDepth 100000 in
theorem kc_L_75 : ks_CV RL 75 yX7_ifLeapt cX7_ifLeapt 9 (some .int) 3 := ⟨kb_X7_ifLeapt, ks_mg 956 (by decide +kernel) rfl, ks_mg 957 (by decide +kernel) rfl, ks_mg 958 (by decide +kernel) rfl⟩
set_option maxRecDepth 100000 in
theorem kc_L_79 : ks_CV RL 79 yX7_frees cX7_frees 7 (some .int) 2 := ⟨kb_X7_frees, ks_mg 961 (by decide +kernel) rfl, ks_mg 962 (by decide +kernel) rfl, ks_mg 963 (by decide +kernel) rfl⟩
set_option maxRecDepth 100000 in
theorem kc_X7_198 : ks_CV RX7 198 yX7_sorting cX7_sorting 8 (some .int) 3 := ⟨kb_X7_sorting, ks_mg 965 (by decide +kernel) rfl, ks_mg 967 (by decide +kernel) rfl, ks_mg 57 (by decide +kernel) rfl⟩
set_option maxRecDepth 100000 in
theorem kc_L_84 : ks_CV RL 84 yX7_quietIn cX7_quietIn 3 (some .int) 0 := ⟨kb_X7_quietIn, ks_mg 969 (by decide +kernel) rfl, ks_mg 970 (by decide +kernel) rfl, ks_mg 971 (by decide +kernel) rfl⟩
set_option maxRecDepth 100000 in
theorem kc_L_88 : ks_CV RL 88 yX7_stepIn cX7_stepIn 4 (some .int) 2 := ⟨kb_X7_stepIn, ks_mg 973 (by decide +kernel) rfl, ks_mg 974 (by decide +kernel) rfl, ks_mg 975 (by decide +kernel) rfl⟩
set_option maxRecDepth 100000 in
theorem kc_L_92 : ks_CV RL 92 yX7_thickest cX7_thickest 5 (some .int) 0 := ⟨kb_X7_thickest, ks_mg 977 (by decide +kernel) rfl, ks_mg 978 (by decide +kernel) rfl, ks_mg 979 (by decide +kernel) rfl⟩
set_option maxRecDepth 100000 in
theorem kc_L_99 : ks_CV RL 99 yX7_put cX7_put 5 (some .int) 1 := ⟨kb_X7_put, ks_mg 981 (by decide +kernel) rfl, ks_mg 982 (by decide +kernel) rfl, ks_mg 983 (by decide +kernel) rfl⟩
set_option maxRecDepth 100000 in
theorem kc_X7_207 : ks_CS RX7 207 yX7_charactersOf cX7_charactersOf 5 (some .int) 1 := ⟨kb_X7_charactersOf, Or.inl (ks_mg 985 (by decide +kernel) rfl), ks_mg 986 (by decide +kernel) rfl⟩
set_option maxRecDepth 100000 in
theorem kc_L_103 : ks_CV RL 103 yX7_wipe cX7_wipe 2 (some .int) 0 := ⟨kb_X7_wipe, ks_mg 991 (by decide +kernel) rfl, ks_mg 992 (by decide +kernel) rfl, ks_mg 993 (by decide +kernel) rfl⟩
set_option maxRecDepth 100000 in
theorem kc_L_107 : ks_CV RL 107 yX7_fault cX7_fault 2 (some .int) 0 := ⟨kb_X7_fault, ks_mg 995 (by decide +kernel) rfl, ks_mg 996 (by decide +kernel) rfl, ks_mg 997 (by decide +kernel) rfl⟩
set_option maxRecDepth 100000 in
theorem kc_X7_249 : ks_CV RX7 249 yX7_readsOrder cX7_readsOrder 1 (some .boolean) 0 := ⟨kb_X7_readsOrder, ks_mg 999 (by decide +kernel) rfl, ks_mg 1001 (by decide +kernel) rfl, ks_mg 58 (by decide +kernel) rfl⟩
set_option maxRecDepth 100000 in
theorem kc_X7_239 : ks_CV RX7 239 yX7_readsNumber cX7_readsNumber 1 (some .boolean) 0 := ⟨kb_X7_readsNumber, ks_mg 1003 (by decide +kernel) rfl, ks_mg 1005 (by decide +kernel) rfl, ks_mg 59 (by decide +kernel) rfl⟩
set_option maxRecDepth 100000 in
theorem kc_X7_223 : ks_CV RX7 223 yX7_number cX7_number 2 (some .int) 0 := ⟨kb_X7_number, ks_mg 1007 (by decide +kernel) rfl, ks_mg 1009 (by decide +kernel) rfl, ks_mg 60 (by decide +kernel) rfl⟩
set_option maxRecDepth 100000 in
theorem kc_X7_217 : ks_CV RX7 217 yX7_digit cX7_digit 2 (some .int) 0 := ⟨kb_X7_digit, ks_mg 1011 (by decide +kernel) rfl, ks_mg 1013 (by decide +kernel) rfl, ks_mg 61 (by decide +kernel) rfl⟩
set_option maxRecDepth 100000 in
theorem kc_X7_214 : ks_CV RX7 214 yX7_isHere cX7_isHere 3 (some .boolean) 2 := ⟨kb_X7_isHere, ks_mg 1015 (by decide +kernel) rfl, ks_mg 1017 (by decide +kernel) rfl, ks_mg 62 (by decide +kernel) rfl⟩
set_option maxRecDepth 100000 in
theorem kc_X7_243 : ks_CV RX7 243 yX7_readsKitten cX7_readsKitten 1 (some .boolean) 0 := ⟨kb_X7_readsKitten, ks_mg 1019 (by decide +kernel) rfl, ks_mg 1021 (by decide +kernel) rfl, ks_mg 63 (by decide +kernel) rfl⟩
set_option maxRecDepth 100000 in
theorem kc_X7_246 : ks_CV RX7 246 yX7_readsBy cX7_readsBy 3 (some .boolean) 0 := ⟨kb_X7_readsBy, ks_mg 1023 (by decide +kernel) rfl, ks_mg 1025 (by decide +kernel) rfl, ks_mg 64 (by decide +kernel) rfl⟩
set_option maxRecDepth 100000 in
theorem kc_X7_220 : ks_CV RX7 220 yX7_takes cX7_takes 3 (some .boolean) 1 := ⟨kb_X7_takes, ks_mg 1027 (by decide +kernel) rfl, ks_mg 1029 (by decide +kernel) rfl, ks_mg 65 (by decide +kernel) rfl⟩
set_option maxRecDepth 100000 in
theorem kc_L_111 : ks_CV RL 111 yX7_carryOut cX7_carryOut 5 (some .int) 0 := ⟨kb_X7_carryOut, ks_mg 1031 (by decide +kernel) rfl, ks_mg 1032 (by decide +kernel) rfl, ks_mg 1033 (by decide +kernel) rfl⟩
set_option maxRecDepth 100000 in
theorem kc_X7_252 : ks_CV RX7 252 yX7_fault cX7_fault 2 (some .int) 0 := ⟨kb_X7_fault, ks_mg 1035 (by decide +kernel) rfl, ks_mg 996 (by decide +kernel) rfl, ks_mg 997 (by decide +kernel) rfl⟩
set_option maxRecDepth 100000 in
theorem kc_X7_255 : ks_CV RX7 255 yX7_orderError cX7_orderError 1 (some .int) 0 := ⟨kb_X7_orderError, ks_mg 1036 (by decide +kernel) rfl, ks_mg 1038 (by decide +kernel) rfl, ks_mg 66 (by decide +kernel) rfl⟩
set_option maxRecDepth 100000 in
theorem kc_X7_258 : ks_CV RX7 258 yX7_does cX7_does 1 (some .int) 0 := ⟨kb_X7_does, ks_mg 1040 (by decide +kernel) rfl, ks_mg 1042 (by decide +kernel) rfl, ks_mg 67 (by decide +kernel) rfl⟩
set_option maxRecDepth 100000 in
theorem kc_L_115 : ks_CV RL 115 yX7_undo cX7_undo 1 (some .int) 0 := ⟨kb_X7_undo, ks_mg 1044 (by decide +kernel) rfl, ks_mg 1045 (by decide +kernel) rfl, ks_mg 1046 (by decide +kernel) rfl⟩
set_option maxRecDepth 100000 in
theorem kc_L_119 : ks_CV RL 119 yX7_save cX7_save 2 (some .int) 1 := ⟨kb_X7_save, ks_mg 1048 (by decide +kernel) rfl, ks_mg 1049 (by decide +kernel) rfl, ks_mg 1050 (by decide +kernel) rfl⟩
set_option maxRecDepth 100000 in
theorem kc_X7_261 : ks_CS RX7 261 yX7_isSlot cX7_isSlot 1 (some .boolean) 1 := ⟨kb_X7_isSlot, Or.inl (ks_mg 1052 (by decide +kernel) rfl), ks_mg 1053 (by decide +kernel) rfl⟩
set_option maxRecDepth 100000 in
theorem kc_L_123 : ks_CV RL 123 yX7_restore cX7_restore 2 (some .int) 1 := ⟨kb_X7_restore, ks_mg 1055 (by decide +kernel) rfl, ks_mg 1056 (by decide +kernel) rfl, ks_mg 1057 (by decide +kernel) rfl⟩
set_option maxRecDepth 100000 in
theorem kw_L_7 : Cond.classLink RL 7 RX6 ∈ lw_g := ks_mg 79 (by decide +kernel) rfl
set_option maxRecDepth 100000 in
theorem kn_L_7 : ks_New RL 7 6 [.null, .null, .null, .null, .null, .null] := ⟨RX6, TX6, 6, tyX6, kcl_6, kw_L_7, ks_mg 80 (by decide +kernel) rfl, ks_mg 69 (by decide +kernel) rfl, (by decide +kernel : ∀ j, j < 6 → defaultValue (tyX6 j) = vp_V [.null, .null, .null, .null, .null, .null] j), rfl⟩
set_option maxRecDepth 100000 in
theorem kw_X6_9 : Cond.classLink RX6 9 RX4 ∈ lw_g := ks_mg 87 (by decide +kernel) rfl
set_option maxRecDepth 100000 in
theorem kn_X6_9 : ks_New RX6 9 4 [.null, .int 0, .int 0, .int 0, .int 0, .null, .null, .null, .null, .null, .null, .null, .null, .null] := ⟨RX4, TX4, 14, tyX4, kcl_4, kw_X6_9, ks_mg 88 (by decide +kernel) rfl, ks_mg 70 (by decide +kernel) rfl, (by decide +kernel : ∀ j, j < 14 → defaultValue (tyX4 j) = vp_V [.null, .int 0, .int 0, .int 0, .int 0, .null, .null, .null, .null, .null, .null, .null, .null, .null] j), rfl⟩
set_option maxRecDepth 100000 in
theorem kw_X4_49 : Cond.classLink RX4 49 RX5 ∈ lw_g := ks_mg 93 (by decide +kernel) rfl
set_option maxRecDepth 100000 in
theorem kn_X4_49 : ks_New RX4 49 5 [.null, .null, .int 0] := ⟨RX5, TX5, 3, tyX5, kcl_5, kw_X4_49, ks_mg 94 (by decide +kernel) rfl, ks_mg 71 (by decide +kernel) rfl, (by decide +kernel : ∀ j, j < 3 → defaultValue (tyX5 j) = vp_V [.null, .null, .int 0] j), rfl⟩
set_option maxRecDepth 100000 in
theorem kw_X4_56 : Cond.classLink RX4 56 RX3 ∈ lw_g := ks_mg 111 (by decide +kernel) rfl
set_option maxRecDepth 100000 in
theorem kn_X4_56 : ks_New RX4 56 3 [.null, .null, .null, .int 0] := ⟨RX3, TX3, 4, tyX3, kcl_3, kw_X4_56, ks_mg 112 (by decide +kernel) rfl, ks_mg 72 (by decide +kernel) rfl, (by decide +kernel : ∀ j, j < 4 → defaultValue (tyX3 j) = vp_V [.null, .null, .null, .int 0] j), rfl⟩
set_option maxRecDepth 100000 in
theorem kw_X6_19 : Cond.classLink RX6 19 RX0 ∈ lw_g := ks_mg 199 (by decide +kernel) rfl
set_option maxRecDepth 100000 in
theorem kn_X6_19 : ks_New RX6 19 0 [.null, .int 0, .int 0] := ⟨RX0, TX0, 3, tyX0, kcl_0, kw_X6_19, ks_mg 200 (by decide +kernel) rfl, ks_mg 74 (by decide +kernel) rfl, (by decide +kernel : ∀ j, j < 3 → defaultValue (tyX0 j) = vp_V [.null, .int 0, .int 0] j), rfl⟩
set_option maxRecDepth 100000 in
theorem kw_X0_11 : Cond.classLink RX0 11 RX4 ∈ lw_g := ks_mg 205 (by decide +kernel) rfl
set_option maxRecDepth 100000 in
theorem kn_X0_11 : ks_New RX0 11 4 [.null, .int 0, .int 0, .int 0, .int 0, .null, .null, .null, .null, .null, .null, .null, .null, .null] := ⟨RX4, TX4, 14, tyX4, kcl_4, kw_X0_11, ks_mg 88 (by decide +kernel) rfl, ks_mg 70 (by decide +kernel) rfl, (by decide +kernel : ∀ j, j < 14 → defaultValue (tyX4 j) = vp_V [.null, .int 0, .int 0, .int 0, .int 0, .null, .null, .null, .null, .null, .null, .null, .null, .null] j), rfl⟩
set_option maxRecDepth 100000 in
theorem kw_X6_30 : Cond.classLink RX6 30 RX2 ∈ lw_g := ks_mg 218 (by decide +kernel) rfl
set_option maxRecDepth 100000 in
theorem kn_X6_30 : ks_New RX6 30 2 [.null, .int 0] := ⟨RX2, TX2, 2, tyX2, kcl_2, kw_X6_30, ks_mg 219 (by decide +kernel) rfl, ks_mg 75 (by decide +kernel) rfl, (by decide +kernel : ∀ j, j < 2 → defaultValue (tyX2 j) = vp_V [.null, .int 0] j), rfl⟩
set_option maxRecDepth 100000 in
theorem kw_X6_37 : Cond.classLink RX6 37 RX1 ∈ lw_g := ks_mg 233 (by decide +kernel) rfl
set_option maxRecDepth 100000 in
theorem kn_X6_37 : ks_New RX6 37 1 [.null, .null, .int 0, .int 0] := ⟨RX1, TX1, 4, tyX1, kcl_1, kw_X6_37, ks_mg 234 (by decide +kernel) rfl, ks_mg 76 (by decide +kernel) rfl, (by decide +kernel : ∀ j, j < 4 → defaultValue (tyX1 j) = vp_V [.null, .null, .int 0, .int 0] j), rfl⟩
set_option maxRecDepth 100000 in
theorem kw_L_10 : Cond.classLink RL 10 RX7 ∈ lw_g := ks_mg 675 (by decide +kernel) rfl
set_option maxRecDepth 100000 in
theorem kn_L_10 : ks_New RL 10 7 [.null, .int 0, .null, .null, .int 0, .int 0, .int 0, .int 0, .int 0, .int 0] := ⟨RX7, TX7, 10, tyX7, kcl_7, kw_L_10, ks_mg 676 (by decide +kernel) rfl, ks_mg 77 (by decide +kernel) rfl, (by decide +kernel : ∀ j, j < 10 → defaultValue (tyX7 j) = vp_V [.null, .int 0, .null, .null, .int 0, .int 0, .int 0, .int 0, .int 0, .int 0] j), rfl⟩
set_option maxRecDepth 100000 in
theorem kj_X6_3 : Cond.methodLink RX6 3 Lib.objectInit ∈ lw_g := ks_mg 84 (by decide +kernel) rfl
set_option maxRecDepth 100000 in
theorem kj_X4_3 : Cond.methodLink RX4 3 Lib.objectInit ∈ lw_g := ks_mg 92 (by decide +kernel) rfl
set_option maxRecDepth 100000 in
theorem kj_X5_3 : Cond.methodLink RX5 3 Lib.objectInit ∈ lw_g := ks_mg 98 (by decide +kernel) rfl
set_option maxRecDepth 100000 in
theorem kj_X3_3 : Cond.methodLink RX3 3 Lib.objectInit ∈ lw_g := ks_mg 116 (by decide +kernel) rfl
set_option maxRecDepth 100000 in
theorem kj_X4_66 : Cond.methodLink RX4 66 arraycopyName ∈ lw_g := ks_mg 139 (by decide +kernel) rfl
set_option maxRecDepth 100000 in
theorem kj_X0_3 : Cond.methodLink RX0 3 Lib.objectInit ∈ lw_g := ks_mg 204 (by decide +kernel) rfl
set_option maxRecDepth 100000 in
theorem kj_X2_3 : Cond.methodLink RX2 3 Lib.objectInit ∈ lw_g := ks_mg 223 (by decide +kernel) rfl
set_option maxRecDepth 100000 in
theorem kj_X1_3 : Cond.methodLink RX1 3 Lib.objectInit ∈ lw_g := ks_mg 238 (by decide +kernel) rfl
set_option maxRecDepth 100000 in
theorem kj_X5_22 : Cond.methodLink RX5 22 arraycopyName ∈ lw_g := ks_mg 291 (by decide +kernel) rfl
set_option maxRecDepth 100000 in
theorem kj_X3_25 : Cond.methodLink RX3 25 arraycopyName ∈ lw_g := ks_mg 296 (by decide +kernel) rfl
set_option maxRecDepth 100000 in
theorem kj_X4_148 : Cond.methodLink RX4 148 Lib.Math.abs.name ∈ lw_g := ks_mg 351 (by decide +kernel) rfl
set_option maxRecDepth 100000 in
theorem kj_X5_32 : Cond.methodLink RX5 32 Lib.Math.max.name ∈ lw_g := ks_mg 544 (by decide +kernel) rfl
set_option maxRecDepth 100000 in
theorem kj_X4_173 : Cond.methodLink RX4 173 Lib.Math.max.name ∈ lw_g := ks_mg 555 (by decide +kernel) rfl
set_option maxRecDepth 100000 in
theorem kj_X6_207 : Cond.methodLink RX6 207 Lib.Math.max.name ∈ lw_g := ks_mg 560 (by decide +kernel) rfl
set_option maxRecDepth 100000 in
theorem kl_X2_23 : Cond.constantLong RX2 23 (255) ∈ lw_g := ks_mg 581 (by decide +kernel) rfl
set_option maxRecDepth 100000 in
theorem kl_X2_25 : Cond.constantLong RX2 25 (33) ∈ lw_g := ks_mg 582 (by decide +kernel) rfl
set_option maxRecDepth 100000 in
theorem kl_X2_27 : Cond.constantLong RX2 27 (126) ∈ lw_g := ks_mg 583 (by decide +kernel) rfl
set_option maxRecDepth 100000 in
theorem kj_X7_1 : Cond.methodLink RX7 1 Lib.objectInit ∈ lw_g := ks_mg 680 (by decide +kernel) rfl
set_option maxRecDepth 100000 in
theorem kl_X7_118 : Cond.constantLong RX7 118 (8) ∈ lw_g := ks_mg 720 (by decide +kernel) rfl
set_option maxRecDepth 100000 in
theorem kl_X7_68 : Cond.constantLong RX7 68 (15) ∈ lw_g := ks_mg 724 (by decide +kernel) rfl
set_option maxRecDepth 100000 in
theorem kl_X7_120 : Cond.constantLong RX7 120 (30) ∈ lw_g := ks_mg 725 (by decide +kernel) rfl
set_option maxRecDepth 100000 in
theorem kl_X7_122 : Cond.constantLong RX7 122 (2) ∈ lw_g := ks_mg 726 (by decide +kernel) rfl
set_option maxRecDepth 100000 in
theorem kl_X7_124 : Cond.constantLong RX7 124 (60) ∈ lw_g := ks_mg 727 (by decide +kernel) rfl
set_option maxRecDepth 100000 in
theorem kl_X7_101 : Cond.constantLong RX7 101 (-15) ∈ lw_g := ks_mg 766 (by decide +kernel) rfl
set_option maxRecDepth 100000 in
theorem kl_X7_99 : Cond.constantLong RX7 99 (14) ∈ lw_g := ks_mg 852 (by decide +kernel) rfl
set_option maxRecDepth 100000 in
theorem kl_X7_116 : Cond.constantLong RX7 116 (99) ∈ lw_g := ks_mg 869 (by decide +kernel) rfl
set_option maxRecDepth 100000 in
theorem kl_X7_196 : Cond.constantLong RX7 196 (3) ∈ lw_g := ks_mg 960 (by decide +kernel) rfl
set_option maxRecDepth 100000 in
theorem kl_X7_201 : Cond.constantLong RX7 201 (255) ∈ lw_g := ks_mg 988 (by decide +kernel) rfl
set_option maxRecDepth 100000 in
theorem kl_X7_203 : Cond.constantLong RX7 203 (33) ∈ lw_g := ks_mg 989 (by decide +kernel) rfl
set_option maxRecDepth 100000 in
theorem kl_X7_205 : Cond.constantLong RX7 205 (126) ∈ lw_g := ks_mg 990 (by decide +kernel) rfl
set_option maxRecDepth 100000 in
theorem kl_L_93 : Cond.constantLong RL 93 (4294967295) ∈ lw_g := ks_mg 1059 (by decide +kernel) rfl
set_option maxRecDepth 100000 in
theorem ku_oi : Cond.instanceMethod Lib.objectInit ∈ lw_g := ks_mg 85 (by decide +kernel) rfl
set_option maxRecDepth 100000 in
theorem ku_oc : Cond.code Lib.objectInit ⟨#[0xb1]⟩ 1 none ∈ lw_g := ks_mg 86 (by decide +kernel) rfl
set_option maxRecDepth 100000 in
theorem ku_ai : Cond.arrayClass .int ∈ lw_g := ks_mg 110 (by decide +kernel) rfl
set_option maxRecDepth 100000 in
theorem ku_az : Cond.arrayClass .boolean ∈ lw_g := ks_mg 712 (by decide +kernel) rfl
set_option maxRecDepth 100000 in
theorem ku_cn : Cond.native arraycopyName ∈ lw_g := ks_mg 141 (by decide +kernel) rfl
set_option maxRecDepth 100000 in
theorem ku_cs : Cond.static arraycopyName ∈ lw_g := ks_mg 140 (by decide +kernel) rfl
set_option maxRecDepth 100000 in
theorem ku_ci : Cond.initialized "java/lang/System" ∈ lw_g := ks_mg 73 (by decide +kernel) rfl
set_option maxRecDepth 100000 in
theorem ku_mi : Cond.initialized "java/lang/Math" ∈ lw_g := ks_mg 78 (by decide +kernel) rfl
set_option maxRecDepth 100000 in
theorem ku_maxs : Cond.static Lib.Math.max.name ∈ lw_g := ks_mg 545 (by decide +kernel) rfl
set_option maxRecDepth 100000 in
theorem ku_maxc : Cond.code Lib.Math.max.name Lib.Math.max.code 2 (some .int) ∈ lw_g := ks_mg 546 (by decide +kernel) rfl
set_option maxRecDepth 100000 in
theorem ku_abss : Cond.static Lib.Math.abs.name ∈ lw_g := ks_mg 352 (by decide +kernel) rfl
set_option maxRecDepth 100000 in
theorem ku_absc : Cond.code Lib.Math.abs.name Lib.Math.abs.code 1 (some .int) ∈ lw_g := ks_mg 353 (by decide +kernel) rfl
end
section
theorem dX0_init_0 : decode cX0_init 0 = .ok (.aload_n 0, 1) := by decide +kernel
theorem dX0_init_1 : decode cX0_init 1 = .ok (.invokespecial 3, 3) := by decide +kernel
theorem dX0_init_4 : decode cX0_init 4 = .ok (.aload_n 0, 1) := by decide +kernel
theorem dX0_init_5 : decode cX0_init 5 = .ok (.bipush 7, 2) := by decide +kernel
theorem dX0_init_7 : decode cX0_init 7 = .ok (.anewarray 11, 3) := by decide +kernel
theorem dX0_init_10 : decode cX0_init 10 = .ok (.putfield 13, 3) := by decide +kernel
theorem dX0_init_13 : decode cX0_init 13 = .ok (.aload_n 0, 1) := by decide +kernel
theorem dX0_init_14 : decode cX0_init 14 = .ok (.iconst 0, 1) := by decide +kernel
theorem dX0_init_15 : decode cX0_init 15 = .ok (.putfield 17, 3) := by decide +kernel
theorem dX0_init_18 : decode cX0_init 18 = .ok (.aload_n 0, 1) := by decide +kernel
theorem dX0_init_19 : decode cX0_init 19 = .ok (.iconst 0, 1) := by decide +kernel
theorem dX0_init_20 : decode cX0_init 20 = .ok (.putfield 21, 3) := by decide +kernel
theorem dX0_init_23 : decode cX0_init 23 = .ok (.return_, 1) := by decide +kernel
theorem dX0_draft_0 : decode cX0_draft 0 = .ok (.aload_n 0, 1) := by decide +kernel
theorem dX0_draft_1 : decode cX0_draft 1 = .ok (.getfield 13, 3) := by decide +kernel
theorem dX0_draft_4 : decode cX0_draft 4 = .ok (.aload_n 0, 1) := by decide +kernel
theorem dX0_draft_5 : decode cX0_draft 5 = .ok (.getfield 17, 3) := by decide +kernel
theorem dX0_draft_8 : decode cX0_draft 8 = .ok (.invokestatic 24, 3) := by decide +kernel
theorem dX0_draft_11 : decode cX0_draft 11 = .ok (.aload_n 1, 1) := by decide +kernel
theorem dX0_draft_12 : decode cX0_draft 12 = .ok (.invokevirtual 28, 3) := by decide +kernel
theorem dX0_draft_15 : decode cX0_draft 15 = .ok (.return_, 1) := by decide +kernel
theorem dX0_keepDraft_0 : decode cX0_keepDraft 0 = .ok (.aload_n 0, 1) := by decide +kernel
theorem dX0_keepDraft_1 : decode cX0_keepDraft 1 = .ok (.aload_n 0, 1) := by decide +kernel
theorem dX0_keepDraft_2 : decode cX0_keepDraft 2 = .ok (.getfield 17, 3) := by decide +kernel
theorem dX0_keepDraft_5 : decode cX0_keepDraft 5 = .ok (.iconst 1, 1) := by decide +kernel
theorem dX0_keepDraft_6 : decode cX0_keepDraft 6 = .ok (.iadd, 1) := by decide +kernel
theorem dX0_keepDraft_7 : decode cX0_keepDraft 7 = .ok (.bipush 7, 2) := by decide +kernel
theorem dX0_keepDraft_9 : decode cX0_keepDraft 9 = .ok (.irem, 1) := by decide +kernel
theorem dX0_keepDraft_10 : decode cX0_keepDraft 10 = .ok (.putfield 17, 3) := by decide +kernel
theorem dX0_keepDraft_13 : decode cX0_keepDraft 13 = .ok (.aload_n 0, 1) := by decide +kernel
theorem dX0_keepDraft_14 : decode cX0_keepDraft 14 = .ok (.getfield 21, 3) := by decide +kernel
theorem dX0_keepDraft_17 : decode cX0_keepDraft 17 = .ok (.bipush 6, 2) := by decide +kernel
theorem dX0_keepDraft_19 : decode cX0_keepDraft 19 = .ok (.if_icmp .ge 13, 3) := by decide +kernel
theorem dX0_keepDraft_22 : decode cX0_keepDraft 22 = .ok (.aload_n 0, 1) := by decide +kernel
theorem dX0_keepDraft_23 : decode cX0_keepDraft 23 = .ok (.dup, 1) := by decide +kernel
theorem dX0_keepDraft_24 : decode cX0_keepDraft 24 = .ok (.getfield 21, 3) := by decide +kernel
theorem dX0_keepDraft_27 : decode cX0_keepDraft 27 = .ok (.iconst 1, 1) := by decide +kernel
theorem dX0_keepDraft_28 : decode cX0_keepDraft 28 = .ok (.iadd, 1) := by decide +kernel
theorem dX0_keepDraft_29 : decode cX0_keepDraft 29 = .ok (.putfield 21, 3) := by decide +kernel
theorem dX0_keepDraft_32 : decode cX0_keepDraft 32 = .ok (.return_, 1) := by decide +kernel
theorem dX0_takeBack_0 : decode cX0_takeBack 0 = .ok (.aload_n 0, 1) := by decide +kernel
theorem dX0_takeBack_1 : decode cX0_takeBack 1 = .ok (.getfield 21, 3) := by decide +kernel
theorem dX0_takeBack_4 : decode cX0_takeBack 4 = .ok (.ifCond .ne 4, 3) := by decide +kernel
theorem dX0_takeBack_7 : decode cX0_takeBack 7 = .ok (.return_, 1) := by decide +kernel
theorem dX0_takeBack_8 : decode cX0_takeBack 8 = .ok (.aload_n 0, 1) := by decide +kernel
theorem dX0_takeBack_9 : decode cX0_takeBack 9 = .ok (.aload_n 0, 1) := by decide +kernel
theorem dX0_takeBack_10 : decode cX0_takeBack 10 = .ok (.getfield 17, 3) := by decide +kernel
theorem dX0_takeBack_13 : decode cX0_takeBack 13 = .ok (.bipush 7, 2) := by decide +kernel
theorem dX0_takeBack_15 : decode cX0_takeBack 15 = .ok (.iadd, 1) := by decide +kernel
theorem dX0_takeBack_16 : decode cX0_takeBack 16 = .ok (.iconst 1, 1) := by decide +kernel
theorem dX0_takeBack_17 : decode cX0_takeBack 17 = .ok (.isub, 1) := by decide +kernel
theorem dX0_takeBack_18 : decode cX0_takeBack 18 = .ok (.bipush 7, 2) := by decide +kernel
theorem dX0_takeBack_20 : decode cX0_takeBack 20 = .ok (.irem, 1) := by decide +kernel
theorem dX0_takeBack_21 : decode cX0_takeBack 21 = .ok (.putfield 17, 3) := by decide +kernel
theorem dX0_takeBack_24 : decode cX0_takeBack 24 = .ok (.aload_n 0, 1) := by decide +kernel
theorem dX0_takeBack_25 : decode cX0_takeBack 25 = .ok (.dup, 1) := by decide +kernel
theorem dX0_takeBack_26 : decode cX0_takeBack 26 = .ok (.getfield 21, 3) := by decide +kernel
theorem dX0_takeBack_29 : decode cX0_takeBack 29 = .ok (.iconst 1, 1) := by decide +kernel
theorem dX0_takeBack_30 : decode cX0_takeBack 30 = .ok (.isub, 1) := by decide +kernel
theorem dX0_takeBack_31 : decode cX0_takeBack 31 = .ok (.putfield 21, 3) := by decide +kernel
theorem dX0_takeBack_34 : decode cX0_takeBack 34 = .ok (.aload_n 1, 1) := by decide +kernel
theorem dX0_takeBack_35 : decode cX0_takeBack 35 = .ok (.aload_n 0, 1) := by decide +kernel
theorem dX0_takeBack_36 : decode cX0_takeBack 36 = .ok (.getfield 13, 3) := by decide +kernel
theorem dX0_takeBack_39 : decode cX0_takeBack 39 = .ok (.aload_n 0, 1) := by decide +kernel
theorem dX0_takeBack_40 : decode cX0_takeBack 40 = .ok (.getfield 17, 3) := by decide +kernel
theorem dX0_takeBack_43 : decode cX0_takeBack 43 = .ok (.invokestatic 24, 3) := by decide +kernel
theorem dX0_takeBack_46 : decode cX0_takeBack 46 = .ok (.invokevirtual 28, 3) := by decide +kernel
theorem dX0_takeBack_49 : decode cX0_takeBack 49 = .ok (.return_, 1) := by decide +kernel
theorem dX1_init_0 : decode cX1_init 0 = .ok (.aload_n 0, 1) := by decide +kernel
theorem dX1_init_1 : decode cX1_init 1 = .ok (.invokespecial 3, 3) := by decide +kernel
theorem dX1_init_4 : decode cX1_init 4 = .ok (.aload_n 0, 1) := by decide +kernel
theorem dX1_init_5 : decode cX1_init 5 = .ok (.bipush 27, 2) := by decide +kernel
theorem dX1_init_7 : decode cX1_init 7 = .ok (.newarray .int, 2) := by decide +kernel
theorem dX1_init_9 : decode cX1_init 9 = .ok (.putfield 9, 3) := by decide +kernel
theorem dX1_init_12 : decode cX1_init 12 = .ok (.aload_n 0, 1) := by decide +kernel
theorem dX1_init_13 : decode cX1_init 13 = .ok (.bipush 81, 2) := by decide +kernel
theorem dX1_init_15 : decode cX1_init 15 = .ok (.newarray .int, 2) := by decide +kernel
theorem dX1_init_17 : decode cX1_init 17 = .ok (.putfield 15, 3) := by decide +kernel
theorem dX1_init_20 : decode cX1_init 20 = .ok (.aload_n 0, 1) := by decide +kernel
theorem dX1_init_21 : decode cX1_init 21 = .ok (.iconst 0, 1) := by decide +kernel
theorem dX1_init_22 : decode cX1_init 22 = .ok (.putfield 18, 3) := by decide +kernel
theorem dX1_init_25 : decode cX1_init 25 = .ok (.aload_n 0, 1) := by decide +kernel
theorem dX1_init_26 : decode cX1_init 26 = .ok (.iconst 0, 1) := by decide +kernel
theorem dX1_init_27 : decode cX1_init 27 = .ok (.putfield 22, 3) := by decide +kernel
theorem dX1_init_30 : decode cX1_init 30 = .ok (.return_, 1) := by decide +kernel
theorem dX1_letter_0 : decode cX1_letter 0 = .ok (.iload_n 1, 1) := by decide +kernel
theorem dX1_letter_1 : decode cX1_letter 1 = .ok (.ifCond .lt 18, 3) := by decide +kernel
theorem dX1_letter_4 : decode cX1_letter 4 = .ok (.iload_n 1, 1) := by decide +kernel
theorem dX1_letter_5 : decode cX1_letter 5 = .ok (.bipush 27, 2) := by decide +kernel
theorem dX1_letter_7 : decode cX1_letter 7 = .ok (.if_icmp .ge 12, 3) := by decide +kernel
theorem dX1_letter_10 : decode cX1_letter 10 = .ok (.aload_n 0, 1) := by decide +kernel
theorem dX1_letter_11 : decode cX1_letter 11 = .ok (.getfield 9, 3) := by decide +kernel
theorem dX1_letter_14 : decode cX1_letter 14 = .ok (.iload_n 1, 1) := by decide +kernel
theorem dX1_letter_15 : decode cX1_letter 15 = .ok (.iaload, 1) := by decide +kernel
theorem dX1_letter_16 : decode cX1_letter 16 = .ok (.goto 4, 3) := by decide +kernel
theorem dX1_letter_19 : decode cX1_letter 19 = .ok (.iconst 0, 1) := by decide +kernel
theorem dX1_letter_20 : decode cX1_letter 20 = .ok (.ireturn, 1) := by decide +kernel
theorem dX1_part_0 : decode cX1_part 0 = .ok (.iload_n 1, 1) := by decide +kernel
theorem dX1_part_1 : decode cX1_part 1 = .ok (.iload_n 2, 1) := by decide +kernel
theorem dX1_part_2 : decode cX1_part 2 = .ok (.invokestatic 25, 3) := by decide +kernel
theorem dX1_part_5 : decode cX1_part 5 = .ok (.ifCond .eq 16, 3) := by decide +kernel
theorem dX1_part_8 : decode cX1_part 8 = .ok (.aload_n 0, 1) := by decide +kernel
theorem dX1_part_9 : decode cX1_part 9 = .ok (.getfield 15, 3) := by decide +kernel
theorem dX1_part_12 : decode cX1_part 12 = .ok (.iload_n 1, 1) := by decide +kernel
theorem dX1_part_13 : decode cX1_part 13 = .ok (.iconst 3, 1) := by decide +kernel
theorem dX1_part_14 : decode cX1_part 14 = .ok (.imul, 1) := by decide +kernel
theorem dX1_part_15 : decode cX1_part 15 = .ok (.iload_n 2, 1) := by decide +kernel
theorem dX1_part_16 : decode cX1_part 16 = .ok (.iadd, 1) := by decide +kernel
theorem dX1_part_17 : decode cX1_part 17 = .ok (.iaload, 1) := by decide +kernel
theorem dX1_part_18 : decode cX1_part 18 = .ok (.goto 4, 3) := by decide +kernel
theorem dX1_part_21 : decode cX1_part 21 = .ok (.iconst 0, 1) := by decide +kernel
theorem dX1_part_22 : decode cX1_part 22 = .ok (.ireturn, 1) := by decide +kernel
theorem dX1_hasPart_0 : decode cX1_hasPart 0 = .ok (.iload_n 0, 1) := by decide +kernel
theorem dX1_hasPart_1 : decode cX1_hasPart 1 = .ok (.ifCond .lt 22, 3) := by decide +kernel
theorem dX1_hasPart_4 : decode cX1_hasPart 4 = .ok (.iload_n 0, 1) := by decide +kernel
theorem dX1_hasPart_5 : decode cX1_hasPart 5 = .ok (.bipush 27, 2) := by decide +kernel
theorem dX1_hasPart_7 : decode cX1_hasPart 7 = .ok (.if_icmp .ge 16, 3) := by decide +kernel
theorem dX1_hasPart_10 : decode cX1_hasPart 10 = .ok (.iload_n 1, 1) := by decide +kernel
theorem dX1_hasPart_11 : decode cX1_hasPart 11 = .ok (.ifCond .lt 12, 3) := by decide +kernel
theorem dX1_hasPart_14 : decode cX1_hasPart 14 = .ok (.iload_n 1, 1) := by decide +kernel
theorem dX1_hasPart_15 : decode cX1_hasPart 15 = .ok (.iconst 3, 1) := by decide +kernel
theorem dX1_hasPart_16 : decode cX1_hasPart 16 = .ok (.if_icmp .ge 7, 3) := by decide +kernel
theorem dX1_hasPart_19 : decode cX1_hasPart 19 = .ok (.iconst 1, 1) := by decide +kernel
theorem dX1_hasPart_20 : decode cX1_hasPart 20 = .ok (.goto 4, 3) := by decide +kernel
theorem dX1_hasPart_23 : decode cX1_hasPart 23 = .ok (.iconst 0, 1) := by decide +kernel
theorem dX1_hasPart_24 : decode cX1_hasPart 24 = .ok (.ireturn, 1) := by decide +kernel
theorem dX1_read_0 : decode cX1_read 0 = .ok (.aload_n 0, 1) := by decide +kernel
theorem dX1_read_1 : decode cX1_read 1 = .ok (.iconst 0, 1) := by decide +kernel
theorem dX1_read_2 : decode cX1_read 2 = .ok (.putfield 18, 3) := by decide +kernel
theorem dX1_read_5 : decode cX1_read 5 = .ok (.aload_n 0, 1) := by decide +kernel
theorem dX1_read_6 : decode cX1_read 6 = .ok (.iconst 0, 1) := by decide +kernel
theorem dX1_read_7 : decode cX1_read 7 = .ok (.putfield 22, 3) := by decide +kernel
theorem dX1_read_10 : decode cX1_read 10 = .ok (.aload_n 0, 1) := by decide +kernel
theorem dX1_read_11 : decode cX1_read 11 = .ok (.getfield 18, 3) := by decide +kernel
theorem dX1_read_14 : decode cX1_read 14 = .ok (.bipush 27, 2) := by decide +kernel
theorem dX1_read_16 : decode cX1_read 16 = .ok (.if_icmp .ge 55, 3) := by decide +kernel
theorem dX1_read_19 : decode cX1_read 19 = .ok (.aload_n 0, 1) := by decide +kernel
theorem dX1_read_20 : decode cX1_read 20 = .ok (.aload_n 1, 1) := by decide +kernel
theorem dX1_read_21 : decode cX1_read 21 = .ok (.invokevirtual 29, 3) := by decide +kernel
theorem dX1_read_24 : decode cX1_read 24 = .ok (.ifCond .ne 8, 3) := by decide +kernel
theorem dX1_read_27 : decode cX1_read 27 = .ok (.aload_n 0, 1) := by decide +kernel
theorem dX1_read_28 : decode cX1_read 28 = .ok (.getfield 22, 3) := by decide +kernel
theorem dX1_read_31 : decode cX1_read 31 = .ok (.ireturn, 1) := by decide +kernel
theorem dX1_read_32 : decode cX1_read 32 = .ok (.aload_n 0, 1) := by decide +kernel
theorem dX1_read_33 : decode cX1_read 33 = .ok (.dup, 1) := by decide +kernel
theorem dX1_read_34 : decode cX1_read 34 = .ok (.getfield 18, 3) := by decide +kernel
theorem dX1_read_37 : decode cX1_read 37 = .ok (.iconst 1, 1) := by decide +kernel
theorem dX1_read_38 : decode cX1_read 38 = .ok (.iadd, 1) := by decide +kernel
theorem dX1_read_39 : decode cX1_read 39 = .ok (.putfield 18, 3) := by decide +kernel
theorem dX1_read_42 : decode cX1_read 42 = .ok (.aload_n 0, 1) := by decide +kernel
theorem dX1_read_43 : decode cX1_read 43 = .ok (.getfield 22, 3) := by decide +kernel
theorem dX1_read_46 : decode cX1_read 46 = .ok (.aload_n 1, 1) := by decide +kernel
theorem dX1_read_47 : decode cX1_read 47 = .ok (.getfield 33, 3) := by decide +kernel
theorem dX1_read_50 : decode cX1_read 50 = .ok (.if_icmp .lt 6, 3) := by decide +kernel
theorem dX1_read_53 : decode cX1_read 53 = .ok (.bipush (-6), 2) := by decide +kernel
theorem dX1_read_55 : decode cX1_read 55 = .ok (.ireturn, 1) := by decide +kernel
theorem dX1_read_56 : decode cX1_read 56 = .ok (.aload_n 0, 1) := by decide +kernel
theorem dX1_read_57 : decode cX1_read 57 = .ok (.aload_n 1, 1) := by decide +kernel
theorem dX1_read_58 : decode cX1_read 58 = .ok (.bipush 59, 2) := by decide +kernel
theorem dX1_read_60 : decode cX1_read 60 = .ok (.invokevirtual 38, 3) := by decide +kernel
theorem dX1_read_63 : decode cX1_read 63 = .ok (.ifCond .ne (-53), 3) := by decide +kernel
theorem dX1_read_66 : decode cX1_read 66 = .ok (.aload_n 0, 1) := by decide +kernel
theorem dX1_read_67 : decode cX1_read 67 = .ok (.getfield 22, 3) := by decide +kernel
theorem dX1_read_70 : decode cX1_read 70 = .ok (.ireturn, 1) := by decide +kernel
theorem dX1_read_71 : decode cX1_read 71 = .ok (.aload_n 0, 1) := by decide +kernel
theorem dX1_read_72 : decode cX1_read 72 = .ok (.getfield 22, 3) := by decide +kernel
theorem dX1_read_75 : decode cX1_read 75 = .ok (.ireturn, 1) := by decide +kernel
theorem dX1_readOrder_0 : decode cX1_readOrder 0 = .ok (.aload_n 1, 1) := by decide +kernel
theorem dX1_readOrder_1 : decode cX1_readOrder 1 = .ok (.aload_n 0, 1) := by decide +kernel
theorem dX1_readOrder_2 : decode cX1_readOrder 2 = .ok (.getfield 22, 3) := by decide +kernel
theorem dX1_readOrder_5 : decode cX1_readOrder 5 = .ok (.invokevirtual 42, 3) := by decide +kernel
theorem dX1_readOrder_8 : decode cX1_readOrder 8 = .ok (.istore_n 2, 1) := by decide +kernel
theorem dX1_readOrder_9 : decode cX1_readOrder 9 = .ok (.iload_n 2, 1) := by decide +kernel
theorem dX1_readOrder_10 : decode cX1_readOrder 10 = .ok (.invokestatic 46, 3) := by decide +kernel
theorem dX1_readOrder_13 : decode cX1_readOrder 13 = .ok (.ifCond .eq 12, 3) := by decide +kernel
theorem dX1_readOrder_16 : decode cX1_readOrder 16 = .ok (.aload_n 0, 1) := by decide +kernel
theorem dX1_readOrder_17 : decode cX1_readOrder 17 = .ok (.getfield 18, 3) := by decide +kernel
theorem dX1_readOrder_20 : decode cX1_readOrder 20 = .ok (.bipush 27, 2) := by decide +kernel
theorem dX1_readOrder_22 : decode cX1_readOrder 22 = .ok (.if_icmp .lt 5, 3) := by decide +kernel
theorem dX1_readOrder_25 : decode cX1_readOrder 25 = .ok (.iconst 0, 1) := by decide +kernel
theorem dX1_readOrder_26 : decode cX1_readOrder 26 = .ok (.ireturn, 1) := by decide +kernel
theorem dX1_readOrder_27 : decode cX1_readOrder 27 = .ok (.aload_n 0, 1) := by decide +kernel
theorem dX1_readOrder_28 : decode cX1_readOrder 28 = .ok (.dup, 1) := by decide +kernel
theorem dX1_readOrder_29 : decode cX1_readOrder 29 = .ok (.getfield 22, 3) := by decide +kernel
theorem dX1_readOrder_32 : decode cX1_readOrder 32 = .ok (.iconst 1, 1) := by decide +kernel
theorem dX1_readOrder_33 : decode cX1_readOrder 33 = .ok (.iadd, 1) := by decide +kernel
theorem dX1_readOrder_34 : decode cX1_readOrder 34 = .ok (.putfield 22, 3) := by decide +kernel
theorem dX1_readOrder_37 : decode cX1_readOrder 37 = .ok (.aload_n 0, 1) := by decide +kernel
theorem dX1_readOrder_38 : decode cX1_readOrder 38 = .ok (.getfield 9, 3) := by decide +kernel
theorem dX1_readOrder_41 : decode cX1_readOrder 41 = .ok (.aload_n 0, 1) := by decide +kernel
theorem dX1_readOrder_42 : decode cX1_readOrder 42 = .ok (.getfield 18, 3) := by decide +kernel
theorem dX1_readOrder_45 : decode cX1_readOrder 45 = .ok (.iload_n 2, 1) := by decide +kernel
theorem dX1_readOrder_46 : decode cX1_readOrder 46 = .ok (.iastore, 1) := by decide +kernel
theorem dX1_readOrder_47 : decode cX1_readOrder 47 = .ok (.iload_n 2, 1) := by decide +kernel
theorem dX1_readOrder_48 : decode cX1_readOrder 48 = .ok (.lookupswitch 152 #[(103, 44), (110, 68), (112, 109), (120, 75)], 44) := by decide +kernel
theorem dX1_readOrder_92 : decode cX1_readOrder 92 = .ok (.aload_n 0, 1) := by decide +kernel
theorem dX1_readOrder_93 : decode cX1_readOrder 93 = .ok (.aload_n 1, 1) := by decide +kernel
theorem dX1_readOrder_94 : decode cX1_readOrder 94 = .ok (.iconst 0, 1) := by decide +kernel
theorem dX1_readOrder_95 : decode cX1_readOrder 95 = .ok (.invokevirtual 50, 3) := by decide +kernel
theorem dX1_readOrder_98 : decode cX1_readOrder 98 = .ok (.ifCond .eq 16, 3) := by decide +kernel
theorem dX1_readOrder_101 : decode cX1_readOrder 101 = .ok (.aload_n 0, 1) := by decide +kernel
theorem dX1_readOrder_102 : decode cX1_readOrder 102 = .ok (.aload_n 1, 1) := by decide +kernel
theorem dX1_readOrder_103 : decode cX1_readOrder 103 = .ok (.iconst 1, 1) := by decide +kernel
theorem dX1_readOrder_104 : decode cX1_readOrder 104 = .ok (.invokevirtual 53, 3) := by decide +kernel
theorem dX1_readOrder_107 : decode cX1_readOrder 107 = .ok (.ifCond .eq 7, 3) := by decide +kernel
theorem dX1_readOrder_110 : decode cX1_readOrder 110 = .ok (.iconst 1, 1) := by decide +kernel
theorem dX1_readOrder_111 : decode cX1_readOrder 111 = .ok (.goto 4, 3) := by decide +kernel
theorem dX1_readOrder_114 : decode cX1_readOrder 114 = .ok (.iconst 0, 1) := by decide +kernel
theorem dX1_readOrder_115 : decode cX1_readOrder 115 = .ok (.ireturn, 1) := by decide +kernel
theorem dX1_readOrder_116 : decode cX1_readOrder 116 = .ok (.aload_n 0, 1) := by decide +kernel
theorem dX1_readOrder_117 : decode cX1_readOrder 117 = .ok (.aload_n 1, 1) := by decide +kernel
theorem dX1_readOrder_118 : decode cX1_readOrder 118 = .ok (.iconst 0, 1) := by decide +kernel
theorem dX1_readOrder_119 : decode cX1_readOrder 119 = .ok (.invokevirtual 50, 3) := by decide +kernel
theorem dX1_readOrder_122 : decode cX1_readOrder 122 = .ok (.ireturn, 1) := by decide +kernel
theorem dX1_readOrder_123 : decode cX1_readOrder 123 = .ok (.aload_n 0, 1) := by decide +kernel
theorem dX1_readOrder_124 : decode cX1_readOrder 124 = .ok (.aload_n 1, 1) := by decide +kernel
theorem dX1_readOrder_125 : decode cX1_readOrder 125 = .ok (.iconst 0, 1) := by decide +kernel
theorem dX1_readOrder_126 : decode cX1_readOrder 126 = .ok (.invokevirtual 56, 3) := by decide +kernel
theorem dX1_readOrder_129 : decode cX1_readOrder 129 = .ok (.ifCond .eq 26, 3) := by decide +kernel
theorem dX1_readOrder_132 : decode cX1_readOrder 132 = .ok (.aload_n 0, 1) := by decide +kernel
theorem dX1_readOrder_133 : decode cX1_readOrder 133 = .ok (.aload_n 1, 1) := by decide +kernel
theorem dX1_readOrder_134 : decode cX1_readOrder 134 = .ok (.bipush 46, 2) := by decide +kernel
theorem dX1_readOrder_136 : decode cX1_readOrder 136 = .ok (.invokevirtual 38, 3) := by decide +kernel
theorem dX1_readOrder_139 : decode cX1_readOrder 139 = .ok (.ifCond .eq 16, 3) := by decide +kernel
theorem dX1_readOrder_142 : decode cX1_readOrder 142 = .ok (.aload_n 0, 1) := by decide +kernel
theorem dX1_readOrder_143 : decode cX1_readOrder 143 = .ok (.aload_n 1, 1) := by decide +kernel
theorem dX1_readOrder_144 : decode cX1_readOrder 144 = .ok (.iconst 1, 1) := by decide +kernel
theorem dX1_readOrder_145 : decode cX1_readOrder 145 = .ok (.invokevirtual 50, 3) := by decide +kernel
theorem dX1_readOrder_148 : decode cX1_readOrder 148 = .ok (.ifCond .eq 7, 3) := by decide +kernel
theorem dX1_readOrder_151 : decode cX1_readOrder 151 = .ok (.iconst 1, 1) := by decide +kernel
theorem dX1_readOrder_152 : decode cX1_readOrder 152 = .ok (.goto 4, 3) := by decide +kernel
theorem dX1_readOrder_155 : decode cX1_readOrder 155 = .ok (.iconst 0, 1) := by decide +kernel
theorem dX1_readOrder_156 : decode cX1_readOrder 156 = .ok (.ireturn, 1) := by decide +kernel
theorem dX1_readOrder_157 : decode cX1_readOrder 157 = .ok (.aload_n 0, 1) := by decide +kernel
theorem dX1_readOrder_158 : decode cX1_readOrder 158 = .ok (.aload_n 1, 1) := by decide +kernel
theorem dX1_readOrder_159 : decode cX1_readOrder 159 = .ok (.iconst 0, 1) := by decide +kernel
theorem dX1_readOrder_160 : decode cX1_readOrder 160 = .ok (.invokevirtual 56, 3) := by decide +kernel
theorem dX1_readOrder_163 : decode cX1_readOrder 163 = .ok (.ifCond .eq 35, 3) := by decide +kernel
theorem dX1_readOrder_166 : decode cX1_readOrder 166 = .ok (.aload_n 0, 1) := by decide +kernel
theorem dX1_readOrder_167 : decode cX1_readOrder 167 = .ok (.aload_n 1, 1) := by decide +kernel
theorem dX1_readOrder_168 : decode cX1_readOrder 168 = .ok (.bipush 58, 2) := by decide +kernel
theorem dX1_readOrder_170 : decode cX1_readOrder 170 = .ok (.invokevirtual 38, 3) := by decide +kernel
theorem dX1_readOrder_173 : decode cX1_readOrder 173 = .ok (.ifCond .eq 25, 3) := by decide +kernel
theorem dX1_readOrder_176 : decode cX1_readOrder 176 = .ok (.aload_n 0, 1) := by decide +kernel
theorem dX1_readOrder_177 : decode cX1_readOrder 177 = .ok (.aload_n 1, 1) := by decide +kernel
theorem dX1_readOrder_178 : decode cX1_readOrder 178 = .ok (.iconst 1, 1) := by decide +kernel
theorem dX1_readOrder_179 : decode cX1_readOrder 179 = .ok (.invokevirtual 50, 3) := by decide +kernel
theorem dX1_readOrder_182 : decode cX1_readOrder 182 = .ok (.ifCond .eq 16, 3) := by decide +kernel
theorem dX1_readOrder_185 : decode cX1_readOrder 185 = .ok (.aload_n 0, 1) := by decide +kernel
theorem dX1_readOrder_186 : decode cX1_readOrder 186 = .ok (.aload_n 1, 1) := by decide +kernel
theorem dX1_readOrder_187 : decode cX1_readOrder 187 = .ok (.iconst 2, 1) := by decide +kernel
theorem dX1_readOrder_188 : decode cX1_readOrder 188 = .ok (.invokevirtual 53, 3) := by decide +kernel
theorem dX1_readOrder_191 : decode cX1_readOrder 191 = .ok (.ifCond .eq 7, 3) := by decide +kernel
theorem dX1_readOrder_194 : decode cX1_readOrder 194 = .ok (.iconst 1, 1) := by decide +kernel
theorem dX1_readOrder_195 : decode cX1_readOrder 195 = .ok (.goto 4, 3) := by decide +kernel
theorem dX1_readOrder_198 : decode cX1_readOrder 198 = .ok (.iconst 0, 1) := by decide +kernel
theorem dX1_readOrder_199 : decode cX1_readOrder 199 = .ok (.ireturn, 1) := by decide +kernel
theorem dX1_readOrder_200 : decode cX1_readOrder 200 = .ok (.aload_n 0, 1) := by decide +kernel
theorem dX1_readOrder_201 : decode cX1_readOrder 201 = .ok (.aload_n 1, 1) := by decide +kernel
theorem dX1_readOrder_202 : decode cX1_readOrder 202 = .ok (.iconst 0, 1) := by decide +kernel
theorem dX1_readOrder_203 : decode cX1_readOrder 203 = .ok (.invokevirtual 56, 3) := by decide +kernel
theorem dX1_readOrder_206 : decode cX1_readOrder 206 = .ok (.ireturn, 1) := by decide +kernel
theorem dX1_isLetter_0 : decode cX1_isLetter 0 = .ok (.iload_n 0, 1) := by decide +kernel
theorem dX1_isLetter_1 : decode cX1_isLetter 1 = .ok (.bipush 107, 2) := by decide +kernel
theorem dX1_isLetter_3 : decode cX1_isLetter 3 = .ok (.if_icmp .eq 33, 3) := by decide +kernel
theorem dX1_isLetter_6 : decode cX1_isLetter 6 = .ok (.iload_n 0, 1) := by decide +kernel
theorem dX1_isLetter_7 : decode cX1_isLetter 7 = .ok (.bipush 103, 2) := by decide +kernel
theorem dX1_isLetter_9 : decode cX1_isLetter 9 = .ok (.if_icmp .eq 27, 3) := by decide +kernel
theorem dX1_isLetter_12 : decode cX1_isLetter 12 = .ok (.iload_n 0, 1) := by decide +kernel
theorem dX1_isLetter_13 : decode cX1_isLetter 13 = .ok (.bipush 110, 2) := by decide +kernel
theorem dX1_isLetter_15 : decode cX1_isLetter 15 = .ok (.if_icmp .eq 21, 3) := by decide +kernel
theorem dX1_isLetter_18 : decode cX1_isLetter 18 = .ok (.iload_n 0, 1) := by decide +kernel
theorem dX1_isLetter_19 : decode cX1_isLetter 19 = .ok (.bipush 120, 2) := by decide +kernel
theorem dX1_isLetter_21 : decode cX1_isLetter 21 = .ok (.if_icmp .eq 15, 3) := by decide +kernel
theorem dX1_isLetter_24 : decode cX1_isLetter 24 = .ok (.iload_n 0, 1) := by decide +kernel
theorem dX1_isLetter_25 : decode cX1_isLetter 25 = .ok (.bipush 112, 2) := by decide +kernel
theorem dX1_isLetter_27 : decode cX1_isLetter 27 = .ok (.if_icmp .eq 9, 3) := by decide +kernel
theorem dX1_isLetter_30 : decode cX1_isLetter 30 = .ok (.iload_n 0, 1) := by decide +kernel
theorem dX1_isLetter_31 : decode cX1_isLetter 31 = .ok (.bipush 116, 2) := by decide +kernel
theorem dX1_isLetter_33 : decode cX1_isLetter 33 = .ok (.if_icmp .ne 7, 3) := by decide +kernel
theorem dX1_isLetter_36 : decode cX1_isLetter 36 = .ok (.iconst 1, 1) := by decide +kernel
theorem dX1_isLetter_37 : decode cX1_isLetter 37 = .ok (.goto 4, 3) := by decide +kernel
theorem dX1_isLetter_40 : decode cX1_isLetter 40 = .ok (.iconst 0, 1) := by decide +kernel
theorem dX1_isLetter_41 : decode cX1_isLetter 41 = .ok (.ireturn, 1) := by decide +kernel
theorem dX1_readSign_0 : decode cX1_readSign 0 = .ok (.aload_n 1, 1) := by decide +kernel
theorem dX1_readSign_1 : decode cX1_readSign 1 = .ok (.aload_n 0, 1) := by decide +kernel
theorem dX1_readSign_2 : decode cX1_readSign 2 = .ok (.getfield 22, 3) := by decide +kernel
theorem dX1_readSign_5 : decode cX1_readSign 5 = .ok (.invokevirtual 42, 3) := by decide +kernel
theorem dX1_readSign_8 : decode cX1_readSign 8 = .ok (.iload_n 2, 1) := by decide +kernel
theorem dX1_readSign_9 : decode cX1_readSign 9 = .ok (.if_icmp .eq 5, 3) := by decide +kernel
theorem dX1_readSign_12 : decode cX1_readSign 12 = .ok (.iconst 0, 1) := by decide +kernel
theorem dX1_readSign_13 : decode cX1_readSign 13 = .ok (.ireturn, 1) := by decide +kernel
theorem dX1_readSign_14 : decode cX1_readSign 14 = .ok (.aload_n 0, 1) := by decide +kernel
theorem dX1_readSign_15 : decode cX1_readSign 15 = .ok (.dup, 1) := by decide +kernel
theorem dX1_readSign_16 : decode cX1_readSign 16 = .ok (.getfield 22, 3) := by decide +kernel
theorem dX1_readSign_19 : decode cX1_readSign 19 = .ok (.iconst 1, 1) := by decide +kernel
theorem dX1_readSign_20 : decode cX1_readSign 20 = .ok (.iadd, 1) := by decide +kernel
theorem dX1_readSign_21 : decode cX1_readSign 21 = .ok (.putfield 22, 3) := by decide +kernel
theorem dX1_readSign_24 : decode cX1_readSign 24 = .ok (.iconst 1, 1) := by decide +kernel
theorem dX1_readSign_25 : decode cX1_readSign 25 = .ok (.ireturn, 1) := by decide +kernel
theorem dX1_readDigit_0 : decode cX1_readDigit 0 = .ok (.aload_n 0, 1) := by decide +kernel
theorem dX1_readDigit_1 : decode cX1_readDigit 1 = .ok (.aload_n 1, 1) := by decide +kernel
theorem dX1_readDigit_2 : decode cX1_readDigit 2 = .ok (.invokevirtual 59, 3) := by decide +kernel
theorem dX1_readDigit_5 : decode cX1_readDigit 5 = .ok (.istore_n 3, 1) := by decide +kernel
theorem dX1_readDigit_6 : decode cX1_readDigit 6 = .ok (.iload_n 3, 1) := by decide +kernel
theorem dX1_readDigit_7 : decode cX1_readDigit 7 = .ok (.ifCond .lt 16, 3) := by decide +kernel
theorem dX1_readDigit_10 : decode cX1_readDigit 10 = .ok (.aload_n 0, 1) := by decide +kernel
theorem dX1_readDigit_11 : decode cX1_readDigit 11 = .ok (.iload_n 2, 1) := by decide +kernel
theorem dX1_readDigit_12 : decode cX1_readDigit 12 = .ok (.iload_n 3, 1) := by decide +kernel
theorem dX1_readDigit_13 : decode cX1_readDigit 13 = .ok (.invokevirtual 63, 3) := by decide +kernel
theorem dX1_readDigit_16 : decode cX1_readDigit 16 = .ok (.ifCond .eq 7, 3) := by decide +kernel
theorem dX1_readDigit_19 : decode cX1_readDigit 19 = .ok (.iconst 1, 1) := by decide +kernel
theorem dX1_readDigit_20 : decode cX1_readDigit 20 = .ok (.goto 4, 3) := by decide +kernel
theorem dX1_readDigit_23 : decode cX1_readDigit 23 = .ok (.iconst 0, 1) := by decide +kernel
theorem dX1_readDigit_24 : decode cX1_readDigit 24 = .ok (.ireturn, 1) := by decide +kernel
theorem dX1_readNumber_0 : decode cX1_readNumber 0 = .ok (.aload_n 0, 1) := by decide +kernel
theorem dX1_readNumber_1 : decode cX1_readNumber 1 = .ok (.aload_n 1, 1) := by decide +kernel
theorem dX1_readNumber_2 : decode cX1_readNumber 2 = .ok (.invokevirtual 66, 3) := by decide +kernel
theorem dX1_readNumber_5 : decode cX1_readNumber 5 = .ok (.istore_n 3, 1) := by decide +kernel
theorem dX1_readNumber_6 : decode cX1_readNumber 6 = .ok (.iload_n 3, 1) := by decide +kernel
theorem dX1_readNumber_7 : decode cX1_readNumber 7 = .ok (.ifCond .lt 16, 3) := by decide +kernel
theorem dX1_readNumber_10 : decode cX1_readNumber 10 = .ok (.aload_n 0, 1) := by decide +kernel
theorem dX1_readNumber_11 : decode cX1_readNumber 11 = .ok (.iload_n 2, 1) := by decide +kernel
theorem dX1_readNumber_12 : decode cX1_readNumber 12 = .ok (.iload_n 3, 1) := by decide +kernel
theorem dX1_readNumber_13 : decode cX1_readNumber 13 = .ok (.invokevirtual 63, 3) := by decide +kernel
theorem dX1_readNumber_16 : decode cX1_readNumber 16 = .ok (.ifCond .eq 7, 3) := by decide +kernel
theorem dX1_readNumber_19 : decode cX1_readNumber 19 = .ok (.iconst 1, 1) := by decide +kernel
theorem dX1_readNumber_20 : decode cX1_readNumber 20 = .ok (.goto 4, 3) := by decide +kernel
theorem dX1_readNumber_23 : decode cX1_readNumber 23 = .ok (.iconst 0, 1) := by decide +kernel
theorem dX1_readNumber_24 : decode cX1_readNumber 24 = .ok (.ireturn, 1) := by decide +kernel
theorem dX1_readBy_0 : decode cX1_readBy 0 = .ok (.aload_n 1, 1) := by decide +kernel
theorem dX1_readBy_1 : decode cX1_readBy 1 = .ok (.aload_n 0, 1) := by decide +kernel
theorem dX1_readBy_2 : decode cX1_readBy 2 = .ok (.getfield 22, 3) := by decide +kernel
theorem dX1_readBy_5 : decode cX1_readBy 5 = .ok (.invokevirtual 42, 3) := by decide +kernel
theorem dX1_readBy_8 : decode cX1_readBy 8 = .ok (.bipush 45, 2) := by decide +kernel
theorem dX1_readBy_10 : decode cX1_readBy 10 = .ok (.if_icmp .ne 7, 3) := by decide +kernel
theorem dX1_readBy_13 : decode cX1_readBy 13 = .ok (.iconst 1, 1) := by decide +kernel
theorem dX1_readBy_14 : decode cX1_readBy 14 = .ok (.goto 4, 3) := by decide +kernel
theorem dX1_readBy_17 : decode cX1_readBy 17 = .ok (.iconst 0, 1) := by decide +kernel
theorem dX1_readBy_18 : decode cX1_readBy 18 = .ok (.istore_n 3, 1) := by decide +kernel
theorem dX1_readBy_19 : decode cX1_readBy 19 = .ok (.aload_n 0, 1) := by decide +kernel
theorem dX1_readBy_20 : decode cX1_readBy 20 = .ok (.aload_n 1, 1) := by decide +kernel
theorem dX1_readBy_21 : decode cX1_readBy 21 = .ok (.bipush 45, 2) := by decide +kernel
theorem dX1_readBy_23 : decode cX1_readBy 23 = .ok (.invokevirtual 38, 3) := by decide +kernel
theorem dX1_readBy_26 : decode cX1_readBy 26 = .ok (.ifCond .ne 15, 3) := by decide +kernel
theorem dX1_readBy_29 : decode cX1_readBy 29 = .ok (.aload_n 0, 1) := by decide +kernel
theorem dX1_readBy_30 : decode cX1_readBy 30 = .ok (.aload_n 1, 1) := by decide +kernel
theorem dX1_readBy_31 : decode cX1_readBy 31 = .ok (.bipush 43, 2) := by decide +kernel
theorem dX1_readBy_33 : decode cX1_readBy 33 = .ok (.invokevirtual 38, 3) := by decide +kernel
theorem dX1_readBy_36 : decode cX1_readBy 36 = .ok (.ifCond .ne 5, 3) := by decide +kernel
theorem dX1_readBy_39 : decode cX1_readBy 39 = .ok (.iconst 0, 1) := by decide +kernel
theorem dX1_readBy_40 : decode cX1_readBy 40 = .ok (.ireturn, 1) := by decide +kernel
theorem dX1_readBy_41 : decode cX1_readBy 41 = .ok (.aload_n 0, 1) := by decide +kernel
theorem dX1_readBy_42 : decode cX1_readBy 42 = .ok (.aload_n 1, 1) := by decide +kernel
theorem dX1_readBy_43 : decode cX1_readBy 43 = .ok (.invokevirtual 66, 3) := by decide +kernel
theorem dX1_readBy_46 : decode cX1_readBy 46 = .ok (.istore 4, 2) := by decide +kernel
theorem dX1_readBy_48 : decode cX1_readBy 48 = .ok (.iload 4, 2) := by decide +kernel
theorem dX1_readBy_50 : decode cX1_readBy 50 = .ok (.ifCond .lt 27, 3) := by decide +kernel
theorem dX1_readBy_53 : decode cX1_readBy 53 = .ok (.aload_n 0, 1) := by decide +kernel
theorem dX1_readBy_54 : decode cX1_readBy 54 = .ok (.iload_n 2, 1) := by decide +kernel
theorem dX1_readBy_55 : decode cX1_readBy 55 = .ok (.iload_n 3, 1) := by decide +kernel
theorem dX1_readBy_56 : decode cX1_readBy 56 = .ok (.ifCond .eq 9, 3) := by decide +kernel
theorem dX1_readBy_59 : decode cX1_readBy 59 = .ok (.iload 4, 2) := by decide +kernel
theorem dX1_readBy_61 : decode cX1_readBy 61 = .ok (.ineg, 1) := by decide +kernel
theorem dX1_readBy_62 : decode cX1_readBy 62 = .ok (.goto 5, 3) := by decide +kernel
theorem dX1_readBy_65 : decode cX1_readBy 65 = .ok (.iload 4, 2) := by decide +kernel
theorem dX1_readBy_67 : decode cX1_readBy 67 = .ok (.invokevirtual 63, 3) := by decide +kernel
theorem dX1_readBy_70 : decode cX1_readBy 70 = .ok (.ifCond .eq 7, 3) := by decide +kernel
theorem dX1_readBy_73 : decode cX1_readBy 73 = .ok (.iconst 1, 1) := by decide +kernel
theorem dX1_readBy_74 : decode cX1_readBy 74 = .ok (.goto 4, 3) := by decide +kernel
theorem dX1_readBy_77 : decode cX1_readBy 77 = .ok (.iconst 0, 1) := by decide +kernel
theorem dX1_readBy_78 : decode cX1_readBy 78 = .ok (.ireturn, 1) := by decide +kernel
theorem dX1_keep_0 : decode cX1_keep 0 = .ok (.aload_n 0, 1) := by decide +kernel
theorem dX1_keep_1 : decode cX1_keep 1 = .ok (.getfield 18, 3) := by decide +kernel
theorem dX1_keep_4 : decode cX1_keep 4 = .ok (.iload_n 1, 1) := by decide +kernel
theorem dX1_keep_5 : decode cX1_keep 5 = .ok (.invokestatic 25, 3) := by decide +kernel
theorem dX1_keep_8 : decode cX1_keep 8 = .ok (.ifCond .ne 5, 3) := by decide +kernel
theorem dX1_keep_11 : decode cX1_keep 11 = .ok (.iconst 0, 1) := by decide +kernel
theorem dX1_keep_12 : decode cX1_keep 12 = .ok (.ireturn, 1) := by decide +kernel
theorem dX1_keep_13 : decode cX1_keep 13 = .ok (.aload_n 0, 1) := by decide +kernel
theorem dX1_keep_14 : decode cX1_keep 14 = .ok (.getfield 15, 3) := by decide +kernel
theorem dX1_keep_17 : decode cX1_keep 17 = .ok (.aload_n 0, 1) := by decide +kernel
theorem dX1_keep_18 : decode cX1_keep 18 = .ok (.getfield 18, 3) := by decide +kernel
theorem dX1_keep_21 : decode cX1_keep 21 = .ok (.iconst 3, 1) := by decide +kernel
theorem dX1_keep_22 : decode cX1_keep 22 = .ok (.imul, 1) := by decide +kernel
theorem dX1_keep_23 : decode cX1_keep 23 = .ok (.iload_n 1, 1) := by decide +kernel
theorem dX1_keep_24 : decode cX1_keep 24 = .ok (.iadd, 1) := by decide +kernel
theorem dX1_keep_25 : decode cX1_keep 25 = .ok (.iload_n 2, 1) := by decide +kernel
theorem dX1_keep_26 : decode cX1_keep 26 = .ok (.iastore, 1) := by decide +kernel
theorem dX1_keep_27 : decode cX1_keep 27 = .ok (.iconst 1, 1) := by decide +kernel
theorem dX1_keep_28 : decode cX1_keep 28 = .ok (.ireturn, 1) := by decide +kernel
theorem dX1_number_0 : decode cX1_number 0 = .ok (.aload_n 0, 1) := by decide +kernel
theorem dX1_number_1 : decode cX1_number 1 = .ok (.aload_n 1, 1) := by decide +kernel
theorem dX1_number_2 : decode cX1_number 2 = .ok (.invokevirtual 59, 3) := by decide +kernel
theorem dX1_number_5 : decode cX1_number 5 = .ok (.istore_n 2, 1) := by decide +kernel
theorem dX1_number_6 : decode cX1_number 6 = .ok (.iload_n 2, 1) := by decide +kernel
theorem dX1_number_7 : decode cX1_number 7 = .ok (.ifCond .gt 5, 3) := by decide +kernel
theorem dX1_number_10 : decode cX1_number 10 = .ok (.iload_n 2, 1) := by decide +kernel
theorem dX1_number_11 : decode cX1_number 11 = .ok (.ireturn, 1) := by decide +kernel
theorem dX1_number_12 : decode cX1_number 12 = .ok (.aload_n 0, 1) := by decide +kernel
theorem dX1_number_13 : decode cX1_number 13 = .ok (.aload_n 1, 1) := by decide +kernel
theorem dX1_number_14 : decode cX1_number 14 = .ok (.invokevirtual 59, 3) := by decide +kernel
theorem dX1_number_17 : decode cX1_number 17 = .ok (.istore_n 3, 1) := by decide +kernel
theorem dX1_number_18 : decode cX1_number 18 = .ok (.iload_n 3, 1) := by decide +kernel
theorem dX1_number_19 : decode cX1_number 19 = .ok (.ifCond .ge 7, 3) := by decide +kernel
theorem dX1_number_22 : decode cX1_number 22 = .ok (.iload_n 2, 1) := by decide +kernel
theorem dX1_number_23 : decode cX1_number 23 = .ok (.goto 9, 3) := by decide +kernel
theorem dX1_number_26 : decode cX1_number 26 = .ok (.bipush 10, 2) := by decide +kernel
theorem dX1_number_28 : decode cX1_number 28 = .ok (.iload_n 2, 1) := by decide +kernel
theorem dX1_number_29 : decode cX1_number 29 = .ok (.imul, 1) := by decide +kernel
theorem dX1_number_30 : decode cX1_number 30 = .ok (.iload_n 3, 1) := by decide +kernel
theorem dX1_number_31 : decode cX1_number 31 = .ok (.iadd, 1) := by decide +kernel
theorem dX1_number_32 : decode cX1_number 32 = .ok (.ireturn, 1) := by decide +kernel
theorem dX1_digit_0 : decode cX1_digit 0 = .ok (.aload_n 1, 1) := by decide +kernel
theorem dX1_digit_1 : decode cX1_digit 1 = .ok (.aload_n 0, 1) := by decide +kernel
theorem dX1_digit_2 : decode cX1_digit 2 = .ok (.getfield 22, 3) := by decide +kernel
theorem dX1_digit_5 : decode cX1_digit 5 = .ok (.invokevirtual 42, 3) := by decide +kernel
theorem dX1_digit_8 : decode cX1_digit 8 = .ok (.istore_n 2, 1) := by decide +kernel
theorem dX1_digit_9 : decode cX1_digit 9 = .ok (.iload_n 2, 1) := by decide +kernel
theorem dX1_digit_10 : decode cX1_digit 10 = .ok (.bipush 48, 2) := by decide +kernel
theorem dX1_digit_12 : decode cX1_digit 12 = .ok (.if_icmp .lt 9, 3) := by decide +kernel
theorem dX1_digit_15 : decode cX1_digit 15 = .ok (.iload_n 2, 1) := by decide +kernel
theorem dX1_digit_16 : decode cX1_digit 16 = .ok (.bipush 57, 2) := by decide +kernel
theorem dX1_digit_18 : decode cX1_digit 18 = .ok (.if_icmp .le 6, 3) := by decide +kernel
theorem dX1_digit_21 : decode cX1_digit 21 = .ok (.bipush (-6), 2) := by decide +kernel
theorem dX1_digit_23 : decode cX1_digit 23 = .ok (.ireturn, 1) := by decide +kernel
theorem dX1_digit_24 : decode cX1_digit 24 = .ok (.aload_n 0, 1) := by decide +kernel
theorem dX1_digit_25 : decode cX1_digit 25 = .ok (.dup, 1) := by decide +kernel
theorem dX1_digit_26 : decode cX1_digit 26 = .ok (.getfield 22, 3) := by decide +kernel
theorem dX1_digit_29 : decode cX1_digit 29 = .ok (.iconst 1, 1) := by decide +kernel
theorem dX1_digit_30 : decode cX1_digit 30 = .ok (.iadd, 1) := by decide +kernel
theorem dX1_digit_31 : decode cX1_digit 31 = .ok (.putfield 22, 3) := by decide +kernel
theorem dX1_digit_34 : decode cX1_digit 34 = .ok (.iload_n 2, 1) := by decide +kernel
theorem dX1_digit_35 : decode cX1_digit 35 = .ok (.bipush 48, 2) := by decide +kernel
theorem dX1_digit_37 : decode cX1_digit 37 = .ok (.isub, 1) := by decide +kernel
theorem dX1_digit_38 : decode cX1_digit 38 = .ok (.ireturn, 1) := by decide +kernel
theorem dX2_init_0 : decode cX2_init 0 = .ok (.aload_n 0, 1) := by decide +kernel
theorem dX2_init_1 : decode cX2_init 1 = .ok (.invokespecial 3, 3) := by decide +kernel
theorem dX2_init_4 : decode cX2_init 4 = .ok (.aload_n 0, 1) := by decide +kernel
theorem dX2_init_5 : decode cX2_init 5 = .ok (.bipush 80, 2) := by decide +kernel
theorem dX2_init_7 : decode cX2_init 7 = .ok (.newarray .int, 2) := by decide +kernel
theorem dX2_init_9 : decode cX2_init 9 = .ok (.putfield 9, 3) := by decide +kernel
theorem dX2_init_12 : decode cX2_init 12 = .ok (.aload_n 0, 1) := by decide +kernel
theorem dX2_init_13 : decode cX2_init 13 = .ok (.iconst 0, 1) := by decide +kernel
theorem dX2_init_14 : decode cX2_init 14 = .ok (.putfield 15, 3) := by decide +kernel
theorem dX2_init_17 : decode cX2_init 17 = .ok (.return_, 1) := by decide +kernel
theorem dX2_append_0 : decode cX2_append 0 = .ok (.lload_n 1, 1) := by decide +kernel
theorem dX2_append_1 : decode cX2_append 1 = .ok (.invokestatic 19, 3) := by decide +kernel
theorem dX2_append_4 : decode cX2_append 4 = .ok (.istore_n 3, 1) := by decide +kernel
theorem dX2_append_5 : decode cX2_append 5 = .ok (.iload_n 3, 1) := by decide +kernel
theorem dX2_append_6 : decode cX2_append 6 = .ok (.ifCond .ne 6, 3) := by decide +kernel
theorem dX2_append_9 : decode cX2_append 9 = .ok (.bipush (-2), 2) := by decide +kernel
theorem dX2_append_11 : decode cX2_append 11 = .ok (.ireturn, 1) := by decide +kernel
theorem dX2_append_12 : decode cX2_append 12 = .ok (.aload_n 0, 1) := by decide +kernel
theorem dX2_append_13 : decode cX2_append 13 = .ok (.getfield 15, 3) := by decide +kernel
theorem dX2_append_16 : decode cX2_append 16 = .ok (.iload_n 3, 1) := by decide +kernel
theorem dX2_append_17 : decode cX2_append 17 = .ok (.iadd, 1) := by decide +kernel
theorem dX2_append_18 : decode cX2_append 18 = .ok (.bipush 80, 2) := by decide +kernel
theorem dX2_append_20 : decode cX2_append 20 = .ok (.if_icmp .le 6, 3) := by decide +kernel
theorem dX2_append_23 : decode cX2_append 23 = .ok (.bipush (-4), 2) := by decide +kernel
theorem dX2_append_25 : decode cX2_append 25 = .ok (.ireturn, 1) := by decide +kernel
theorem dX2_append_26 : decode cX2_append 26 = .ok (.iload_n 3, 1) := by decide +kernel
theorem dX2_append_27 : decode cX2_append 27 = .ok (.iconst 1, 1) := by decide +kernel
theorem dX2_append_28 : decode cX2_append 28 = .ok (.isub, 1) := by decide +kernel
theorem dX2_append_29 : decode cX2_append 29 = .ok (.istore 4, 2) := by decide +kernel
theorem dX2_append_31 : decode cX2_append 31 = .ok (.iload 4, 2) := by decide +kernel
theorem dX2_append_33 : decode cX2_append 33 = .ok (.ifCond .lt 40, 3) := by decide +kernel
theorem dX2_append_36 : decode cX2_append 36 = .ok (.aload_n 0, 1) := by decide +kernel
theorem dX2_append_37 : decode cX2_append 37 = .ok (.getfield 9, 3) := by decide +kernel
theorem dX2_append_40 : decode cX2_append 40 = .ok (.aload_n 0, 1) := by decide +kernel
theorem dX2_append_41 : decode cX2_append 41 = .ok (.getfield 15, 3) := by decide +kernel
theorem dX2_append_44 : decode cX2_append 44 = .ok (.lload_n 1, 1) := by decide +kernel
theorem dX2_append_45 : decode cX2_append 45 = .ok (.bipush 8, 2) := by decide +kernel
theorem dX2_append_47 : decode cX2_append 47 = .ok (.iload 4, 2) := by decide +kernel
theorem dX2_append_49 : decode cX2_append 49 = .ok (.imul, 1) := by decide +kernel
theorem dX2_append_50 : decode cX2_append 50 = .ok (.lushr, 1) := by decide +kernel
theorem dX2_append_51 : decode cX2_append 51 = .ok (.ldc2_w 23, 3) := by decide +kernel
theorem dX2_append_54 : decode cX2_append 54 = .ok (.land, 1) := by decide +kernel
theorem dX2_append_55 : decode cX2_append 55 = .ok (.l2i, 1) := by decide +kernel
theorem dX2_append_56 : decode cX2_append 56 = .ok (.iastore, 1) := by decide +kernel
theorem dX2_append_57 : decode cX2_append 57 = .ok (.aload_n 0, 1) := by decide +kernel
theorem dX2_append_58 : decode cX2_append 58 = .ok (.dup, 1) := by decide +kernel
theorem dX2_append_59 : decode cX2_append 59 = .ok (.getfield 15, 3) := by decide +kernel
theorem dX2_append_62 : decode cX2_append 62 = .ok (.iconst 1, 1) := by decide +kernel
theorem dX2_append_63 : decode cX2_append 63 = .ok (.iadd, 1) := by decide +kernel
theorem dX2_append_64 : decode cX2_append 64 = .ok (.putfield 15, 3) := by decide +kernel
theorem dX2_append_67 : decode cX2_append 67 = .ok (.iinc 4 (-1), 3) := by decide +kernel
theorem dX2_append_70 : decode cX2_append 70 = .ok (.goto (-39), 3) := by decide +kernel
theorem dX2_append_73 : decode cX2_append 73 = .ok (.aload_n 0, 1) := by decide +kernel
theorem dX2_append_74 : decode cX2_append 74 = .ok (.getfield 15, 3) := by decide +kernel
theorem dX2_append_77 : decode cX2_append 77 = .ok (.ireturn, 1) := by decide +kernel
theorem dX2_signsIn_0 : decode cX2_signsIn 0 = .ok (.lload_n 0, 1) := by decide +kernel
theorem dX2_signsIn_1 : decode cX2_signsIn 1 = .ok (.lstore_n 2, 1) := by decide +kernel
theorem dX2_signsIn_2 : decode cX2_signsIn 2 = .ok (.iconst 0, 1) := by decide +kernel
theorem dX2_signsIn_3 : decode cX2_signsIn 3 = .ok (.istore 4, 2) := by decide +kernel
theorem dX2_signsIn_5 : decode cX2_signsIn 5 = .ok (.iload 4, 2) := by decide +kernel
theorem dX2_signsIn_7 : decode cX2_signsIn 7 = .ok (.bipush 8, 2) := by decide +kernel
theorem dX2_signsIn_9 : decode cX2_signsIn 9 = .ok (.if_icmp .ge 47, 3) := by decide +kernel
theorem dX2_signsIn_12 : decode cX2_signsIn 12 = .ok (.lload_n 2, 1) := by decide +kernel
theorem dX2_signsIn_13 : decode cX2_signsIn 13 = .ok (.lconst 0, 1) := by decide +kernel
theorem dX2_signsIn_14 : decode cX2_signsIn 14 = .ok (.lcmp, 1) := by decide +kernel
theorem dX2_signsIn_15 : decode cX2_signsIn 15 = .ok (.ifCond .eq 41, 3) := by decide +kernel
theorem dX2_signsIn_18 : decode cX2_signsIn 18 = .ok (.lload_n 2, 1) := by decide +kernel
theorem dX2_signsIn_19 : decode cX2_signsIn 19 = .ok (.ldc2_w 23, 3) := by decide +kernel
theorem dX2_signsIn_22 : decode cX2_signsIn 22 = .ok (.land, 1) := by decide +kernel
theorem dX2_signsIn_23 : decode cX2_signsIn 23 = .ok (.lstore 5, 2) := by decide +kernel
theorem dX2_signsIn_25 : decode cX2_signsIn 25 = .ok (.lload 5, 2) := by decide +kernel
theorem dX2_signsIn_27 : decode cX2_signsIn 27 = .ok (.ldc2_w 25, 3) := by decide +kernel
theorem dX2_signsIn_30 : decode cX2_signsIn 30 = .ok (.lcmp, 1) := by decide +kernel
theorem dX2_signsIn_31 : decode cX2_signsIn 31 = .ok (.ifCond .lt 12, 3) := by decide +kernel
theorem dX2_signsIn_34 : decode cX2_signsIn 34 = .ok (.lload 5, 2) := by decide +kernel
theorem dX2_signsIn_36 : decode cX2_signsIn 36 = .ok (.ldc2_w 27, 3) := by decide +kernel
theorem dX2_signsIn_39 : decode cX2_signsIn 39 = .ok (.lcmp, 1) := by decide +kernel
theorem dX2_signsIn_40 : decode cX2_signsIn 40 = .ok (.ifCond .le 5, 3) := by decide +kernel
theorem dX2_signsIn_43 : decode cX2_signsIn 43 = .ok (.iconst 0, 1) := by decide +kernel
theorem dX2_signsIn_44 : decode cX2_signsIn 44 = .ok (.ireturn, 1) := by decide +kernel
theorem dX2_signsIn_45 : decode cX2_signsIn 45 = .ok (.lload_n 2, 1) := by decide +kernel
theorem dX2_signsIn_46 : decode cX2_signsIn 46 = .ok (.bipush 8, 2) := by decide +kernel
theorem dX2_signsIn_48 : decode cX2_signsIn 48 = .ok (.lushr, 1) := by decide +kernel
theorem dX2_signsIn_49 : decode cX2_signsIn 49 = .ok (.lstore_n 2, 1) := by decide +kernel
theorem dX2_signsIn_50 : decode cX2_signsIn 50 = .ok (.iinc 4 1, 3) := by decide +kernel
theorem dX2_signsIn_53 : decode cX2_signsIn 53 = .ok (.goto (-48), 3) := by decide +kernel
theorem dX2_signsIn_56 : decode cX2_signsIn 56 = .ok (.iload 4, 2) := by decide +kernel
theorem dX2_signsIn_58 : decode cX2_signsIn 58 = .ok (.ireturn, 1) := by decide +kernel
theorem dX2_empty_0 : decode cX2_empty 0 = .ok (.aload_n 0, 1) := by decide +kernel
theorem dX2_empty_1 : decode cX2_empty 1 = .ok (.getfield 15, 3) := by decide +kernel
theorem dX2_empty_4 : decode cX2_empty 4 = .ok (.istore_n 1, 1) := by decide +kernel
theorem dX2_empty_5 : decode cX2_empty 5 = .ok (.aload_n 0, 1) := by decide +kernel
theorem dX2_empty_6 : decode cX2_empty 6 = .ok (.iconst 0, 1) := by decide +kernel
theorem dX2_empty_7 : decode cX2_empty 7 = .ok (.putfield 15, 3) := by decide +kernel
theorem dX2_empty_10 : decode cX2_empty 10 = .ok (.iload_n 1, 1) := by decide +kernel
theorem dX2_empty_11 : decode cX2_empty 11 = .ok (.ireturn, 1) := by decide +kernel
theorem dX2_signAt_0 : decode cX2_signAt 0 = .ok (.iload_n 1, 1) := by decide +kernel
theorem dX2_signAt_1 : decode cX2_signAt 1 = .ok (.ifCond .lt 20, 3) := by decide +kernel
theorem dX2_signAt_4 : decode cX2_signAt 4 = .ok (.iload_n 1, 1) := by decide +kernel
theorem dX2_signAt_5 : decode cX2_signAt 5 = .ok (.aload_n 0, 1) := by decide +kernel
theorem dX2_signAt_6 : decode cX2_signAt 6 = .ok (.getfield 15, 3) := by decide +kernel
theorem dX2_signAt_9 : decode cX2_signAt 9 = .ok (.if_icmp .ge 12, 3) := by decide +kernel
theorem dX2_signAt_12 : decode cX2_signAt 12 = .ok (.aload_n 0, 1) := by decide +kernel
theorem dX2_signAt_13 : decode cX2_signAt 13 = .ok (.getfield 9, 3) := by decide +kernel
theorem dX2_signAt_16 : decode cX2_signAt 16 = .ok (.iload_n 1, 1) := by decide +kernel
theorem dX2_signAt_17 : decode cX2_signAt 17 = .ok (.iaload, 1) := by decide +kernel
theorem dX2_signAt_18 : decode cX2_signAt 18 = .ok (.goto 4, 3) := by decide +kernel
theorem dX2_signAt_21 : decode cX2_signAt 21 = .ok (.iconst 0, 1) := by decide +kernel
theorem dX2_signAt_22 : decode cX2_signAt 22 = .ok (.ireturn, 1) := by decide +kernel
theorem dX3_init_0 : decode cX3_init 0 = .ok (.aload_n 0, 1) := by decide +kernel
theorem dX3_init_1 : decode cX3_init 1 = .ok (.invokespecial 3, 3) := by decide +kernel
theorem dX3_init_4 : decode cX3_init 4 = .ok (.aload_n 0, 1) := by decide +kernel
theorem dX3_init_5 : decode cX3_init 5 = .ok (.bipush 16, 2) := by decide +kernel
theorem dX3_init_7 : decode cX3_init 7 = .ok (.newarray .int, 2) := by decide +kernel
theorem dX3_init_9 : decode cX3_init 9 = .ok (.putfield 9, 3) := by decide +kernel
theorem dX3_init_12 : decode cX3_init 12 = .ok (.aload_n 0, 1) := by decide +kernel
theorem dX3_init_13 : decode cX3_init 13 = .ok (.bipush 16, 2) := by decide +kernel
theorem dX3_init_15 : decode cX3_init 15 = .ok (.newarray .int, 2) := by decide +kernel
theorem dX3_init_17 : decode cX3_init 17 = .ok (.putfield 15, 3) := by decide +kernel
theorem dX3_init_20 : decode cX3_init 20 = .ok (.aload_n 0, 1) := by decide +kernel
theorem dX3_init_21 : decode cX3_init 21 = .ok (.bipush 16, 2) := by decide +kernel
theorem dX3_init_23 : decode cX3_init 23 = .ok (.newarray .int, 2) := by decide +kernel
theorem dX3_init_25 : decode cX3_init 25 = .ok (.putfield 18, 3) := by decide +kernel
theorem dX3_init_28 : decode cX3_init 28 = .ok (.aload_n 0, 1) := by decide +kernel
theorem dX3_init_29 : decode cX3_init 29 = .ok (.iconst 0, 1) := by decide +kernel
theorem dX3_init_30 : decode cX3_init 30 = .ok (.putfield 21, 3) := by decide +kernel
theorem dX3_init_33 : decode cX3_init 33 = .ok (.return_, 1) := by decide +kernel
theorem dX3_copyFrom_0 : decode cX3_copyFrom 0 = .ok (.aload_n 0, 1) := by decide +kernel
theorem dX3_copyFrom_1 : decode cX3_copyFrom 1 = .ok (.aload_n 1, 1) := by decide +kernel
theorem dX3_copyFrom_2 : decode cX3_copyFrom 2 = .ok (.getfield 21, 3) := by decide +kernel
theorem dX3_copyFrom_5 : decode cX3_copyFrom 5 = .ok (.putfield 21, 3) := by decide +kernel
theorem dX3_copyFrom_8 : decode cX3_copyFrom 8 = .ok (.aload_n 1, 1) := by decide +kernel
theorem dX3_copyFrom_9 : decode cX3_copyFrom 9 = .ok (.getfield 9, 3) := by decide +kernel
theorem dX3_copyFrom_12 : decode cX3_copyFrom 12 = .ok (.iconst 0, 1) := by decide +kernel
theorem dX3_copyFrom_13 : decode cX3_copyFrom 13 = .ok (.aload_n 0, 1) := by decide +kernel
theorem dX3_copyFrom_14 : decode cX3_copyFrom 14 = .ok (.getfield 9, 3) := by decide +kernel
theorem dX3_copyFrom_17 : decode cX3_copyFrom 17 = .ok (.iconst 0, 1) := by decide +kernel
theorem dX3_copyFrom_18 : decode cX3_copyFrom 18 = .ok (.aload_n 0, 1) := by decide +kernel
theorem dX3_copyFrom_19 : decode cX3_copyFrom 19 = .ok (.getfield 21, 3) := by decide +kernel
theorem dX3_copyFrom_22 : decode cX3_copyFrom 22 = .ok (.invokestatic 25, 3) := by decide +kernel
theorem dX3_copyFrom_25 : decode cX3_copyFrom 25 = .ok (.aload_n 1, 1) := by decide +kernel
theorem dX3_copyFrom_26 : decode cX3_copyFrom 26 = .ok (.getfield 15, 3) := by decide +kernel
theorem dX3_copyFrom_29 : decode cX3_copyFrom 29 = .ok (.iconst 0, 1) := by decide +kernel
theorem dX3_copyFrom_30 : decode cX3_copyFrom 30 = .ok (.aload_n 0, 1) := by decide +kernel
theorem dX3_copyFrom_31 : decode cX3_copyFrom 31 = .ok (.getfield 15, 3) := by decide +kernel
theorem dX3_copyFrom_34 : decode cX3_copyFrom 34 = .ok (.iconst 0, 1) := by decide +kernel
theorem dX3_copyFrom_35 : decode cX3_copyFrom 35 = .ok (.aload_n 0, 1) := by decide +kernel
theorem dX3_copyFrom_36 : decode cX3_copyFrom 36 = .ok (.getfield 21, 3) := by decide +kernel
theorem dX3_copyFrom_39 : decode cX3_copyFrom 39 = .ok (.invokestatic 25, 3) := by decide +kernel
theorem dX3_copyFrom_42 : decode cX3_copyFrom 42 = .ok (.aload_n 1, 1) := by decide +kernel
theorem dX3_copyFrom_43 : decode cX3_copyFrom 43 = .ok (.getfield 18, 3) := by decide +kernel
theorem dX3_copyFrom_46 : decode cX3_copyFrom 46 = .ok (.iconst 0, 1) := by decide +kernel
theorem dX3_copyFrom_47 : decode cX3_copyFrom 47 = .ok (.aload_n 0, 1) := by decide +kernel
theorem dX3_copyFrom_48 : decode cX3_copyFrom 48 = .ok (.getfield 18, 3) := by decide +kernel
theorem dX3_copyFrom_51 : decode cX3_copyFrom 51 = .ok (.iconst 0, 1) := by decide +kernel
theorem dX3_copyFrom_52 : decode cX3_copyFrom 52 = .ok (.aload_n 0, 1) := by decide +kernel
theorem dX3_copyFrom_53 : decode cX3_copyFrom 53 = .ok (.getfield 21, 3) := by decide +kernel
theorem dX3_copyFrom_56 : decode cX3_copyFrom 56 = .ok (.invokestatic 25, 3) := by decide +kernel
theorem dX3_copyFrom_59 : decode cX3_copyFrom 59 = .ok (.return_, 1) := by decide +kernel
theorem dX3_insert_0 : decode cX3_insert 0 = .ok (.aload_n 0, 1) := by decide +kernel
theorem dX3_insert_1 : decode cX3_insert 1 = .ok (.getfield 21, 3) := by decide +kernel
theorem dX3_insert_4 : decode cX3_insert 4 = .ok (.bipush 16, 2) := by decide +kernel
theorem dX3_insert_6 : decode cX3_insert 6 = .ok (.if_icmp .lt 4, 3) := by decide +kernel
theorem dX3_insert_9 : decode cX3_insert 9 = .ok (.return_, 1) := by decide +kernel
theorem dX3_insert_10 : decode cX3_insert 10 = .ok (.aload_n 0, 1) := by decide +kernel
theorem dX3_insert_11 : decode cX3_insert 11 = .ok (.getfield 21, 3) := by decide +kernel
theorem dX3_insert_14 : decode cX3_insert 14 = .ok (.istore 4, 2) := by decide +kernel
theorem dX3_insert_16 : decode cX3_insert 16 = .ok (.iload 4, 2) := by decide +kernel
theorem dX3_insert_18 : decode cX3_insert 18 = .ok (.ifCond .le 32, 3) := by decide +kernel
theorem dX3_insert_21 : decode cX3_insert 21 = .ok (.aload_n 0, 1) := by decide +kernel
theorem dX3_insert_22 : decode cX3_insert 22 = .ok (.iload 4, 2) := by decide +kernel
theorem dX3_insert_24 : decode cX3_insert 24 = .ok (.iconst 1, 1) := by decide +kernel
theorem dX3_insert_25 : decode cX3_insert 25 = .ok (.isub, 1) := by decide +kernel
theorem dX3_insert_26 : decode cX3_insert 26 = .ok (.iload_n 1, 1) := by decide +kernel
theorem dX3_insert_27 : decode cX3_insert 27 = .ok (.iload_n 2, 1) := by decide +kernel
theorem dX3_insert_28 : decode cX3_insert 28 = .ok (.invokevirtual 31, 3) := by decide +kernel
theorem dX3_insert_31 : decode cX3_insert 31 = .ok (.ifCond .eq 19, 3) := by decide +kernel
theorem dX3_insert_34 : decode cX3_insert 34 = .ok (.aload_n 0, 1) := by decide +kernel
theorem dX3_insert_35 : decode cX3_insert 35 = .ok (.iload 4, 2) := by decide +kernel
theorem dX3_insert_37 : decode cX3_insert 37 = .ok (.iconst 1, 1) := by decide +kernel
theorem dX3_insert_38 : decode cX3_insert 38 = .ok (.isub, 1) := by decide +kernel
theorem dX3_insert_39 : decode cX3_insert 39 = .ok (.iload 4, 2) := by decide +kernel
theorem dX3_insert_41 : decode cX3_insert 41 = .ok (.invokevirtual 35, 3) := by decide +kernel
theorem dX3_insert_44 : decode cX3_insert 44 = .ok (.iinc 4 (-1), 3) := by decide +kernel
theorem dX3_insert_47 : decode cX3_insert 47 = .ok (.goto (-31), 3) := by decide +kernel
theorem dX3_insert_50 : decode cX3_insert 50 = .ok (.aload_n 0, 1) := by decide +kernel
theorem dX3_insert_51 : decode cX3_insert 51 = .ok (.getfield 9, 3) := by decide +kernel
theorem dX3_insert_54 : decode cX3_insert 54 = .ok (.iload 4, 2) := by decide +kernel
theorem dX3_insert_56 : decode cX3_insert 56 = .ok (.iload_n 1, 1) := by decide +kernel
theorem dX3_insert_57 : decode cX3_insert 57 = .ok (.iastore, 1) := by decide +kernel
theorem dX3_insert_58 : decode cX3_insert 58 = .ok (.aload_n 0, 1) := by decide +kernel
theorem dX3_insert_59 : decode cX3_insert 59 = .ok (.getfield 15, 3) := by decide +kernel
theorem dX3_insert_62 : decode cX3_insert 62 = .ok (.iload 4, 2) := by decide +kernel
theorem dX3_insert_64 : decode cX3_insert 64 = .ok (.iload_n 2, 1) := by decide +kernel
theorem dX3_insert_65 : decode cX3_insert 65 = .ok (.iastore, 1) := by decide +kernel
theorem dX3_insert_66 : decode cX3_insert 66 = .ok (.aload_n 0, 1) := by decide +kernel
theorem dX3_insert_67 : decode cX3_insert 67 = .ok (.getfield 18, 3) := by decide +kernel
theorem dX3_insert_70 : decode cX3_insert 70 = .ok (.iload 4, 2) := by decide +kernel
theorem dX3_insert_72 : decode cX3_insert 72 = .ok (.iload_n 3, 1) := by decide +kernel
theorem dX3_insert_73 : decode cX3_insert 73 = .ok (.iastore, 1) := by decide +kernel
theorem dX3_insert_74 : decode cX3_insert 74 = .ok (.aload_n 0, 1) := by decide +kernel
theorem dX3_insert_75 : decode cX3_insert 75 = .ok (.dup, 1) := by decide +kernel
theorem dX3_insert_76 : decode cX3_insert 76 = .ok (.getfield 21, 3) := by decide +kernel
theorem dX3_insert_79 : decode cX3_insert 79 = .ok (.iconst 1, 1) := by decide +kernel
theorem dX3_insert_80 : decode cX3_insert 80 = .ok (.iadd, 1) := by decide +kernel
theorem dX3_insert_81 : decode cX3_insert 81 = .ok (.putfield 21, 3) := by decide +kernel
theorem dX3_insert_84 : decode cX3_insert 84 = .ok (.return_, 1) := by decide +kernel
theorem dX3_isLater_0 : decode cX3_isLater 0 = .ok (.aload_n 0, 1) := by decide +kernel
theorem dX3_isLater_1 : decode cX3_isLater 1 = .ok (.getfield 9, 3) := by decide +kernel
theorem dX3_isLater_4 : decode cX3_isLater 4 = .ok (.iload_n 1, 1) := by decide +kernel
theorem dX3_isLater_5 : decode cX3_isLater 5 = .ok (.iaload, 1) := by decide +kernel
theorem dX3_isLater_6 : decode cX3_isLater 6 = .ok (.iload_n 2, 1) := by decide +kernel
theorem dX3_isLater_7 : decode cX3_isLater 7 = .ok (.if_icmp .eq 19, 3) := by decide +kernel
theorem dX3_isLater_10 : decode cX3_isLater 10 = .ok (.aload_n 0, 1) := by decide +kernel
theorem dX3_isLater_11 : decode cX3_isLater 11 = .ok (.getfield 9, 3) := by decide +kernel
theorem dX3_isLater_14 : decode cX3_isLater 14 = .ok (.iload_n 1, 1) := by decide +kernel
theorem dX3_isLater_15 : decode cX3_isLater 15 = .ok (.iaload, 1) := by decide +kernel
theorem dX3_isLater_16 : decode cX3_isLater 16 = .ok (.iload_n 2, 1) := by decide +kernel
theorem dX3_isLater_17 : decode cX3_isLater 17 = .ok (.if_icmp .le 7, 3) := by decide +kernel
theorem dX3_isLater_20 : decode cX3_isLater 20 = .ok (.iconst 1, 1) := by decide +kernel
theorem dX3_isLater_21 : decode cX3_isLater 21 = .ok (.goto 4, 3) := by decide +kernel
theorem dX3_isLater_24 : decode cX3_isLater 24 = .ok (.iconst 0, 1) := by decide +kernel
theorem dX3_isLater_25 : decode cX3_isLater 25 = .ok (.ireturn, 1) := by decide +kernel
theorem dX3_isLater_26 : decode cX3_isLater 26 = .ok (.aload_n 0, 1) := by decide +kernel
theorem dX3_isLater_27 : decode cX3_isLater 27 = .ok (.getfield 15, 3) := by decide +kernel
theorem dX3_isLater_30 : decode cX3_isLater 30 = .ok (.iload_n 1, 1) := by decide +kernel
theorem dX3_isLater_31 : decode cX3_isLater 31 = .ok (.iaload, 1) := by decide +kernel
theorem dX3_isLater_32 : decode cX3_isLater 32 = .ok (.iload_n 3, 1) := by decide +kernel
theorem dX3_isLater_33 : decode cX3_isLater 33 = .ok (.if_icmp .le 7, 3) := by decide +kernel
theorem dX3_isLater_36 : decode cX3_isLater 36 = .ok (.iconst 1, 1) := by decide +kernel
theorem dX3_isLater_37 : decode cX3_isLater 37 = .ok (.goto 4, 3) := by decide +kernel
theorem dX3_isLater_40 : decode cX3_isLater 40 = .ok (.iconst 0, 1) := by decide +kernel
theorem dX3_isLater_41 : decode cX3_isLater 41 = .ok (.ireturn, 1) := by decide +kernel
theorem dX3_removeFirst_0 : decode cX3_removeFirst 0 = .ok (.aload_n 0, 1) := by decide +kernel
theorem dX3_removeFirst_1 : decode cX3_removeFirst 1 = .ok (.getfield 21, 3) := by decide +kernel
theorem dX3_removeFirst_4 : decode cX3_removeFirst 4 = .ok (.ifCond .ne 4, 3) := by decide +kernel
theorem dX3_removeFirst_7 : decode cX3_removeFirst 7 = .ok (.return_, 1) := by decide +kernel
theorem dX3_removeFirst_8 : decode cX3_removeFirst 8 = .ok (.iconst 1, 1) := by decide +kernel
theorem dX3_removeFirst_9 : decode cX3_removeFirst 9 = .ok (.istore_n 1, 1) := by decide +kernel
theorem dX3_removeFirst_10 : decode cX3_removeFirst 10 = .ok (.iload_n 1, 1) := by decide +kernel
theorem dX3_removeFirst_11 : decode cX3_removeFirst 11 = .ok (.aload_n 0, 1) := by decide +kernel
theorem dX3_removeFirst_12 : decode cX3_removeFirst 12 = .ok (.getfield 21, 3) := by decide +kernel
theorem dX3_removeFirst_15 : decode cX3_removeFirst 15 = .ok (.if_icmp .ge 17, 3) := by decide +kernel
theorem dX3_removeFirst_18 : decode cX3_removeFirst 18 = .ok (.aload_n 0, 1) := by decide +kernel
theorem dX3_removeFirst_19 : decode cX3_removeFirst 19 = .ok (.iload_n 1, 1) := by decide +kernel
theorem dX3_removeFirst_20 : decode cX3_removeFirst 20 = .ok (.iload_n 1, 1) := by decide +kernel
theorem dX3_removeFirst_21 : decode cX3_removeFirst 21 = .ok (.iconst 1, 1) := by decide +kernel
theorem dX3_removeFirst_22 : decode cX3_removeFirst 22 = .ok (.isub, 1) := by decide +kernel
theorem dX3_removeFirst_23 : decode cX3_removeFirst 23 = .ok (.invokevirtual 35, 3) := by decide +kernel
theorem dX3_removeFirst_26 : decode cX3_removeFirst 26 = .ok (.iinc 1 1, 3) := by decide +kernel
theorem dX3_removeFirst_29 : decode cX3_removeFirst 29 = .ok (.goto (-19), 3) := by decide +kernel
theorem dX3_removeFirst_32 : decode cX3_removeFirst 32 = .ok (.aload_n 0, 1) := by decide +kernel
theorem dX3_removeFirst_33 : decode cX3_removeFirst 33 = .ok (.dup, 1) := by decide +kernel
theorem dX3_removeFirst_34 : decode cX3_removeFirst 34 = .ok (.getfield 21, 3) := by decide +kernel
theorem dX3_removeFirst_37 : decode cX3_removeFirst 37 = .ok (.iconst 1, 1) := by decide +kernel
theorem dX3_removeFirst_38 : decode cX3_removeFirst 38 = .ok (.isub, 1) := by decide +kernel
theorem dX3_removeFirst_39 : decode cX3_removeFirst 39 = .ok (.putfield 21, 3) := by decide +kernel
theorem dX3_removeFirst_42 : decode cX3_removeFirst 42 = .ok (.return_, 1) := by decide +kernel
theorem dX3_move_0 : decode cX3_move 0 = .ok (.aload_n 0, 1) := by decide +kernel
theorem dX3_move_1 : decode cX3_move 1 = .ok (.getfield 9, 3) := by decide +kernel
theorem dX3_move_4 : decode cX3_move 4 = .ok (.iload_n 2, 1) := by decide +kernel
theorem dX3_move_5 : decode cX3_move 5 = .ok (.aload_n 0, 1) := by decide +kernel
theorem dX3_move_6 : decode cX3_move 6 = .ok (.getfield 9, 3) := by decide +kernel
theorem dX3_move_9 : decode cX3_move 9 = .ok (.iload_n 1, 1) := by decide +kernel
theorem dX3_move_10 : decode cX3_move 10 = .ok (.iaload, 1) := by decide +kernel
theorem dX3_move_11 : decode cX3_move 11 = .ok (.iastore, 1) := by decide +kernel
theorem dX3_move_12 : decode cX3_move 12 = .ok (.aload_n 0, 1) := by decide +kernel
theorem dX3_move_13 : decode cX3_move 13 = .ok (.getfield 15, 3) := by decide +kernel
theorem dX3_move_16 : decode cX3_move 16 = .ok (.iload_n 2, 1) := by decide +kernel
theorem dX3_move_17 : decode cX3_move 17 = .ok (.aload_n 0, 1) := by decide +kernel
theorem dX3_move_18 : decode cX3_move 18 = .ok (.getfield 15, 3) := by decide +kernel
theorem dX3_move_21 : decode cX3_move 21 = .ok (.iload_n 1, 1) := by decide +kernel
theorem dX3_move_22 : decode cX3_move 22 = .ok (.iaload, 1) := by decide +kernel
theorem dX3_move_23 : decode cX3_move 23 = .ok (.iastore, 1) := by decide +kernel
theorem dX3_move_24 : decode cX3_move 24 = .ok (.aload_n 0, 1) := by decide +kernel
theorem dX3_move_25 : decode cX3_move 25 = .ok (.getfield 18, 3) := by decide +kernel
theorem dX3_move_28 : decode cX3_move 28 = .ok (.iload_n 2, 1) := by decide +kernel
theorem dX3_move_29 : decode cX3_move 29 = .ok (.aload_n 0, 1) := by decide +kernel
theorem dX3_move_30 : decode cX3_move 30 = .ok (.getfield 18, 3) := by decide +kernel
theorem dX3_move_33 : decode cX3_move 33 = .ok (.iload_n 1, 1) := by decide +kernel
theorem dX3_move_34 : decode cX3_move 34 = .ok (.iaload, 1) := by decide +kernel
theorem dX3_move_35 : decode cX3_move 35 = .ok (.iastore, 1) := by decide +kernel
theorem dX3_move_36 : decode cX3_move 36 = .ok (.return_, 1) := by decide +kernel
theorem dX3_firstTurn_0 : decode cX3_firstTurn 0 = .ok (.aload_n 0, 1) := by decide +kernel
theorem dX3_firstTurn_1 : decode cX3_firstTurn 1 = .ok (.getfield 21, 3) := by decide +kernel
theorem dX3_firstTurn_4 : decode cX3_firstTurn 4 = .ok (.ifCond .ne 8, 3) := by decide +kernel
theorem dX3_firstTurn_7 : decode cX3_firstTurn 7 = .ok (.bipush (-6), 2) := by decide +kernel
theorem dX3_firstTurn_9 : decode cX3_firstTurn 9 = .ok (.goto 9, 3) := by decide +kernel
theorem dX3_firstTurn_12 : decode cX3_firstTurn 12 = .ok (.aload_n 0, 1) := by decide +kernel
theorem dX3_firstTurn_13 : decode cX3_firstTurn 13 = .ok (.getfield 9, 3) := by decide +kernel
theorem dX3_firstTurn_16 : decode cX3_firstTurn 16 = .ok (.iconst 0, 1) := by decide +kernel
theorem dX3_firstTurn_17 : decode cX3_firstTurn 17 = .ok (.iaload, 1) := by decide +kernel
theorem dX3_firstTurn_18 : decode cX3_firstTurn 18 = .ok (.ireturn, 1) := by decide +kernel
theorem dX3_lastTurn_0 : decode cX3_lastTurn 0 = .ok (.aload_n 0, 1) := by decide +kernel
theorem dX3_lastTurn_1 : decode cX3_lastTurn 1 = .ok (.getfield 21, 3) := by decide +kernel
theorem dX3_lastTurn_4 : decode cX3_lastTurn 4 = .ok (.ifCond .ne 8, 3) := by decide +kernel
theorem dX3_lastTurn_7 : decode cX3_lastTurn 7 = .ok (.bipush (-6), 2) := by decide +kernel
theorem dX3_lastTurn_9 : decode cX3_lastTurn 9 = .ok (.goto 14, 3) := by decide +kernel
theorem dX3_lastTurn_12 : decode cX3_lastTurn 12 = .ok (.aload_n 0, 1) := by decide +kernel
theorem dX3_lastTurn_13 : decode cX3_lastTurn 13 = .ok (.getfield 9, 3) := by decide +kernel
theorem dX3_lastTurn_16 : decode cX3_lastTurn 16 = .ok (.aload_n 0, 1) := by decide +kernel
theorem dX3_lastTurn_17 : decode cX3_lastTurn 17 = .ok (.getfield 21, 3) := by decide +kernel
theorem dX3_lastTurn_20 : decode cX3_lastTurn 20 = .ok (.iconst 1, 1) := by decide +kernel
theorem dX3_lastTurn_21 : decode cX3_lastTurn 21 = .ok (.isub, 1) := by decide +kernel
theorem dX3_lastTurn_22 : decode cX3_lastTurn 22 = .ok (.iaload, 1) := by decide +kernel
theorem dX3_lastTurn_23 : decode cX3_lastTurn 23 = .ok (.ireturn, 1) := by decide +kernel
theorem dX4_init_0 : decode cX4_init 0 = .ok (.aload_n 0, 1) := by decide +kernel
theorem dX4_init_1 : decode cX4_init 1 = .ok (.invokespecial 3, 3) := by decide +kernel
theorem dX4_init_4 : decode cX4_init 4 = .ok (.aload_n 0, 1) := by decide +kernel
theorem dX4_init_5 : decode cX4_init 5 = .ok (.iconst 4, 1) := by decide +kernel
theorem dX4_init_6 : decode cX4_init 6 = .ok (.newarray .int, 2) := by decide +kernel
theorem dX4_init_8 : decode cX4_init 8 = .ok (.putfield 9, 3) := by decide +kernel
theorem dX4_init_11 : decode cX4_init 11 = .ok (.aload_n 0, 1) := by decide +kernel
theorem dX4_init_12 : decode cX4_init 12 = .ok (.iconst 0, 1) := by decide +kernel
theorem dX4_init_13 : decode cX4_init 13 = .ok (.putfield 15, 3) := by decide +kernel
theorem dX4_init_16 : decode cX4_init 16 = .ok (.aload_n 0, 1) := by decide +kernel
theorem dX4_init_17 : decode cX4_init 17 = .ok (.iconst 0, 1) := by decide +kernel
theorem dX4_init_18 : decode cX4_init 18 = .ok (.putfield 19, 3) := by decide +kernel
theorem dX4_init_21 : decode cX4_init 21 = .ok (.aload_n 0, 1) := by decide +kernel
theorem dX4_init_22 : decode cX4_init 22 = .ok (.iconst 0, 1) := by decide +kernel
theorem dX4_init_23 : decode cX4_init 23 = .ok (.putfield 22, 3) := by decide +kernel
theorem dX4_init_26 : decode cX4_init 26 = .ok (.aload_n 0, 1) := by decide +kernel
theorem dX4_init_27 : decode cX4_init 27 = .ok (.iconst 0, 1) := by decide +kernel
theorem dX4_init_28 : decode cX4_init 28 = .ok (.putfield 25, 3) := by decide +kernel
theorem dX4_init_31 : decode cX4_init 31 = .ok (.aload_n 0, 1) := by decide +kernel
theorem dX4_init_32 : decode cX4_init 32 = .ok (.bipush 6, 2) := by decide +kernel
theorem dX4_init_34 : decode cX4_init 34 = .ok (.newarray .int, 2) := by decide +kernel
theorem dX4_init_36 : decode cX4_init 36 = .ok (.putfield 28, 3) := by decide +kernel
theorem dX4_init_39 : decode cX4_init 39 = .ok (.aload_n 0, 1) := by decide +kernel
theorem dX4_init_40 : decode cX4_init 40 = .ok (.bipush 6, 2) := by decide +kernel
theorem dX4_init_42 : decode cX4_init 42 = .ok (.newarray .int, 2) := by decide +kernel
theorem dX4_init_44 : decode cX4_init 44 = .ok (.putfield 31, 3) := by decide +kernel
theorem dX4_init_47 : decode cX4_init 47 = .ok (.aload_n 0, 1) := by decide +kernel
theorem dX4_init_48 : decode cX4_init 48 = .ok (.bipush 6, 2) := by decide +kernel
theorem dX4_init_50 : decode cX4_init 50 = .ok (.newarray .int, 2) := by decide +kernel
theorem dX4_init_52 : decode cX4_init 52 = .ok (.putfield 34, 3) := by decide +kernel
theorem dX4_init_55 : decode cX4_init 55 = .ok (.aload_n 0, 1) := by decide +kernel
theorem dX4_init_56 : decode cX4_init 56 = .ok (.bipush 6, 2) := by decide +kernel
theorem dX4_init_58 : decode cX4_init 58 = .ok (.newarray .int, 2) := by decide +kernel
theorem dX4_init_60 : decode cX4_init 60 = .ok (.putfield 37, 3) := by decide +kernel
theorem dX4_init_63 : decode cX4_init 63 = .ok (.aload_n 0, 1) := by decide +kernel
theorem dX4_init_64 : decode cX4_init 64 = .ok (.bipush 6, 2) := by decide +kernel
theorem dX4_init_66 : decode cX4_init 66 = .ok (.newarray .int, 2) := by decide +kernel
theorem dX4_init_68 : decode cX4_init 68 = .ok (.putfield 40, 3) := by decide +kernel
theorem dX4_init_71 : decode cX4_init 71 = .ok (.aload_n 0, 1) := by decide +kernel
theorem dX4_init_72 : decode cX4_init 72 = .ok (.bipush 6, 2) := by decide +kernel
theorem dX4_init_74 : decode cX4_init 74 = .ok (.newarray .int, 2) := by decide +kernel
theorem dX4_init_76 : decode cX4_init 76 = .ok (.putfield 43, 3) := by decide +kernel
theorem dX4_init_79 : decode cX4_init 79 = .ok (.aload_n 0, 1) := by decide +kernel
theorem dX4_init_80 : decode cX4_init 80 = .ok (.bipush 6, 2) := by decide +kernel
theorem dX4_init_82 : decode cX4_init 82 = .ok (.newarray .int, 2) := by decide +kernel
theorem dX4_init_84 : decode cX4_init 84 = .ok (.putfield 46, 3) := by decide +kernel
theorem dX4_init_87 : decode cX4_init 87 = .ok (.aload_n 0, 1) := by decide +kernel
theorem dX4_init_88 : decode cX4_init 88 = .ok (.new 49, 3) := by decide +kernel
theorem dX4_init_91 : decode cX4_init 91 = .ok (.dup, 1) := by decide +kernel
theorem dX4_init_92 : decode cX4_init 92 = .ok (.invokespecial 51, 3) := by decide +kernel
theorem dX4_init_95 : decode cX4_init 95 = .ok (.putfield 52, 3) := by decide +kernel
theorem dX4_init_98 : decode cX4_init 98 = .ok (.aload_n 0, 1) := by decide +kernel
theorem dX4_init_99 : decode cX4_init 99 = .ok (.new 56, 3) := by decide +kernel
theorem dX4_init_102 : decode cX4_init 102 = .ok (.dup, 1) := by decide +kernel
theorem dX4_init_103 : decode cX4_init 103 = .ok (.invokespecial 58, 3) := by decide +kernel
theorem dX4_init_106 : decode cX4_init 106 = .ok (.putfield 59, 3) := by decide +kernel
theorem dX4_init_109 : decode cX4_init 109 = .ok (.getstatic 63, 3) := by decide +kernel
theorem dX4_init_112 : decode cX4_init 112 = .ok (.iconst 0, 1) := by decide +kernel
theorem dX4_init_113 : decode cX4_init 113 = .ok (.aload_n 0, 1) := by decide +kernel
theorem dX4_init_114 : decode cX4_init 114 = .ok (.getfield 9, 3) := by decide +kernel
theorem dX4_init_117 : decode cX4_init 117 = .ok (.iconst 0, 1) := by decide +kernel
theorem dX4_init_118 : decode cX4_init 118 = .ok (.iconst 4, 1) := by decide +kernel
theorem dX4_init_119 : decode cX4_init 119 = .ok (.invokestatic 66, 3) := by decide +kernel
theorem dX4_init_122 : decode cX4_init 122 = .ok (.return_, 1) := by decide +kernel
theorem dX4_copyFrom_0 : decode cX4_copyFrom 0 = .ok (.aload_n 1, 1) := by decide +kernel
theorem dX4_copyFrom_1 : decode cX4_copyFrom 1 = .ok (.getfield 9, 3) := by decide +kernel
theorem dX4_copyFrom_4 : decode cX4_copyFrom 4 = .ok (.iconst 0, 1) := by decide +kernel
theorem dX4_copyFrom_5 : decode cX4_copyFrom 5 = .ok (.aload_n 0, 1) := by decide +kernel
theorem dX4_copyFrom_6 : decode cX4_copyFrom 6 = .ok (.getfield 9, 3) := by decide +kernel
theorem dX4_copyFrom_9 : decode cX4_copyFrom 9 = .ok (.iconst 0, 1) := by decide +kernel
theorem dX4_copyFrom_10 : decode cX4_copyFrom 10 = .ok (.iconst 4, 1) := by decide +kernel
theorem dX4_copyFrom_11 : decode cX4_copyFrom 11 = .ok (.invokestatic 66, 3) := by decide +kernel
theorem dX4_copyFrom_14 : decode cX4_copyFrom 14 = .ok (.aload_n 0, 1) := by decide +kernel
theorem dX4_copyFrom_15 : decode cX4_copyFrom 15 = .ok (.aload_n 1, 1) := by decide +kernel
theorem dX4_copyFrom_16 : decode cX4_copyFrom 16 = .ok (.getfield 15, 3) := by decide +kernel
theorem dX4_copyFrom_19 : decode cX4_copyFrom 19 = .ok (.putfield 15, 3) := by decide +kernel
theorem dX4_copyFrom_22 : decode cX4_copyFrom 22 = .ok (.aload_n 0, 1) := by decide +kernel
theorem dX4_copyFrom_23 : decode cX4_copyFrom 23 = .ok (.aload_n 1, 1) := by decide +kernel
theorem dX4_copyFrom_24 : decode cX4_copyFrom 24 = .ok (.getfield 19, 3) := by decide +kernel
theorem dX4_copyFrom_27 : decode cX4_copyFrom 27 = .ok (.putfield 19, 3) := by decide +kernel
theorem dX4_copyFrom_30 : decode cX4_copyFrom 30 = .ok (.aload_n 0, 1) := by decide +kernel
theorem dX4_copyFrom_31 : decode cX4_copyFrom 31 = .ok (.aload_n 1, 1) := by decide +kernel
theorem dX4_copyFrom_32 : decode cX4_copyFrom 32 = .ok (.getfield 22, 3) := by decide +kernel
theorem dX4_copyFrom_35 : decode cX4_copyFrom 35 = .ok (.putfield 22, 3) := by decide +kernel
theorem dX4_copyFrom_38 : decode cX4_copyFrom 38 = .ok (.aload_n 0, 1) := by decide +kernel
theorem dX4_copyFrom_39 : decode cX4_copyFrom 39 = .ok (.aload_n 1, 1) := by decide +kernel
theorem dX4_copyFrom_40 : decode cX4_copyFrom 40 = .ok (.getfield 25, 3) := by decide +kernel
theorem dX4_copyFrom_43 : decode cX4_copyFrom 43 = .ok (.putfield 25, 3) := by decide +kernel
theorem dX4_copyFrom_46 : decode cX4_copyFrom 46 = .ok (.aload_n 1, 1) := by decide +kernel
theorem dX4_copyFrom_47 : decode cX4_copyFrom 47 = .ok (.getfield 28, 3) := by decide +kernel
theorem dX4_copyFrom_50 : decode cX4_copyFrom 50 = .ok (.iconst 0, 1) := by decide +kernel
theorem dX4_copyFrom_51 : decode cX4_copyFrom 51 = .ok (.aload_n 0, 1) := by decide +kernel
theorem dX4_copyFrom_52 : decode cX4_copyFrom 52 = .ok (.getfield 28, 3) := by decide +kernel
theorem dX4_copyFrom_55 : decode cX4_copyFrom 55 = .ok (.iconst 0, 1) := by decide +kernel
theorem dX4_copyFrom_56 : decode cX4_copyFrom 56 = .ok (.bipush 6, 2) := by decide +kernel
theorem dX4_copyFrom_58 : decode cX4_copyFrom 58 = .ok (.invokestatic 66, 3) := by decide +kernel
theorem dX4_copyFrom_61 : decode cX4_copyFrom 61 = .ok (.aload_n 1, 1) := by decide +kernel
theorem dX4_copyFrom_62 : decode cX4_copyFrom 62 = .ok (.getfield 31, 3) := by decide +kernel
theorem dX4_copyFrom_65 : decode cX4_copyFrom 65 = .ok (.iconst 0, 1) := by decide +kernel
theorem dX4_copyFrom_66 : decode cX4_copyFrom 66 = .ok (.aload_n 0, 1) := by decide +kernel
theorem dX4_copyFrom_67 : decode cX4_copyFrom 67 = .ok (.getfield 31, 3) := by decide +kernel
theorem dX4_copyFrom_70 : decode cX4_copyFrom 70 = .ok (.iconst 0, 1) := by decide +kernel
theorem dX4_copyFrom_71 : decode cX4_copyFrom 71 = .ok (.bipush 6, 2) := by decide +kernel
theorem dX4_copyFrom_73 : decode cX4_copyFrom 73 = .ok (.invokestatic 66, 3) := by decide +kernel
theorem dX4_copyFrom_76 : decode cX4_copyFrom 76 = .ok (.aload_n 1, 1) := by decide +kernel
theorem dX4_copyFrom_77 : decode cX4_copyFrom 77 = .ok (.getfield 34, 3) := by decide +kernel
theorem dX4_copyFrom_80 : decode cX4_copyFrom 80 = .ok (.iconst 0, 1) := by decide +kernel
theorem dX4_copyFrom_81 : decode cX4_copyFrom 81 = .ok (.aload_n 0, 1) := by decide +kernel
theorem dX4_copyFrom_82 : decode cX4_copyFrom 82 = .ok (.getfield 34, 3) := by decide +kernel
theorem dX4_copyFrom_85 : decode cX4_copyFrom 85 = .ok (.iconst 0, 1) := by decide +kernel
theorem dX4_copyFrom_86 : decode cX4_copyFrom 86 = .ok (.bipush 6, 2) := by decide +kernel
theorem dX4_copyFrom_88 : decode cX4_copyFrom 88 = .ok (.invokestatic 66, 3) := by decide +kernel
theorem dX4_copyFrom_91 : decode cX4_copyFrom 91 = .ok (.aload_n 1, 1) := by decide +kernel
theorem dX4_copyFrom_92 : decode cX4_copyFrom 92 = .ok (.getfield 37, 3) := by decide +kernel
theorem dX4_copyFrom_95 : decode cX4_copyFrom 95 = .ok (.iconst 0, 1) := by decide +kernel
theorem dX4_copyFrom_96 : decode cX4_copyFrom 96 = .ok (.aload_n 0, 1) := by decide +kernel
theorem dX4_copyFrom_97 : decode cX4_copyFrom 97 = .ok (.getfield 37, 3) := by decide +kernel
theorem dX4_copyFrom_100 : decode cX4_copyFrom 100 = .ok (.iconst 0, 1) := by decide +kernel
theorem dX4_copyFrom_101 : decode cX4_copyFrom 101 = .ok (.bipush 6, 2) := by decide +kernel
theorem dX4_copyFrom_103 : decode cX4_copyFrom 103 = .ok (.invokestatic 66, 3) := by decide +kernel
theorem dX4_copyFrom_106 : decode cX4_copyFrom 106 = .ok (.aload_n 1, 1) := by decide +kernel
theorem dX4_copyFrom_107 : decode cX4_copyFrom 107 = .ok (.getfield 40, 3) := by decide +kernel
theorem dX4_copyFrom_110 : decode cX4_copyFrom 110 = .ok (.iconst 0, 1) := by decide +kernel
theorem dX4_copyFrom_111 : decode cX4_copyFrom 111 = .ok (.aload_n 0, 1) := by decide +kernel
theorem dX4_copyFrom_112 : decode cX4_copyFrom 112 = .ok (.getfield 40, 3) := by decide +kernel
theorem dX4_copyFrom_115 : decode cX4_copyFrom 115 = .ok (.iconst 0, 1) := by decide +kernel
theorem dX4_copyFrom_116 : decode cX4_copyFrom 116 = .ok (.bipush 6, 2) := by decide +kernel
theorem dX4_copyFrom_118 : decode cX4_copyFrom 118 = .ok (.invokestatic 66, 3) := by decide +kernel
theorem dX4_copyFrom_121 : decode cX4_copyFrom 121 = .ok (.aload_n 1, 1) := by decide +kernel
theorem dX4_copyFrom_122 : decode cX4_copyFrom 122 = .ok (.getfield 43, 3) := by decide +kernel
theorem dX4_copyFrom_125 : decode cX4_copyFrom 125 = .ok (.iconst 0, 1) := by decide +kernel
theorem dX4_copyFrom_126 : decode cX4_copyFrom 126 = .ok (.aload_n 0, 1) := by decide +kernel
theorem dX4_copyFrom_127 : decode cX4_copyFrom 127 = .ok (.getfield 43, 3) := by decide +kernel
theorem dX4_copyFrom_130 : decode cX4_copyFrom 130 = .ok (.iconst 0, 1) := by decide +kernel
theorem dX4_copyFrom_131 : decode cX4_copyFrom 131 = .ok (.bipush 6, 2) := by decide +kernel
theorem dX4_copyFrom_133 : decode cX4_copyFrom 133 = .ok (.invokestatic 66, 3) := by decide +kernel
theorem dX4_copyFrom_136 : decode cX4_copyFrom 136 = .ok (.aload_n 1, 1) := by decide +kernel
theorem dX4_copyFrom_137 : decode cX4_copyFrom 137 = .ok (.getfield 46, 3) := by decide +kernel
theorem dX4_copyFrom_140 : decode cX4_copyFrom 140 = .ok (.iconst 0, 1) := by decide +kernel
theorem dX4_copyFrom_141 : decode cX4_copyFrom 141 = .ok (.aload_n 0, 1) := by decide +kernel
theorem dX4_copyFrom_142 : decode cX4_copyFrom 142 = .ok (.getfield 46, 3) := by decide +kernel
theorem dX4_copyFrom_145 : decode cX4_copyFrom 145 = .ok (.iconst 0, 1) := by decide +kernel
theorem dX4_copyFrom_146 : decode cX4_copyFrom 146 = .ok (.bipush 6, 2) := by decide +kernel
theorem dX4_copyFrom_148 : decode cX4_copyFrom 148 = .ok (.invokestatic 66, 3) := by decide +kernel
theorem dX4_copyFrom_151 : decode cX4_copyFrom 151 = .ok (.aload_n 0, 1) := by decide +kernel
theorem dX4_copyFrom_152 : decode cX4_copyFrom 152 = .ok (.getfield 52, 3) := by decide +kernel
theorem dX4_copyFrom_155 : decode cX4_copyFrom 155 = .ok (.aload_n 1, 1) := by decide +kernel
theorem dX4_copyFrom_156 : decode cX4_copyFrom 156 = .ok (.getfield 52, 3) := by decide +kernel
theorem dX4_copyFrom_159 : decode cX4_copyFrom 159 = .ok (.invokevirtual 72, 3) := by decide +kernel
theorem dX4_copyFrom_162 : decode cX4_copyFrom 162 = .ok (.aload_n 0, 1) := by decide +kernel
theorem dX4_copyFrom_163 : decode cX4_copyFrom 163 = .ok (.getfield 59, 3) := by decide +kernel
theorem dX4_copyFrom_166 : decode cX4_copyFrom 166 = .ok (.aload_n 1, 1) := by decide +kernel
theorem dX4_copyFrom_167 : decode cX4_copyFrom 167 = .ok (.getfield 59, 3) := by decide +kernel
theorem dX4_copyFrom_170 : decode cX4_copyFrom 170 = .ok (.invokevirtual 76, 3) := by decide +kernel
theorem dX4_copyFrom_173 : decode cX4_copyFrom 173 = .ok (.return_, 1) := by decide +kernel
theorem dX4_hasKitten_0 : decode cX4_hasKitten 0 = .ok (.iload_n 1, 1) := by decide +kernel
theorem dX4_hasKitten_1 : decode cX4_hasKitten 1 = .ok (.ifCond .lt 15, 3) := by decide +kernel
theorem dX4_hasKitten_4 : decode cX4_hasKitten 4 = .ok (.iload_n 1, 1) := by decide +kernel
theorem dX4_hasKitten_5 : decode cX4_hasKitten 5 = .ok (.aload_n 0, 1) := by decide +kernel
theorem dX4_hasKitten_6 : decode cX4_hasKitten 6 = .ok (.getfield 19, 3) := by decide +kernel
theorem dX4_hasKitten_9 : decode cX4_hasKitten 9 = .ok (.if_icmp .ge 7, 3) := by decide +kernel
theorem dX4_hasKitten_12 : decode cX4_hasKitten 12 = .ok (.iconst 1, 1) := by decide +kernel
theorem dX4_hasKitten_13 : decode cX4_hasKitten 13 = .ok (.goto 4, 3) := by decide +kernel
theorem dX4_hasKitten_16 : decode cX4_hasKitten 16 = .ok (.iconst 0, 1) := by decide +kernel
theorem dX4_hasKitten_17 : decode cX4_hasKitten 17 = .ok (.ireturn, 1) := by decide +kernel
theorem dX4_changeSetting_0 : decode cX4_changeSetting 0 = .ok (.iload_n 1, 1) := by decide +kernel
theorem dX4_changeSetting_1 : decode cX4_changeSetting 1 = .ok (.ifCond .lt 8, 3) := by decide +kernel
theorem dX4_changeSetting_4 : decode cX4_changeSetting 4 = .ok (.iload_n 1, 1) := by decide +kernel
theorem dX4_changeSetting_5 : decode cX4_changeSetting 5 = .ok (.iconst 4, 1) := by decide +kernel
theorem dX4_changeSetting_6 : decode cX4_changeSetting 6 = .ok (.if_icmp .lt 6, 3) := by decide +kernel
theorem dX4_changeSetting_9 : decode cX4_changeSetting 9 = .ok (.bipush (-2), 2) := by decide +kernel
theorem dX4_changeSetting_11 : decode cX4_changeSetting 11 = .ok (.ireturn, 1) := by decide +kernel
theorem dX4_changeSetting_12 : decode cX4_changeSetting 12 = .ok (.iload_n 2, 1) := by decide +kernel
theorem dX4_changeSetting_13 : decode cX4_changeSetting 13 = .ok (.getstatic 79, 3) := by decide +kernel
theorem dX4_changeSetting_16 : decode cX4_changeSetting 16 = .ok (.iload_n 1, 1) := by decide +kernel
theorem dX4_changeSetting_17 : decode cX4_changeSetting 17 = .ok (.iaload, 1) := by decide +kernel
theorem dX4_changeSetting_18 : decode cX4_changeSetting 18 = .ok (.if_icmp .lt 12, 3) := by decide +kernel
theorem dX4_changeSetting_21 : decode cX4_changeSetting 21 = .ok (.iload_n 2, 1) := by decide +kernel
theorem dX4_changeSetting_22 : decode cX4_changeSetting 22 = .ok (.getstatic 82, 3) := by decide +kernel
theorem dX4_changeSetting_25 : decode cX4_changeSetting 25 = .ok (.iload_n 1, 1) := by decide +kernel
theorem dX4_changeSetting_26 : decode cX4_changeSetting 26 = .ok (.iaload, 1) := by decide +kernel
theorem dX4_changeSetting_27 : decode cX4_changeSetting 27 = .ok (.if_icmp .le 6, 3) := by decide +kernel
theorem dX4_changeSetting_30 : decode cX4_changeSetting 30 = .ok (.bipush (-2), 2) := by decide +kernel
theorem dX4_changeSetting_32 : decode cX4_changeSetting 32 = .ok (.ireturn, 1) := by decide +kernel
theorem dX4_changeSetting_33 : decode cX4_changeSetting 33 = .ok (.aload_n 0, 1) := by decide +kernel
theorem dX4_changeSetting_34 : decode cX4_changeSetting 34 = .ok (.getfield 9, 3) := by decide +kernel
theorem dX4_changeSetting_37 : decode cX4_changeSetting 37 = .ok (.iload_n 1, 1) := by decide +kernel
theorem dX4_changeSetting_38 : decode cX4_changeSetting 38 = .ok (.iaload, 1) := by decide +kernel
theorem dX4_changeSetting_39 : decode cX4_changeSetting 39 = .ok (.istore_n 3, 1) := by decide +kernel
theorem dX4_changeSetting_40 : decode cX4_changeSetting 40 = .ok (.aload_n 0, 1) := by decide +kernel
theorem dX4_changeSetting_41 : decode cX4_changeSetting 41 = .ok (.getfield 9, 3) := by decide +kernel
theorem dX4_changeSetting_44 : decode cX4_changeSetting 44 = .ok (.iload_n 1, 1) := by decide +kernel
theorem dX4_changeSetting_45 : decode cX4_changeSetting 45 = .ok (.iload_n 2, 1) := by decide +kernel
theorem dX4_changeSetting_46 : decode cX4_changeSetting 46 = .ok (.iastore, 1) := by decide +kernel
theorem dX4_changeSetting_47 : decode cX4_changeSetting 47 = .ok (.iload_n 3, 1) := by decide +kernel
theorem dX4_changeSetting_48 : decode cX4_changeSetting 48 = .ok (.ireturn, 1) := by decide +kernel
theorem dX4_addKitten_0 : decode cX4_addKitten 0 = .ok (.iload_n 1, 1) := by decide +kernel
theorem dX4_addKitten_1 : decode cX4_addKitten 1 = .ok (.ifCond .lt 9, 3) := by decide +kernel
theorem dX4_addKitten_4 : decode cX4_addKitten 4 = .ok (.iload_n 1, 1) := by decide +kernel
theorem dX4_addKitten_5 : decode cX4_addKitten 5 = .ok (.bipush 16, 2) := by decide +kernel
theorem dX4_addKitten_7 : decode cX4_addKitten 7 = .ok (.if_icmp .lt 5, 3) := by decide +kernel
theorem dX4_addKitten_10 : decode cX4_addKitten 10 = .ok (.iconst (-1), 1) := by decide +kernel
theorem dX4_addKitten_11 : decode cX4_addKitten 11 = .ok (.ireturn, 1) := by decide +kernel
theorem dX4_addKitten_12 : decode cX4_addKitten 12 = .ok (.aload_n 0, 1) := by decide +kernel
theorem dX4_addKitten_13 : decode cX4_addKitten 13 = .ok (.getfield 19, 3) := by decide +kernel
theorem dX4_addKitten_16 : decode cX4_addKitten 16 = .ok (.bipush 6, 2) := by decide +kernel
theorem dX4_addKitten_18 : decode cX4_addKitten 18 = .ok (.if_icmp .lt 6, 3) := by decide +kernel
theorem dX4_addKitten_21 : decode cX4_addKitten 21 = .ok (.bipush (-4), 2) := by decide +kernel
theorem dX4_addKitten_23 : decode cX4_addKitten 23 = .ok (.ireturn, 1) := by decide +kernel
theorem dX4_addKitten_24 : decode cX4_addKitten 24 = .ok (.aload_n 0, 1) := by decide +kernel
theorem dX4_addKitten_25 : decode cX4_addKitten 25 = .ok (.getfield 19, 3) := by decide +kernel
theorem dX4_addKitten_28 : decode cX4_addKitten 28 = .ok (.istore_n 2, 1) := by decide +kernel
theorem dX4_addKitten_29 : decode cX4_addKitten 29 = .ok (.aload_n 0, 1) := by decide +kernel
theorem dX4_addKitten_30 : decode cX4_addKitten 30 = .ok (.getfield 28, 3) := by decide +kernel
theorem dX4_addKitten_33 : decode cX4_addKitten 33 = .ok (.iload_n 2, 1) := by decide +kernel
theorem dX4_addKitten_34 : decode cX4_addKitten 34 = .ok (.iload_n 1, 1) := by decide +kernel
theorem dX4_addKitten_35 : decode cX4_addKitten 35 = .ok (.iastore, 1) := by decide +kernel
theorem dX4_addKitten_36 : decode cX4_addKitten 36 = .ok (.aload_n 0, 1) := by decide +kernel
theorem dX4_addKitten_37 : decode cX4_addKitten 37 = .ok (.getfield 31, 3) := by decide +kernel
theorem dX4_addKitten_40 : decode cX4_addKitten 40 = .ok (.iload_n 2, 1) := by decide +kernel
theorem dX4_addKitten_41 : decode cX4_addKitten 41 = .ok (.aload_n 0, 1) := by decide +kernel
theorem dX4_addKitten_42 : decode cX4_addKitten 42 = .ok (.getfield 9, 3) := by decide +kernel
theorem dX4_addKitten_45 : decode cX4_addKitten 45 = .ok (.iconst 3, 1) := by decide +kernel
theorem dX4_addKitten_46 : decode cX4_addKitten 46 = .ok (.iaload, 1) := by decide +kernel
theorem dX4_addKitten_47 : decode cX4_addKitten 47 = .ok (.iastore, 1) := by decide +kernel
theorem dX4_addKitten_48 : decode cX4_addKitten 48 = .ok (.aload_n 0, 1) := by decide +kernel
theorem dX4_addKitten_49 : decode cX4_addKitten 49 = .ok (.getfield 34, 3) := by decide +kernel
theorem dX4_addKitten_52 : decode cX4_addKitten 52 = .ok (.iload_n 2, 1) := by decide +kernel
theorem dX4_addKitten_53 : decode cX4_addKitten 53 = .ok (.bipush (-6), 2) := by decide +kernel
theorem dX4_addKitten_55 : decode cX4_addKitten 55 = .ok (.iastore, 1) := by decide +kernel
theorem dX4_addKitten_56 : decode cX4_addKitten 56 = .ok (.aload_n 0, 1) := by decide +kernel
theorem dX4_addKitten_57 : decode cX4_addKitten 57 = .ok (.getfield 37, 3) := by decide +kernel
theorem dX4_addKitten_60 : decode cX4_addKitten 60 = .ok (.iload_n 2, 1) := by decide +kernel
theorem dX4_addKitten_61 : decode cX4_addKitten 61 = .ok (.bipush 40, 2) := by decide +kernel
theorem dX4_addKitten_63 : decode cX4_addKitten 63 = .ok (.iastore, 1) := by decide +kernel
theorem dX4_addKitten_64 : decode cX4_addKitten 64 = .ok (.aload_n 0, 1) := by decide +kernel
theorem dX4_addKitten_65 : decode cX4_addKitten 65 = .ok (.getfield 40, 3) := by decide +kernel
theorem dX4_addKitten_68 : decode cX4_addKitten 68 = .ok (.iload_n 2, 1) := by decide +kernel
theorem dX4_addKitten_69 : decode cX4_addKitten 69 = .ok (.iconst 0, 1) := by decide +kernel
theorem dX4_addKitten_70 : decode cX4_addKitten 70 = .ok (.iastore, 1) := by decide +kernel
theorem dX4_addKitten_71 : decode cX4_addKitten 71 = .ok (.aload_n 0, 1) := by decide +kernel
theorem dX4_addKitten_72 : decode cX4_addKitten 72 = .ok (.getfield 43, 3) := by decide +kernel
theorem dX4_addKitten_75 : decode cX4_addKitten 75 = .ok (.iload_n 2, 1) := by decide +kernel
theorem dX4_addKitten_76 : decode cX4_addKitten 76 = .ok (.iconst 0, 1) := by decide +kernel
theorem dX4_addKitten_77 : decode cX4_addKitten 77 = .ok (.iastore, 1) := by decide +kernel
theorem dX4_addKitten_78 : decode cX4_addKitten 78 = .ok (.aload_n 0, 1) := by decide +kernel
theorem dX4_addKitten_79 : decode cX4_addKitten 79 = .ok (.getfield 46, 3) := by decide +kernel
theorem dX4_addKitten_82 : decode cX4_addKitten 82 = .ok (.iload_n 2, 1) := by decide +kernel
theorem dX4_addKitten_83 : decode cX4_addKitten 83 = .ok (.iconst 0, 1) := by decide +kernel
theorem dX4_addKitten_84 : decode cX4_addKitten 84 = .ok (.iastore, 1) := by decide +kernel
theorem dX4_addKitten_85 : decode cX4_addKitten 85 = .ok (.aload_n 0, 1) := by decide +kernel
theorem dX4_addKitten_86 : decode cX4_addKitten 86 = .ok (.dup, 1) := by decide +kernel
theorem dX4_addKitten_87 : decode cX4_addKitten 87 = .ok (.getfield 19, 3) := by decide +kernel
theorem dX4_addKitten_90 : decode cX4_addKitten 90 = .ok (.iconst 1, 1) := by decide +kernel
theorem dX4_addKitten_91 : decode cX4_addKitten 91 = .ok (.iadd, 1) := by decide +kernel
theorem dX4_addKitten_92 : decode cX4_addKitten 92 = .ok (.putfield 19, 3) := by decide +kernel
theorem dX4_addKitten_95 : decode cX4_addKitten 95 = .ok (.iload_n 2, 1) := by decide +kernel
theorem dX4_addKitten_96 : decode cX4_addKitten 96 = .ok (.ireturn, 1) := by decide +kernel
theorem dX4_tryLeap_0 : decode cX4_tryLeap 0 = .ok (.aload_n 0, 1) := by decide +kernel
theorem dX4_tryLeap_1 : decode cX4_tryLeap 1 = .ok (.iload_n 1, 1) := by decide +kernel
theorem dX4_tryLeap_2 : decode cX4_tryLeap 2 = .ok (.invokevirtual 85, 3) := by decide +kernel
theorem dX4_tryLeap_5 : decode cX4_tryLeap 5 = .ok (.ifCond .ne 5, 3) := by decide +kernel
theorem dX4_tryLeap_8 : decode cX4_tryLeap 8 = .ok (.iconst (-1), 1) := by decide +kernel
theorem dX4_tryLeap_9 : decode cX4_tryLeap 9 = .ok (.ireturn, 1) := by decide +kernel
theorem dX4_tryLeap_10 : decode cX4_tryLeap 10 = .ok (.iload_n 2, 1) := by decide +kernel
theorem dX4_tryLeap_11 : decode cX4_tryLeap 11 = .ok (.invokestatic 89, 3) := by decide +kernel
theorem dX4_tryLeap_14 : decode cX4_tryLeap 14 = .ok (.ifCond .ne 6, 3) := by decide +kernel
theorem dX4_tryLeap_17 : decode cX4_tryLeap 17 = .ok (.bipush (-2), 2) := by decide +kernel
theorem dX4_tryLeap_19 : decode cX4_tryLeap 19 = .ok (.ireturn, 1) := by decide +kernel
theorem dX4_tryLeap_20 : decode cX4_tryLeap 20 = .ok (.aload_n 0, 1) := by decide +kernel
theorem dX4_tryLeap_21 : decode cX4_tryLeap 21 = .ok (.iload_n 1, 1) := by decide +kernel
theorem dX4_tryLeap_22 : decode cX4_tryLeap 22 = .ok (.iload_n 2, 1) := by decide +kernel
theorem dX4_tryLeap_23 : decode cX4_tryLeap 23 = .ok (.invokevirtual 92, 3) := by decide +kernel
theorem dX4_tryLeap_26 : decode cX4_tryLeap 26 = .ok (.ifCond .eq 6, 3) := by decide +kernel
theorem dX4_tryLeap_29 : decode cX4_tryLeap 29 = .ok (.bipush (-5), 2) := by decide +kernel
theorem dX4_tryLeap_31 : decode cX4_tryLeap 31 = .ok (.ireturn, 1) := by decide +kernel
theorem dX4_tryLeap_32 : decode cX4_tryLeap 32 = .ok (.aload_n 0, 1) := by decide +kernel
theorem dX4_tryLeap_33 : decode cX4_tryLeap 33 = .ok (.iload_n 1, 1) := by decide +kernel
theorem dX4_tryLeap_34 : decode cX4_tryLeap 34 = .ok (.iload_n 2, 1) := by decide +kernel
theorem dX4_tryLeap_35 : decode cX4_tryLeap 35 = .ok (.invokevirtual 96, 3) := by decide +kernel
theorem dX4_tryLeap_38 : decode cX4_tryLeap 38 = .ok (.aload_n 0, 1) := by decide +kernel
theorem dX4_tryLeap_39 : decode cX4_tryLeap 39 = .ok (.getfield 28, 3) := by decide +kernel
theorem dX4_tryLeap_42 : decode cX4_tryLeap 42 = .ok (.iload_n 1, 1) := by decide +kernel
theorem dX4_tryLeap_43 : decode cX4_tryLeap 43 = .ok (.iaload, 1) := by decide +kernel
theorem dX4_tryLeap_44 : decode cX4_tryLeap 44 = .ok (.ireturn, 1) := by decide +kernel
theorem dX4_beginNap_0 : decode cX4_beginNap 0 = .ok (.aload_n 0, 1) := by decide +kernel
theorem dX4_beginNap_1 : decode cX4_beginNap 1 = .ok (.iload_n 1, 1) := by decide +kernel
theorem dX4_beginNap_2 : decode cX4_beginNap 2 = .ok (.invokevirtual 85, 3) := by decide +kernel
theorem dX4_beginNap_5 : decode cX4_beginNap 5 = .ok (.ifCond .ne 5, 3) := by decide +kernel
theorem dX4_beginNap_8 : decode cX4_beginNap 8 = .ok (.iconst (-1), 1) := by decide +kernel
theorem dX4_beginNap_9 : decode cX4_beginNap 9 = .ok (.ireturn, 1) := by decide +kernel
theorem dX4_beginNap_10 : decode cX4_beginNap 10 = .ok (.aload_n 0, 1) := by decide +kernel
theorem dX4_beginNap_11 : decode cX4_beginNap 11 = .ok (.iload_n 1, 1) := by decide +kernel
theorem dX4_beginNap_12 : decode cX4_beginNap 12 = .ok (.invokevirtual 100, 3) := by decide +kernel
theorem dX4_beginNap_15 : decode cX4_beginNap 15 = .ok (.ifCond .eq 6, 3) := by decide +kernel
theorem dX4_beginNap_18 : decode cX4_beginNap 18 = .ok (.bipush (-5), 2) := by decide +kernel
theorem dX4_beginNap_20 : decode cX4_beginNap 20 = .ok (.ireturn, 1) := by decide +kernel
theorem dX4_beginNap_21 : decode cX4_beginNap 21 = .ok (.aload_n 0, 1) := by decide +kernel
theorem dX4_beginNap_22 : decode cX4_beginNap 22 = .ok (.getfield 34, 3) := by decide +kernel
theorem dX4_beginNap_25 : decode cX4_beginNap 25 = .ok (.iload_n 1, 1) := by decide +kernel
theorem dX4_beginNap_26 : decode cX4_beginNap 26 = .ok (.aload_n 0, 1) := by decide +kernel
theorem dX4_beginNap_27 : decode cX4_beginNap 27 = .ok (.getfield 15, 3) := by decide +kernel
theorem dX4_beginNap_30 : decode cX4_beginNap 30 = .ok (.aload_n 0, 1) := by decide +kernel
theorem dX4_beginNap_31 : decode cX4_beginNap 31 = .ok (.getfield 9, 3) := by decide +kernel
theorem dX4_beginNap_34 : decode cX4_beginNap 34 = .ok (.iconst 2, 1) := by decide +kernel
theorem dX4_beginNap_35 : decode cX4_beginNap 35 = .ok (.iaload, 1) := by decide +kernel
theorem dX4_beginNap_36 : decode cX4_beginNap 36 = .ok (.iadd, 1) := by decide +kernel
theorem dX4_beginNap_37 : decode cX4_beginNap 37 = .ok (.iastore, 1) := by decide +kernel
theorem dX4_beginNap_38 : decode cX4_beginNap 38 = .ok (.aload_n 0, 1) := by decide +kernel
theorem dX4_beginNap_39 : decode cX4_beginNap 39 = .ok (.getfield 34, 3) := by decide +kernel
theorem dX4_beginNap_42 : decode cX4_beginNap 42 = .ok (.iload_n 1, 1) := by decide +kernel
theorem dX4_beginNap_43 : decode cX4_beginNap 43 = .ok (.iaload, 1) := by decide +kernel
theorem dX4_beginNap_44 : decode cX4_beginNap 44 = .ok (.ireturn, 1) := by decide +kernel
theorem dX4_snipStrands_0 : decode cX4_snipStrands 0 = .ok (.iload_n 1, 1) := by decide +kernel
theorem dX4_snipStrands_1 : decode cX4_snipStrands 1 = .ok (.invokestatic 103, 3) := by decide +kernel
theorem dX4_snipStrands_4 : decode cX4_snipStrands 4 = .ok (.ifCond .eq 11, 3) := by decide +kernel
theorem dX4_snipStrands_7 : decode cX4_snipStrands 7 = .ok (.aload_n 0, 1) := by decide +kernel
theorem dX4_snipStrands_8 : decode cX4_snipStrands 8 = .ok (.iload_n 2, 1) := by decide +kernel
theorem dX4_snipStrands_9 : decode cX4_snipStrands 9 = .ok (.invokevirtual 85, 3) := by decide +kernel
theorem dX4_snipStrands_12 : decode cX4_snipStrands 12 = .ok (.ifCond .ne 5, 3) := by decide +kernel
theorem dX4_snipStrands_15 : decode cX4_snipStrands 15 = .ok (.iconst (-1), 1) := by decide +kernel
theorem dX4_snipStrands_16 : decode cX4_snipStrands 16 = .ok (.ireturn, 1) := by decide +kernel
theorem dX4_snipStrands_17 : decode cX4_snipStrands 17 = .ok (.aload_n 0, 1) := by decide +kernel
theorem dX4_snipStrands_18 : decode cX4_snipStrands 18 = .ok (.getfield 52, 3) := by decide +kernel
theorem dX4_snipStrands_21 : decode cX4_snipStrands 21 = .ok (.iload_n 1, 1) := by decide +kernel
theorem dX4_snipStrands_22 : decode cX4_snipStrands 22 = .ok (.iload_n 2, 1) := by decide +kernel
theorem dX4_snipStrands_23 : decode cX4_snipStrands 23 = .ok (.invokevirtual 106, 3) := by decide +kernel
theorem dX4_snipStrands_26 : decode cX4_snipStrands 26 = .ok (.istore_n 3, 1) := by decide +kernel
theorem dX4_snipStrands_27 : decode cX4_snipStrands 27 = .ok (.iload_n 3, 1) := by decide +kernel
theorem dX4_snipStrands_28 : decode cX4_snipStrands 28 = .ok (.ifCond .ne 6, 3) := by decide +kernel
theorem dX4_snipStrands_31 : decode cX4_snipStrands 31 = .ok (.bipush (-5), 2) := by decide +kernel
theorem dX4_snipStrands_33 : decode cX4_snipStrands 33 = .ok (.ireturn, 1) := by decide +kernel
theorem dX4_snipStrands_34 : decode cX4_snipStrands 34 = .ok (.aload_n 0, 1) := by decide +kernel
theorem dX4_snipStrands_35 : decode cX4_snipStrands 35 = .ok (.getfield 46, 3) := by decide +kernel
theorem dX4_snipStrands_38 : decode cX4_snipStrands 38 = .ok (.iload_n 2, 1) := by decide +kernel
theorem dX4_snipStrands_39 : decode cX4_snipStrands 39 = .ok (.dup2, 1) := by decide +kernel
theorem dX4_snipStrands_40 : decode cX4_snipStrands 40 = .ok (.iaload, 1) := by decide +kernel
theorem dX4_snipStrands_41 : decode cX4_snipStrands 41 = .ok (.iload_n 3, 1) := by decide +kernel
theorem dX4_snipStrands_42 : decode cX4_snipStrands 42 = .ok (.iadd, 1) := by decide +kernel
theorem dX4_snipStrands_43 : decode cX4_snipStrands 43 = .ok (.iastore, 1) := by decide +kernel
theorem dX4_snipStrands_44 : decode cX4_snipStrands 44 = .ok (.iload_n 3, 1) := by decide +kernel
theorem dX4_snipStrands_45 : decode cX4_snipStrands 45 = .ok (.ireturn, 1) := by decide +kernel
theorem dX4_planLeap_0 : decode cX4_planLeap 0 = .ok (.aload_n 0, 1) := by decide +kernel
theorem dX4_planLeap_1 : decode cX4_planLeap 1 = .ok (.iload_n 2, 1) := by decide +kernel
theorem dX4_planLeap_2 : decode cX4_planLeap 2 = .ok (.invokevirtual 85, 3) := by decide +kernel
theorem dX4_planLeap_5 : decode cX4_planLeap 5 = .ok (.ifCond .ne 5, 3) := by decide +kernel
theorem dX4_planLeap_8 : decode cX4_planLeap 8 = .ok (.iconst (-1), 1) := by decide +kernel
theorem dX4_planLeap_9 : decode cX4_planLeap 9 = .ok (.ireturn, 1) := by decide +kernel
theorem dX4_planLeap_10 : decode cX4_planLeap 10 = .ok (.iload_n 1, 1) := by decide +kernel
theorem dX4_planLeap_11 : decode cX4_planLeap 11 = .ok (.iconst 1, 1) := by decide +kernel
theorem dX4_planLeap_12 : decode cX4_planLeap 12 = .ok (.if_icmp .lt 16, 3) := by decide +kernel
theorem dX4_planLeap_15 : decode cX4_planLeap 15 = .ok (.iload_n 1, 1) := by decide +kernel
theorem dX4_planLeap_16 : decode cX4_planLeap 16 = .ok (.bipush 99, 2) := by decide +kernel
theorem dX4_planLeap_18 : decode cX4_planLeap 18 = .ok (.if_icmp .gt 10, 3) := by decide +kernel
theorem dX4_planLeap_21 : decode cX4_planLeap 21 = .ok (.iload_n 3, 1) := by decide +kernel
theorem dX4_planLeap_22 : decode cX4_planLeap 22 = .ok (.invokestatic 89, 3) := by decide +kernel
theorem dX4_planLeap_25 : decode cX4_planLeap 25 = .ok (.ifCond .ne 6, 3) := by decide +kernel
theorem dX4_planLeap_28 : decode cX4_planLeap 28 = .ok (.bipush (-2), 2) := by decide +kernel
theorem dX4_planLeap_30 : decode cX4_planLeap 30 = .ok (.ireturn, 1) := by decide +kernel
theorem dX4_planLeap_31 : decode cX4_planLeap 31 = .ok (.aload_n 0, 1) := by decide +kernel
theorem dX4_planLeap_32 : decode cX4_planLeap 32 = .ok (.getfield 59, 3) := by decide +kernel
theorem dX4_planLeap_35 : decode cX4_planLeap 35 = .ok (.getfield 109, 3) := by decide +kernel
theorem dX4_planLeap_38 : decode cX4_planLeap 38 = .ok (.bipush 16, 2) := by decide +kernel
theorem dX4_planLeap_40 : decode cX4_planLeap 40 = .ok (.if_icmp .lt 6, 3) := by decide +kernel
theorem dX4_planLeap_43 : decode cX4_planLeap 43 = .ok (.bipush (-4), 2) := by decide +kernel
theorem dX4_planLeap_45 : decode cX4_planLeap 45 = .ok (.ireturn, 1) := by decide +kernel
theorem dX4_planLeap_46 : decode cX4_planLeap 46 = .ok (.aload_n 0, 1) := by decide +kernel
theorem dX4_planLeap_47 : decode cX4_planLeap 47 = .ok (.getfield 59, 3) := by decide +kernel
theorem dX4_planLeap_50 : decode cX4_planLeap 50 = .ok (.aload_n 0, 1) := by decide +kernel
theorem dX4_planLeap_51 : decode cX4_planLeap 51 = .ok (.getfield 15, 3) := by decide +kernel
theorem dX4_planLeap_54 : decode cX4_planLeap 54 = .ok (.iload_n 1, 1) := by decide +kernel
theorem dX4_planLeap_55 : decode cX4_planLeap 55 = .ok (.iadd, 1) := by decide +kernel
theorem dX4_planLeap_56 : decode cX4_planLeap 56 = .ok (.iload_n 2, 1) := by decide +kernel
theorem dX4_planLeap_57 : decode cX4_planLeap 57 = .ok (.iload_n 3, 1) := by decide +kernel
theorem dX4_planLeap_58 : decode cX4_planLeap 58 = .ok (.invokevirtual 112, 3) := by decide +kernel
theorem dX4_planLeap_61 : decode cX4_planLeap 61 = .ok (.aload_n 0, 1) := by decide +kernel
theorem dX4_planLeap_62 : decode cX4_planLeap 62 = .ok (.getfield 59, 3) := by decide +kernel
theorem dX4_planLeap_65 : decode cX4_planLeap 65 = .ok (.getfield 109, 3) := by decide +kernel
theorem dX4_planLeap_68 : decode cX4_planLeap 68 = .ok (.ireturn, 1) := by decide +kernel
theorem dX4_passTurns_0 : decode cX4_passTurns 0 = .ok (.iload_n 1, 1) := by decide +kernel
theorem dX4_passTurns_1 : decode cX4_passTurns 1 = .ok (.iconst 1, 1) := by decide +kernel
theorem dX4_passTurns_2 : decode cX4_passTurns 2 = .ok (.if_icmp .lt 9, 3) := by decide +kernel
theorem dX4_passTurns_5 : decode cX4_passTurns 5 = .ok (.iload_n 1, 1) := by decide +kernel
theorem dX4_passTurns_6 : decode cX4_passTurns 6 = .ok (.bipush 99, 2) := by decide +kernel
theorem dX4_passTurns_8 : decode cX4_passTurns 8 = .ok (.if_icmp .le 6, 3) := by decide +kernel
theorem dX4_passTurns_11 : decode cX4_passTurns 11 = .ok (.bipush (-2), 2) := by decide +kernel
theorem dX4_passTurns_13 : decode cX4_passTurns 13 = .ok (.ireturn, 1) := by decide +kernel
theorem dX4_passTurns_14 : decode cX4_passTurns 14 = .ok (.aload_n 0, 1) := by decide +kernel
theorem dX4_passTurns_15 : decode cX4_passTurns 15 = .ok (.getfield 15, 3) := by decide +kernel
theorem dX4_passTurns_18 : decode cX4_passTurns 18 = .ok (.iload_n 1, 1) := by decide +kernel
theorem dX4_passTurns_19 : decode cX4_passTurns 19 = .ok (.iadd, 1) := by decide +kernel
theorem dX4_passTurns_20 : decode cX4_passTurns 20 = .ok (.sipush 9999, 3) := by decide +kernel
theorem dX4_passTurns_23 : decode cX4_passTurns 23 = .ok (.if_icmp .le 6, 3) := by decide +kernel
theorem dX4_passTurns_26 : decode cX4_passTurns 26 = .ok (.bipush (-5), 2) := by decide +kernel
theorem dX4_passTurns_28 : decode cX4_passTurns 28 = .ok (.ireturn, 1) := by decide +kernel
theorem dX4_passTurns_29 : decode cX4_passTurns 29 = .ok (.iconst 0, 1) := by decide +kernel
theorem dX4_passTurns_30 : decode cX4_passTurns 30 = .ok (.istore_n 2, 1) := by decide +kernel
theorem dX4_passTurns_31 : decode cX4_passTurns 31 = .ok (.iconst 0, 1) := by decide +kernel
theorem dX4_passTurns_32 : decode cX4_passTurns 32 = .ok (.istore_n 3, 1) := by decide +kernel
theorem dX4_passTurns_33 : decode cX4_passTurns 33 = .ok (.iload_n 3, 1) := by decide +kernel
theorem dX4_passTurns_34 : decode cX4_passTurns 34 = .ok (.iload_n 1, 1) := by decide +kernel
theorem dX4_passTurns_35 : decode cX4_passTurns 35 = .ok (.if_icmp .ge 16, 3) := by decide +kernel
theorem dX4_passTurns_38 : decode cX4_passTurns 38 = .ok (.iload_n 2, 1) := by decide +kernel
theorem dX4_passTurns_39 : decode cX4_passTurns 39 = .ok (.aload_n 0, 1) := by decide +kernel
theorem dX4_passTurns_40 : decode cX4_passTurns 40 = .ok (.invokevirtual 116, 3) := by decide +kernel
theorem dX4_passTurns_43 : decode cX4_passTurns 43 = .ok (.iadd, 1) := by decide +kernel
theorem dX4_passTurns_44 : decode cX4_passTurns 44 = .ok (.istore_n 2, 1) := by decide +kernel
theorem dX4_passTurns_45 : decode cX4_passTurns 45 = .ok (.iinc 3 1, 3) := by decide +kernel
theorem dX4_passTurns_48 : decode cX4_passTurns 48 = .ok (.goto (-15), 3) := by decide +kernel
theorem dX4_passTurns_51 : decode cX4_passTurns 51 = .ok (.iload_n 2, 1) := by decide +kernel
theorem dX4_passTurns_52 : decode cX4_passTurns 52 = .ok (.ireturn, 1) := by decide +kernel
theorem dX4_passOneTurn_0 : decode cX4_passOneTurn 0 = .ok (.aload_n 0, 1) := by decide +kernel
theorem dX4_passOneTurn_1 : decode cX4_passOneTurn 1 = .ok (.dup, 1) := by decide +kernel
theorem dX4_passOneTurn_2 : decode cX4_passOneTurn 2 = .ok (.getfield 15, 3) := by decide +kernel
theorem dX4_passOneTurn_5 : decode cX4_passOneTurn 5 = .ok (.iconst 1, 1) := by decide +kernel
theorem dX4_passOneTurn_6 : decode cX4_passOneTurn 6 = .ok (.iadd, 1) := by decide +kernel
theorem dX4_passOneTurn_7 : decode cX4_passOneTurn 7 = .ok (.putfield 15, 3) := by decide +kernel
theorem dX4_passOneTurn_10 : decode cX4_passOneTurn 10 = .ok (.aload_n 0, 1) := by decide +kernel
theorem dX4_passOneTurn_11 : decode cX4_passOneTurn 11 = .ok (.invokevirtual 120, 3) := by decide +kernel
theorem dX4_passOneTurn_14 : decode cX4_passOneTurn 14 = .ok (.iconst 0, 1) := by decide +kernel
theorem dX4_passOneTurn_15 : decode cX4_passOneTurn 15 = .ok (.istore_n 1, 1) := by decide +kernel
theorem dX4_passOneTurn_16 : decode cX4_passOneTurn 16 = .ok (.iconst 0, 1) := by decide +kernel
theorem dX4_passOneTurn_17 : decode cX4_passOneTurn 17 = .ok (.istore_n 2, 1) := by decide +kernel
theorem dX4_passOneTurn_18 : decode cX4_passOneTurn 18 = .ok (.iload_n 2, 1) := by decide +kernel
theorem dX4_passOneTurn_19 : decode cX4_passOneTurn 19 = .ok (.bipush 16, 2) := by decide +kernel
theorem dX4_passOneTurn_21 : decode cX4_passOneTurn 21 = .ok (.if_icmp .ge 84, 3) := by decide +kernel
theorem dX4_passOneTurn_24 : decode cX4_passOneTurn 24 = .ok (.aload_n 0, 1) := by decide +kernel
theorem dX4_passOneTurn_25 : decode cX4_passOneTurn 25 = .ok (.getfield 59, 3) := by decide +kernel
theorem dX4_passOneTurn_28 : decode cX4_passOneTurn 28 = .ok (.invokevirtual 123, 3) := by decide +kernel
theorem dX4_passOneTurn_31 : decode cX4_passOneTurn 31 = .ok (.aload_n 0, 1) := by decide +kernel
theorem dX4_passOneTurn_32 : decode cX4_passOneTurn 32 = .ok (.getfield 15, 3) := by decide +kernel
theorem dX4_passOneTurn_35 : decode cX4_passOneTurn 35 = .ok (.if_icmp .ne 70, 3) := by decide +kernel
theorem dX4_passOneTurn_38 : decode cX4_passOneTurn 38 = .ok (.aload_n 0, 1) := by decide +kernel
theorem dX4_passOneTurn_39 : decode cX4_passOneTurn 39 = .ok (.getfield 59, 3) := by decide +kernel
theorem dX4_passOneTurn_42 : decode cX4_passOneTurn 42 = .ok (.getfield 126, 3) := by decide +kernel
theorem dX4_passOneTurn_45 : decode cX4_passOneTurn 45 = .ok (.iconst 0, 1) := by decide +kernel
theorem dX4_passOneTurn_46 : decode cX4_passOneTurn 46 = .ok (.iaload, 1) := by decide +kernel
theorem dX4_passOneTurn_47 : decode cX4_passOneTurn 47 = .ok (.istore_n 3, 1) := by decide +kernel
theorem dX4_passOneTurn_48 : decode cX4_passOneTurn 48 = .ok (.aload_n 0, 1) := by decide +kernel
theorem dX4_passOneTurn_49 : decode cX4_passOneTurn 49 = .ok (.getfield 59, 3) := by decide +kernel
theorem dX4_passOneTurn_52 : decode cX4_passOneTurn 52 = .ok (.getfield 128, 3) := by decide +kernel
theorem dX4_passOneTurn_55 : decode cX4_passOneTurn 55 = .ok (.iconst 0, 1) := by decide +kernel
theorem dX4_passOneTurn_56 : decode cX4_passOneTurn 56 = .ok (.iaload, 1) := by decide +kernel
theorem dX4_passOneTurn_57 : decode cX4_passOneTurn 57 = .ok (.istore 4, 2) := by decide +kernel
theorem dX4_passOneTurn_59 : decode cX4_passOneTurn 59 = .ok (.aload_n 0, 1) := by decide +kernel
theorem dX4_passOneTurn_60 : decode cX4_passOneTurn 60 = .ok (.getfield 59, 3) := by decide +kernel
theorem dX4_passOneTurn_63 : decode cX4_passOneTurn 63 = .ok (.invokevirtual 131, 3) := by decide +kernel
theorem dX4_passOneTurn_66 : decode cX4_passOneTurn 66 = .ok (.aload_n 0, 1) := by decide +kernel
theorem dX4_passOneTurn_67 : decode cX4_passOneTurn 67 = .ok (.iload_n 3, 1) := by decide +kernel
theorem dX4_passOneTurn_68 : decode cX4_passOneTurn 68 = .ok (.iload 4, 2) := by decide +kernel
theorem dX4_passOneTurn_70 : decode cX4_passOneTurn 70 = .ok (.invokevirtual 92, 3) := by decide +kernel
theorem dX4_passOneTurn_73 : decode cX4_passOneTurn 73 = .ok (.ifCond .ne 16, 3) := by decide +kernel
theorem dX4_passOneTurn_76 : decode cX4_passOneTurn 76 = .ok (.aload_n 0, 1) := by decide +kernel
theorem dX4_passOneTurn_77 : decode cX4_passOneTurn 77 = .ok (.iload_n 3, 1) := by decide +kernel
theorem dX4_passOneTurn_78 : decode cX4_passOneTurn 78 = .ok (.iload 4, 2) := by decide +kernel
theorem dX4_passOneTurn_80 : decode cX4_passOneTurn 80 = .ok (.invokevirtual 96, 3) := by decide +kernel
theorem dX4_passOneTurn_83 : decode cX4_passOneTurn 83 = .ok (.iinc 1 1, 3) := by decide +kernel
theorem dX4_passOneTurn_86 : decode cX4_passOneTurn 86 = .ok (.goto 13, 3) := by decide +kernel
theorem dX4_passOneTurn_89 : decode cX4_passOneTurn 89 = .ok (.aload_n 0, 1) := by decide +kernel
theorem dX4_passOneTurn_90 : decode cX4_passOneTurn 90 = .ok (.dup, 1) := by decide +kernel
theorem dX4_passOneTurn_91 : decode cX4_passOneTurn 91 = .ok (.getfield 25, 3) := by decide +kernel
theorem dX4_passOneTurn_94 : decode cX4_passOneTurn 94 = .ok (.iconst 1, 1) := by decide +kernel
theorem dX4_passOneTurn_95 : decode cX4_passOneTurn 95 = .ok (.iadd, 1) := by decide +kernel
theorem dX4_passOneTurn_96 : decode cX4_passOneTurn 96 = .ok (.putfield 25, 3) := by decide +kernel
theorem dX4_passOneTurn_99 : decode cX4_passOneTurn 99 = .ok (.iinc 2 1, 3) := by decide +kernel
theorem dX4_passOneTurn_102 : decode cX4_passOneTurn 102 = .ok (.goto (-84), 3) := by decide +kernel
theorem dX4_passOneTurn_105 : decode cX4_passOneTurn 105 = .ok (.aload_n 0, 1) := by decide +kernel
theorem dX4_passOneTurn_106 : decode cX4_passOneTurn 106 = .ok (.invokevirtual 134, 3) := by decide +kernel
theorem dX4_passOneTurn_109 : decode cX4_passOneTurn 109 = .ok (.iload_n 1, 1) := by decide +kernel
theorem dX4_passOneTurn_110 : decode cX4_passOneTurn 110 = .ok (.ireturn, 1) := by decide +kernel
theorem dX4_wakeKittens_0 : decode cX4_wakeKittens 0 = .ok (.iconst 0, 1) := by decide +kernel
theorem dX4_wakeKittens_1 : decode cX4_wakeKittens 1 = .ok (.istore_n 1, 1) := by decide +kernel
theorem dX4_wakeKittens_2 : decode cX4_wakeKittens 2 = .ok (.iload_n 1, 1) := by decide +kernel
theorem dX4_wakeKittens_3 : decode cX4_wakeKittens 3 = .ok (.aload_n 0, 1) := by decide +kernel
theorem dX4_wakeKittens_4 : decode cX4_wakeKittens 4 = .ok (.getfield 19, 3) := by decide +kernel
theorem dX4_wakeKittens_7 : decode cX4_wakeKittens 7 = .ok (.if_icmp .ge 42, 3) := by decide +kernel
theorem dX4_wakeKittens_10 : decode cX4_wakeKittens 10 = .ok (.aload_n 0, 1) := by decide +kernel
theorem dX4_wakeKittens_11 : decode cX4_wakeKittens 11 = .ok (.getfield 34, 3) := by decide +kernel
theorem dX4_wakeKittens_14 : decode cX4_wakeKittens 14 = .ok (.iload_n 1, 1) := by decide +kernel
theorem dX4_wakeKittens_15 : decode cX4_wakeKittens 15 = .ok (.iaload, 1) := by decide +kernel
theorem dX4_wakeKittens_16 : decode cX4_wakeKittens 16 = .ok (.aload_n 0, 1) := by decide +kernel
theorem dX4_wakeKittens_17 : decode cX4_wakeKittens 17 = .ok (.getfield 15, 3) := by decide +kernel
theorem dX4_wakeKittens_20 : decode cX4_wakeKittens 20 = .ok (.if_icmp .ne 23, 3) := by decide +kernel
theorem dX4_wakeKittens_23 : decode cX4_wakeKittens 23 = .ok (.aload_n 0, 1) := by decide +kernel
theorem dX4_wakeKittens_24 : decode cX4_wakeKittens 24 = .ok (.getfield 34, 3) := by decide +kernel
theorem dX4_wakeKittens_27 : decode cX4_wakeKittens 27 = .ok (.iload_n 1, 1) := by decide +kernel
theorem dX4_wakeKittens_28 : decode cX4_wakeKittens 28 = .ok (.bipush (-6), 2) := by decide +kernel
theorem dX4_wakeKittens_30 : decode cX4_wakeKittens 30 = .ok (.iastore, 1) := by decide +kernel
theorem dX4_wakeKittens_31 : decode cX4_wakeKittens 31 = .ok (.aload_n 0, 1) := by decide +kernel
theorem dX4_wakeKittens_32 : decode cX4_wakeKittens 32 = .ok (.getfield 31, 3) := by decide +kernel
theorem dX4_wakeKittens_35 : decode cX4_wakeKittens 35 = .ok (.iload_n 1, 1) := by decide +kernel
theorem dX4_wakeKittens_36 : decode cX4_wakeKittens 36 = .ok (.aload_n 0, 1) := by decide +kernel
theorem dX4_wakeKittens_37 : decode cX4_wakeKittens 37 = .ok (.getfield 9, 3) := by decide +kernel
theorem dX4_wakeKittens_40 : decode cX4_wakeKittens 40 = .ok (.iconst 3, 1) := by decide +kernel
theorem dX4_wakeKittens_41 : decode cX4_wakeKittens 41 = .ok (.iaload, 1) := by decide +kernel
theorem dX4_wakeKittens_42 : decode cX4_wakeKittens 42 = .ok (.iastore, 1) := by decide +kernel
theorem dX4_wakeKittens_43 : decode cX4_wakeKittens 43 = .ok (.iinc 1 1, 3) := by decide +kernel
theorem dX4_wakeKittens_46 : decode cX4_wakeKittens 46 = .ok (.goto (-44), 3) := by decide +kernel
theorem dX4_wakeKittens_49 : decode cX4_wakeKittens 49 = .ok (.return_, 1) := by decide +kernel
theorem dX4_refreshKittens_0 : decode cX4_refreshKittens 0 = .ok (.iconst 0, 1) := by decide +kernel
theorem dX4_refreshKittens_1 : decode cX4_refreshKittens 1 = .ok (.istore_n 1, 1) := by decide +kernel
theorem dX4_refreshKittens_2 : decode cX4_refreshKittens 2 = .ok (.iload_n 1, 1) := by decide +kernel
theorem dX4_refreshKittens_3 : decode cX4_refreshKittens 3 = .ok (.aload_n 0, 1) := by decide +kernel
theorem dX4_refreshKittens_4 : decode cX4_refreshKittens 4 = .ok (.getfield 19, 3) := by decide +kernel
theorem dX4_refreshKittens_7 : decode cX4_refreshKittens 7 = .ok (.if_icmp .ge 42, 3) := by decide +kernel
theorem dX4_refreshKittens_10 : decode cX4_refreshKittens 10 = .ok (.aload_n 0, 1) := by decide +kernel
theorem dX4_refreshKittens_11 : decode cX4_refreshKittens 11 = .ok (.iload_n 1, 1) := by decide +kernel
theorem dX4_refreshKittens_12 : decode cX4_refreshKittens 12 = .ok (.invokevirtual 100, 3) := by decide +kernel
theorem dX4_refreshKittens_15 : decode cX4_refreshKittens 15 = .ok (.ifCond .ne 28, 3) := by decide +kernel
theorem dX4_refreshKittens_18 : decode cX4_refreshKittens 18 = .ok (.aload_n 0, 1) := by decide +kernel
theorem dX4_refreshKittens_19 : decode cX4_refreshKittens 19 = .ok (.getfield 31, 3) := by decide +kernel
theorem dX4_refreshKittens_22 : decode cX4_refreshKittens 22 = .ok (.iload_n 1, 1) := by decide +kernel
theorem dX4_refreshKittens_23 : decode cX4_refreshKittens 23 = .ok (.iaload, 1) := by decide +kernel
theorem dX4_refreshKittens_24 : decode cX4_refreshKittens 24 = .ok (.aload_n 0, 1) := by decide +kernel
theorem dX4_refreshKittens_25 : decode cX4_refreshKittens 25 = .ok (.getfield 9, 3) := by decide +kernel
theorem dX4_refreshKittens_28 : decode cX4_refreshKittens 28 = .ok (.iconst 3, 1) := by decide +kernel
theorem dX4_refreshKittens_29 : decode cX4_refreshKittens 29 = .ok (.iaload, 1) := by decide +kernel
theorem dX4_refreshKittens_30 : decode cX4_refreshKittens 30 = .ok (.if_icmp .ge 13, 3) := by decide +kernel
theorem dX4_refreshKittens_33 : decode cX4_refreshKittens 33 = .ok (.aload_n 0, 1) := by decide +kernel
theorem dX4_refreshKittens_34 : decode cX4_refreshKittens 34 = .ok (.getfield 31, 3) := by decide +kernel
theorem dX4_refreshKittens_37 : decode cX4_refreshKittens 37 = .ok (.iload_n 1, 1) := by decide +kernel
theorem dX4_refreshKittens_38 : decode cX4_refreshKittens 38 = .ok (.dup2, 1) := by decide +kernel
theorem dX4_refreshKittens_39 : decode cX4_refreshKittens 39 = .ok (.iaload, 1) := by decide +kernel
theorem dX4_refreshKittens_40 : decode cX4_refreshKittens 40 = .ok (.iconst 1, 1) := by decide +kernel
theorem dX4_refreshKittens_41 : decode cX4_refreshKittens 41 = .ok (.iadd, 1) := by decide +kernel
theorem dX4_refreshKittens_42 : decode cX4_refreshKittens 42 = .ok (.iastore, 1) := by decide +kernel
theorem dX4_refreshKittens_43 : decode cX4_refreshKittens 43 = .ok (.iinc 1 1, 3) := by decide +kernel
theorem dX4_refreshKittens_46 : decode cX4_refreshKittens 46 = .ok (.goto (-44), 3) := by decide +kernel
theorem dX4_refreshKittens_49 : decode cX4_refreshKittens 49 = .ok (.return_, 1) := by decide +kernel
theorem dX4_naps_0 : decode cX4_naps 0 = .ok (.aload_n 0, 1) := by decide +kernel
theorem dX4_naps_1 : decode cX4_naps 1 = .ok (.getfield 34, 3) := by decide +kernel
theorem dX4_naps_4 : decode cX4_naps 4 = .ok (.iload_n 1, 1) := by decide +kernel
theorem dX4_naps_5 : decode cX4_naps 5 = .ok (.iaload, 1) := by decide +kernel
theorem dX4_naps_6 : decode cX4_naps 6 = .ok (.bipush (-6), 2) := by decide +kernel
theorem dX4_naps_8 : decode cX4_naps 8 = .ok (.if_icmp .eq 7, 3) := by decide +kernel
theorem dX4_naps_11 : decode cX4_naps 11 = .ok (.iconst 1, 1) := by decide +kernel
theorem dX4_naps_12 : decode cX4_naps 12 = .ok (.goto 4, 3) := by decide +kernel
theorem dX4_naps_15 : decode cX4_naps 15 = .ok (.iconst 0, 1) := by decide +kernel
theorem dX4_naps_16 : decode cX4_naps 16 = .ok (.ireturn, 1) := by decide +kernel
theorem dX4_refusal_0 : decode cX4_refusal 0 = .ok (.aload_n 0, 1) := by decide +kernel
theorem dX4_refusal_1 : decode cX4_refusal 1 = .ok (.getfield 28, 3) := by decide +kernel
theorem dX4_refusal_4 : decode cX4_refusal 4 = .ok (.iload_n 1, 1) := by decide +kernel
theorem dX4_refusal_5 : decode cX4_refusal 5 = .ok (.iaload, 1) := by decide +kernel
theorem dX4_refusal_6 : decode cX4_refusal 6 = .ok (.iload_n 2, 1) := by decide +kernel
theorem dX4_refusal_7 : decode cX4_refusal 7 = .ok (.iadd, 1) := by decide +kernel
theorem dX4_refusal_8 : decode cX4_refusal 8 = .ok (.istore_n 3, 1) := by decide +kernel
theorem dX4_refusal_9 : decode cX4_refusal 9 = .ok (.aload_n 0, 1) := by decide +kernel
theorem dX4_refusal_10 : decode cX4_refusal 10 = .ok (.iload_n 1, 1) := by decide +kernel
theorem dX4_refusal_11 : decode cX4_refusal 11 = .ok (.invokevirtual 100, 3) := by decide +kernel
theorem dX4_refusal_14 : decode cX4_refusal 14 = .ok (.ifCond .eq 5, 3) := by decide +kernel
theorem dX4_refusal_17 : decode cX4_refusal 17 = .ok (.iconst 1, 1) := by decide +kernel
theorem dX4_refusal_18 : decode cX4_refusal 18 = .ok (.ireturn, 1) := by decide +kernel
theorem dX4_refusal_19 : decode cX4_refusal 19 = .ok (.iload_n 3, 1) := by decide +kernel
theorem dX4_refusal_20 : decode cX4_refusal 20 = .ok (.ifCond .lt 9, 3) := by decide +kernel
theorem dX4_refusal_23 : decode cX4_refusal 23 = .ok (.iload_n 3, 1) := by decide +kernel
theorem dX4_refusal_24 : decode cX4_refusal 24 = .ok (.bipush 16, 2) := by decide +kernel
theorem dX4_refusal_26 : decode cX4_refusal 26 = .ok (.if_icmp .lt 5, 3) := by decide +kernel
theorem dX4_refusal_29 : decode cX4_refusal 29 = .ok (.iconst 2, 1) := by decide +kernel
theorem dX4_refusal_30 : decode cX4_refusal 30 = .ok (.ireturn, 1) := by decide +kernel
theorem dX4_refusal_31 : decode cX4_refusal 31 = .ok (.iload_n 2, 1) := by decide +kernel
theorem dX4_refusal_32 : decode cX4_refusal 32 = .ok (.aload_n 0, 1) := by decide +kernel
theorem dX4_refusal_33 : decode cX4_refusal 33 = .ok (.getfield 9, 3) := by decide +kernel
theorem dX4_refusal_36 : decode cX4_refusal 36 = .ok (.iconst 0, 1) := by decide +kernel
theorem dX4_refusal_37 : decode cX4_refusal 37 = .ok (.iaload, 1) := by decide +kernel
theorem dX4_refusal_38 : decode cX4_refusal 38 = .ok (.if_icmp .gt 16, 3) := by decide +kernel
theorem dX4_refusal_41 : decode cX4_refusal 41 = .ok (.iload_n 2, 1) := by decide +kernel
theorem dX4_refusal_42 : decode cX4_refusal 42 = .ok (.ineg, 1) := by decide +kernel
theorem dX4_refusal_43 : decode cX4_refusal 43 = .ok (.iconst 2, 1) := by decide +kernel
theorem dX4_refusal_44 : decode cX4_refusal 44 = .ok (.aload_n 0, 1) := by decide +kernel
theorem dX4_refusal_45 : decode cX4_refusal 45 = .ok (.getfield 9, 3) := by decide +kernel
theorem dX4_refusal_48 : decode cX4_refusal 48 = .ok (.iconst 0, 1) := by decide +kernel
theorem dX4_refusal_49 : decode cX4_refusal 49 = .ok (.iaload, 1) := by decide +kernel
theorem dX4_refusal_50 : decode cX4_refusal 50 = .ok (.imul, 1) := by decide +kernel
theorem dX4_refusal_51 : decode cX4_refusal 51 = .ok (.if_icmp .le 5, 3) := by decide +kernel
theorem dX4_refusal_54 : decode cX4_refusal 54 = .ok (.iconst 3, 1) := by decide +kernel
theorem dX4_refusal_55 : decode cX4_refusal 55 = .ok (.ireturn, 1) := by decide +kernel
theorem dX4_refusal_56 : decode cX4_refusal 56 = .ok (.aload_n 0, 1) := by decide +kernel
theorem dX4_refusal_57 : decode cX4_refusal 57 = .ok (.getfield 31, 3) := by decide +kernel
theorem dX4_refusal_60 : decode cX4_refusal 60 = .ok (.iload_n 1, 1) := by decide +kernel
theorem dX4_refusal_61 : decode cX4_refusal 61 = .ok (.iaload, 1) := by decide +kernel
theorem dX4_refusal_62 : decode cX4_refusal 62 = .ok (.iload_n 2, 1) := by decide +kernel
theorem dX4_refusal_63 : decode cX4_refusal 63 = .ok (.invokestatic 137, 3) := by decide +kernel
theorem dX4_refusal_66 : decode cX4_refusal 66 = .ok (.if_icmp .ge 5, 3) := by decide +kernel
theorem dX4_refusal_69 : decode cX4_refusal 69 = .ok (.iconst 4, 1) := by decide +kernel
theorem dX4_refusal_70 : decode cX4_refusal 70 = .ok (.ireturn, 1) := by decide +kernel
theorem dX4_refusal_71 : decode cX4_refusal 71 = .ok (.aload_n 0, 1) := by decide +kernel
theorem dX4_refusal_72 : decode cX4_refusal 72 = .ok (.iload_n 1, 1) := by decide +kernel
theorem dX4_refusal_73 : decode cX4_refusal 73 = .ok (.iload_n 3, 1) := by decide +kernel
theorem dX4_refusal_74 : decode cX4_refusal 74 = .ok (.invokevirtual 141, 3) := by decide +kernel
theorem dX4_refusal_77 : decode cX4_refusal 77 = .ok (.ifCond .eq 5, 3) := by decide +kernel
theorem dX4_refusal_80 : decode cX4_refusal 80 = .ok (.iconst 5, 1) := by decide +kernel
theorem dX4_refusal_81 : decode cX4_refusal 81 = .ok (.ireturn, 1) := by decide +kernel
theorem dX4_refusal_82 : decode cX4_refusal 82 = .ok (.aload_n 0, 1) := by decide +kernel
theorem dX4_refusal_83 : decode cX4_refusal 83 = .ok (.iload_n 1, 1) := by decide +kernel
theorem dX4_refusal_84 : decode cX4_refusal 84 = .ok (.iload_n 2, 1) := by decide +kernel
theorem dX4_refusal_85 : decode cX4_refusal 85 = .ok (.invokevirtual 145, 3) := by decide +kernel
theorem dX4_refusal_88 : decode cX4_refusal 88 = .ok (.ifCond .eq 7, 3) := by decide +kernel
theorem dX4_refusal_91 : decode cX4_refusal 91 = .ok (.iconst 0, 1) := by decide +kernel
theorem dX4_refusal_92 : decode cX4_refusal 92 = .ok (.goto 5, 3) := by decide +kernel
theorem dX4_refusal_95 : decode cX4_refusal 95 = .ok (.bipush 6, 2) := by decide +kernel
theorem dX4_refusal_97 : decode cX4_refusal 97 = .ok (.ireturn, 1) := by decide +kernel
theorem dX4_cost_0 : decode cX4_cost 0 = .ok (.iload_n 0, 1) := by decide +kernel
theorem dX4_cost_1 : decode cX4_cost 1 = .ok (.ifCond .le 9, 3) := by decide +kernel
theorem dX4_cost_4 : decode cX4_cost 4 = .ok (.iconst 2, 1) := by decide +kernel
theorem dX4_cost_5 : decode cX4_cost 5 = .ok (.iload_n 0, 1) := by decide +kernel
theorem dX4_cost_6 : decode cX4_cost 6 = .ok (.imul, 1) := by decide +kernel
theorem dX4_cost_7 : decode cX4_cost 7 = .ok (.goto 5, 3) := by decide +kernel
theorem dX4_cost_10 : decode cX4_cost 10 = .ok (.iload_n 0, 1) := by decide +kernel
theorem dX4_cost_11 : decode cX4_cost 11 = .ok (.ineg, 1) := by decide +kernel
theorem dX4_cost_12 : decode cX4_cost 12 = .ok (.ireturn, 1) := by decide +kernel
theorem dX4_isHeldBack_0 : decode cX4_isHeldBack 0 = .ok (.iconst 0, 1) := by decide +kernel
theorem dX4_isHeldBack_1 : decode cX4_isHeldBack 1 = .ok (.istore_n 3, 1) := by decide +kernel
theorem dX4_isHeldBack_2 : decode cX4_isHeldBack 2 = .ok (.iload_n 3, 1) := by decide +kernel
theorem dX4_isHeldBack_3 : decode cX4_isHeldBack 3 = .ok (.aload_n 0, 1) := by decide +kernel
theorem dX4_isHeldBack_4 : decode cX4_isHeldBack 4 = .ok (.getfield 19, 3) := by decide +kernel
theorem dX4_isHeldBack_7 : decode cX4_isHeldBack 7 = .ok (.if_icmp .ge 88, 3) := by decide +kernel
theorem dX4_isHeldBack_10 : decode cX4_isHeldBack 10 = .ok (.iload_n 3, 1) := by decide +kernel
theorem dX4_isHeldBack_11 : decode cX4_isHeldBack 11 = .ok (.iload_n 1, 1) := by decide +kernel
theorem dX4_isHeldBack_12 : decode cX4_isHeldBack 12 = .ok (.if_icmp .ne 6, 3) := by decide +kernel
theorem dX4_isHeldBack_15 : decode cX4_isHeldBack 15 = .ok (.goto 74, 3) := by decide +kernel
theorem dX4_isHeldBack_18 : decode cX4_isHeldBack 18 = .ok (.iload_n 2, 1) := by decide +kernel
theorem dX4_isHeldBack_19 : decode cX4_isHeldBack 19 = .ok (.aload_n 0, 1) := by decide +kernel
theorem dX4_isHeldBack_20 : decode cX4_isHeldBack 20 = .ok (.getfield 28, 3) := by decide +kernel
theorem dX4_isHeldBack_23 : decode cX4_isHeldBack 23 = .ok (.iload_n 3, 1) := by decide +kernel
theorem dX4_isHeldBack_24 : decode cX4_isHeldBack 24 = .ok (.iaload, 1) := by decide +kernel
theorem dX4_isHeldBack_25 : decode cX4_isHeldBack 25 = .ok (.isub, 1) := by decide +kernel
theorem dX4_isHeldBack_26 : decode cX4_isHeldBack 26 = .ok (.invokestatic 148, 3) := by decide +kernel
theorem dX4_isHeldBack_29 : decode cX4_isHeldBack 29 = .ok (.istore 4, 2) := by decide +kernel
theorem dX4_isHeldBack_31 : decode cX4_isHeldBack 31 = .ok (.iload 4, 2) := by decide +kernel
theorem dX4_isHeldBack_33 : decode cX4_isHeldBack 33 = .ok (.aload_n 0, 1) := by decide +kernel
theorem dX4_isHeldBack_34 : decode cX4_isHeldBack 34 = .ok (.getfield 9, 3) := by decide +kernel
theorem dX4_isHeldBack_37 : decode cX4_isHeldBack 37 = .ok (.iconst 1, 1) := by decide +kernel
theorem dX4_isHeldBack_38 : decode cX4_isHeldBack 38 = .ok (.iaload, 1) := by decide +kernel
theorem dX4_isHeldBack_39 : decode cX4_isHeldBack 39 = .ok (.if_icmp .le 28, 3) := by decide +kernel
theorem dX4_isHeldBack_42 : decode cX4_isHeldBack 42 = .ok (.iload 4, 2) := by decide +kernel
theorem dX4_isHeldBack_44 : decode cX4_isHeldBack 44 = .ok (.aload_n 0, 1) := by decide +kernel
theorem dX4_isHeldBack_45 : decode cX4_isHeldBack 45 = .ok (.getfield 28, 3) := by decide +kernel
theorem dX4_isHeldBack_48 : decode cX4_isHeldBack 48 = .ok (.iload_n 1, 1) := by decide +kernel
theorem dX4_isHeldBack_49 : decode cX4_isHeldBack 49 = .ok (.iaload, 1) := by decide +kernel
theorem dX4_isHeldBack_50 : decode cX4_isHeldBack 50 = .ok (.aload_n 0, 1) := by decide +kernel
theorem dX4_isHeldBack_51 : decode cX4_isHeldBack 51 = .ok (.getfield 28, 3) := by decide +kernel
theorem dX4_isHeldBack_54 : decode cX4_isHeldBack 54 = .ok (.iload_n 3, 1) := by decide +kernel
theorem dX4_isHeldBack_55 : decode cX4_isHeldBack 55 = .ok (.iaload, 1) := by decide +kernel
theorem dX4_isHeldBack_56 : decode cX4_isHeldBack 56 = .ok (.isub, 1) := by decide +kernel
theorem dX4_isHeldBack_57 : decode cX4_isHeldBack 57 = .ok (.invokestatic 148, 3) := by decide +kernel
theorem dX4_isHeldBack_60 : decode cX4_isHeldBack 60 = .ok (.if_icmp .le 7, 3) := by decide +kernel
theorem dX4_isHeldBack_63 : decode cX4_isHeldBack 63 = .ok (.iconst 1, 1) := by decide +kernel
theorem dX4_isHeldBack_64 : decode cX4_isHeldBack 64 = .ok (.goto 4, 3) := by decide +kernel
theorem dX4_isHeldBack_67 : decode cX4_isHeldBack 67 = .ok (.iconst 0, 1) := by decide +kernel
theorem dX4_isHeldBack_68 : decode cX4_isHeldBack 68 = .ok (.istore 5, 2) := by decide +kernel
theorem dX4_isHeldBack_70 : decode cX4_isHeldBack 70 = .ok (.iload 5, 2) := by decide +kernel
theorem dX4_isHeldBack_72 : decode cX4_isHeldBack 72 = .ok (.ifCond .eq 17, 3) := by decide +kernel
theorem dX4_isHeldBack_75 : decode cX4_isHeldBack 75 = .ok (.aload_n 0, 1) := by decide +kernel
theorem dX4_isHeldBack_76 : decode cX4_isHeldBack 76 = .ok (.getfield 52, 3) := by decide +kernel
theorem dX4_isHeldBack_79 : decode cX4_isHeldBack 79 = .ok (.iload_n 1, 1) := by decide +kernel
theorem dX4_isHeldBack_80 : decode cX4_isHeldBack 80 = .ok (.iload_n 3, 1) := by decide +kernel
theorem dX4_isHeldBack_81 : decode cX4_isHeldBack 81 = .ok (.invokevirtual 153, 3) := by decide +kernel
theorem dX4_isHeldBack_84 : decode cX4_isHeldBack 84 = .ok (.ifCond .eq 5, 3) := by decide +kernel
theorem dX4_isHeldBack_87 : decode cX4_isHeldBack 87 = .ok (.iconst 1, 1) := by decide +kernel
theorem dX4_isHeldBack_88 : decode cX4_isHeldBack 88 = .ok (.ireturn, 1) := by decide +kernel
theorem dX4_isHeldBack_89 : decode cX4_isHeldBack 89 = .ok (.iinc 3 1, 3) := by decide +kernel
theorem dX4_isHeldBack_92 : decode cX4_isHeldBack 92 = .ok (.goto (-90), 3) := by decide +kernel
theorem dX4_isHeldBack_95 : decode cX4_isHeldBack 95 = .ok (.iconst 0, 1) := by decide +kernel
theorem dX4_isHeldBack_96 : decode cX4_isHeldBack 96 = .ok (.ireturn, 1) := by decide +kernel
theorem dX4_ballLasts_0 : decode cX4_ballLasts 0 = .ok (.aload_n 0, 1) := by decide +kernel
theorem dX4_ballLasts_1 : decode cX4_ballLasts 1 = .ok (.getfield 37, 3) := by decide +kernel
theorem dX4_ballLasts_4 : decode cX4_ballLasts 4 = .ok (.iload_n 1, 1) := by decide +kernel
theorem dX4_ballLasts_5 : decode cX4_ballLasts 5 = .ok (.iaload, 1) := by decide +kernel
theorem dX4_ballLasts_6 : decode cX4_ballLasts 6 = .ok (.istore_n 3, 1) := by decide +kernel
theorem dX4_ballLasts_7 : decode cX4_ballLasts 7 = .ok (.iload_n 2, 1) := by decide +kernel
theorem dX4_ballLasts_8 : decode cX4_ballLasts 8 = .ok (.invokestatic 148, 3) := by decide +kernel
theorem dX4_ballLasts_11 : decode cX4_ballLasts 11 = .ok (.istore 4, 2) := by decide +kernel
theorem dX4_ballLasts_13 : decode cX4_ballLasts 13 = .ok (.iconst 0, 1) := by decide +kernel
theorem dX4_ballLasts_14 : decode cX4_ballLasts 14 = .ok (.istore 5, 2) := by decide +kernel
theorem dX4_ballLasts_16 : decode cX4_ballLasts 16 = .ok (.iload 5, 2) := by decide +kernel
theorem dX4_ballLasts_18 : decode cX4_ballLasts 18 = .ok (.iload 4, 2) := by decide +kernel
theorem dX4_ballLasts_20 : decode cX4_ballLasts 20 = .ok (.if_icmp .ge 50, 3) := by decide +kernel
theorem dX4_ballLasts_23 : decode cX4_ballLasts 23 = .ok (.aload_n 0, 1) := by decide +kernel
theorem dX4_ballLasts_24 : decode cX4_ballLasts 24 = .ok (.getfield 28, 3) := by decide +kernel
theorem dX4_ballLasts_27 : decode cX4_ballLasts 27 = .ok (.iload_n 1, 1) := by decide +kernel
theorem dX4_ballLasts_28 : decode cX4_ballLasts 28 = .ok (.iaload, 1) := by decide +kernel
theorem dX4_ballLasts_29 : decode cX4_ballLasts 29 = .ok (.iload_n 2, 1) := by decide +kernel
theorem dX4_ballLasts_30 : decode cX4_ballLasts 30 = .ok (.iload 5, 2) := by decide +kernel
theorem dX4_ballLasts_32 : decode cX4_ballLasts 32 = .ok (.invokestatic 156, 3) := by decide +kernel
theorem dX4_ballLasts_35 : decode cX4_ballLasts 35 = .ok (.istore 6, 2) := by decide +kernel
theorem dX4_ballLasts_37 : decode cX4_ballLasts 37 = .ok (.iload_n 3, 1) := by decide +kernel
theorem dX4_ballLasts_38 : decode cX4_ballLasts 38 = .ok (.aload_n 0, 1) := by decide +kernel
theorem dX4_ballLasts_39 : decode cX4_ballLasts 39 = .ok (.getfield 52, 3) := by decide +kernel
theorem dX4_ballLasts_42 : decode cX4_ballLasts 42 = .ok (.iload 6, 2) := by decide +kernel
theorem dX4_ballLasts_44 : decode cX4_ballLasts 44 = .ok (.invokevirtual 160, 3) := by decide +kernel
theorem dX4_ballLasts_47 : decode cX4_ballLasts 47 = .ok (.iload_n 1, 1) := by decide +kernel
theorem dX4_ballLasts_48 : decode cX4_ballLasts 48 = .ok (.if_icmp .ne 7, 3) := by decide +kernel
theorem dX4_ballLasts_51 : decode cX4_ballLasts 51 = .ok (.iconst 1, 1) := by decide +kernel
theorem dX4_ballLasts_52 : decode cX4_ballLasts 52 = .ok (.goto 4, 3) := by decide +kernel
theorem dX4_ballLasts_55 : decode cX4_ballLasts 55 = .ok (.iconst (-1), 1) := by decide +kernel
theorem dX4_ballLasts_56 : decode cX4_ballLasts 56 = .ok (.iadd, 1) := by decide +kernel
theorem dX4_ballLasts_57 : decode cX4_ballLasts 57 = .ok (.istore_n 3, 1) := by decide +kernel
theorem dX4_ballLasts_58 : decode cX4_ballLasts 58 = .ok (.iload_n 3, 1) := by decide +kernel
theorem dX4_ballLasts_59 : decode cX4_ballLasts 59 = .ok (.ifCond .ge 5, 3) := by decide +kernel
theorem dX4_ballLasts_62 : decode cX4_ballLasts 62 = .ok (.iconst 0, 1) := by decide +kernel
theorem dX4_ballLasts_63 : decode cX4_ballLasts 63 = .ok (.ireturn, 1) := by decide +kernel
theorem dX4_ballLasts_64 : decode cX4_ballLasts 64 = .ok (.iinc 5 1, 3) := by decide +kernel
theorem dX4_ballLasts_67 : decode cX4_ballLasts 67 = .ok (.goto (-51), 3) := by decide +kernel
theorem dX4_ballLasts_70 : decode cX4_ballLasts 70 = .ok (.iconst 1, 1) := by decide +kernel
theorem dX4_ballLasts_71 : decode cX4_ballLasts 71 = .ok (.ireturn, 1) := by decide +kernel
theorem dX4_makeLeap_0 : decode cX4_makeLeap 0 = .ok (.iload_n 2, 1) := by decide +kernel
theorem dX4_makeLeap_1 : decode cX4_makeLeap 1 = .ok (.invokestatic 148, 3) := by decide +kernel
theorem dX4_makeLeap_4 : decode cX4_makeLeap 4 = .ok (.istore_n 3, 1) := by decide +kernel
theorem dX4_makeLeap_5 : decode cX4_makeLeap 5 = .ok (.iconst 0, 1) := by decide +kernel
theorem dX4_makeLeap_6 : decode cX4_makeLeap 6 = .ok (.istore 4, 2) := by decide +kernel
theorem dX4_makeLeap_8 : decode cX4_makeLeap 8 = .ok (.iload 4, 2) := by decide +kernel
theorem dX4_makeLeap_10 : decode cX4_makeLeap 10 = .ok (.iload_n 3, 1) := by decide +kernel
theorem dX4_makeLeap_11 : decode cX4_makeLeap 11 = .ok (.if_icmp .ge 26, 3) := by decide +kernel
theorem dX4_makeLeap_14 : decode cX4_makeLeap 14 = .ok (.aload_n 0, 1) := by decide +kernel
theorem dX4_makeLeap_15 : decode cX4_makeLeap 15 = .ok (.aload_n 0, 1) := by decide +kernel
theorem dX4_makeLeap_16 : decode cX4_makeLeap 16 = .ok (.getfield 28, 3) := by decide +kernel
theorem dX4_makeLeap_19 : decode cX4_makeLeap 19 = .ok (.iload_n 1, 1) := by decide +kernel
theorem dX4_makeLeap_20 : decode cX4_makeLeap 20 = .ok (.iaload, 1) := by decide +kernel
theorem dX4_makeLeap_21 : decode cX4_makeLeap 21 = .ok (.iload_n 2, 1) := by decide +kernel
theorem dX4_makeLeap_22 : decode cX4_makeLeap 22 = .ok (.iload 4, 2) := by decide +kernel
theorem dX4_makeLeap_24 : decode cX4_makeLeap 24 = .ok (.invokestatic 156, 3) := by decide +kernel
theorem dX4_makeLeap_27 : decode cX4_makeLeap 27 = .ok (.iload_n 1, 1) := by decide +kernel
theorem dX4_makeLeap_28 : decode cX4_makeLeap 28 = .ok (.invokevirtual 163, 3) := by decide +kernel
theorem dX4_makeLeap_31 : decode cX4_makeLeap 31 = .ok (.iinc 4 1, 3) := by decide +kernel
theorem dX4_makeLeap_34 : decode cX4_makeLeap 34 = .ok (.goto (-26), 3) := by decide +kernel
theorem dX4_makeLeap_37 : decode cX4_makeLeap 37 = .ok (.aload_n 0, 1) := by decide +kernel
theorem dX4_makeLeap_38 : decode cX4_makeLeap 38 = .ok (.getfield 28, 3) := by decide +kernel
theorem dX4_makeLeap_41 : decode cX4_makeLeap 41 = .ok (.iload_n 1, 1) := by decide +kernel
theorem dX4_makeLeap_42 : decode cX4_makeLeap 42 = .ok (.dup2, 1) := by decide +kernel
theorem dX4_makeLeap_43 : decode cX4_makeLeap 43 = .ok (.iaload, 1) := by decide +kernel
theorem dX4_makeLeap_44 : decode cX4_makeLeap 44 = .ok (.iload_n 2, 1) := by decide +kernel
theorem dX4_makeLeap_45 : decode cX4_makeLeap 45 = .ok (.iadd, 1) := by decide +kernel
theorem dX4_makeLeap_46 : decode cX4_makeLeap 46 = .ok (.iastore, 1) := by decide +kernel
theorem dX4_makeLeap_47 : decode cX4_makeLeap 47 = .ok (.aload_n 0, 1) := by decide +kernel
theorem dX4_makeLeap_48 : decode cX4_makeLeap 48 = .ok (.getfield 31, 3) := by decide +kernel
theorem dX4_makeLeap_51 : decode cX4_makeLeap 51 = .ok (.iload_n 1, 1) := by decide +kernel
theorem dX4_makeLeap_52 : decode cX4_makeLeap 52 = .ok (.dup2, 1) := by decide +kernel
theorem dX4_makeLeap_53 : decode cX4_makeLeap 53 = .ok (.iaload, 1) := by decide +kernel
theorem dX4_makeLeap_54 : decode cX4_makeLeap 54 = .ok (.iload_n 2, 1) := by decide +kernel
theorem dX4_makeLeap_55 : decode cX4_makeLeap 55 = .ok (.invokestatic 137, 3) := by decide +kernel
theorem dX4_makeLeap_58 : decode cX4_makeLeap 58 = .ok (.isub, 1) := by decide +kernel
theorem dX4_makeLeap_59 : decode cX4_makeLeap 59 = .ok (.iastore, 1) := by decide +kernel
theorem dX4_makeLeap_60 : decode cX4_makeLeap 60 = .ok (.aload_n 0, 1) := by decide +kernel
theorem dX4_makeLeap_61 : decode cX4_makeLeap 61 = .ok (.dup, 1) := by decide +kernel
theorem dX4_makeLeap_62 : decode cX4_makeLeap 62 = .ok (.getfield 22, 3) := by decide +kernel
theorem dX4_makeLeap_65 : decode cX4_makeLeap 65 = .ok (.iconst 1, 1) := by decide +kernel
theorem dX4_makeLeap_66 : decode cX4_makeLeap 66 = .ok (.iadd, 1) := by decide +kernel
theorem dX4_makeLeap_67 : decode cX4_makeLeap 67 = .ok (.putfield 22, 3) := by decide +kernel
theorem dX4_makeLeap_70 : decode cX4_makeLeap 70 = .ok (.return_, 1) := by decide +kernel
theorem dX4_edgeOnWay_0 : decode cX4_edgeOnWay 0 = .ok (.iload_n 1, 1) := by decide +kernel
theorem dX4_edgeOnWay_1 : decode cX4_edgeOnWay 1 = .ok (.ifCond .le 9, 3) := by decide +kernel
theorem dX4_edgeOnWay_4 : decode cX4_edgeOnWay 4 = .ok (.iload_n 0, 1) := by decide +kernel
theorem dX4_edgeOnWay_5 : decode cX4_edgeOnWay 5 = .ok (.iload_n 2, 1) := by decide +kernel
theorem dX4_edgeOnWay_6 : decode cX4_edgeOnWay 6 = .ok (.iadd, 1) := by decide +kernel
theorem dX4_edgeOnWay_7 : decode cX4_edgeOnWay 7 = .ok (.goto 8, 3) := by decide +kernel
theorem dX4_edgeOnWay_10 : decode cX4_edgeOnWay 10 = .ok (.iload_n 0, 1) := by decide +kernel
theorem dX4_edgeOnWay_11 : decode cX4_edgeOnWay 11 = .ok (.iconst 1, 1) := by decide +kernel
theorem dX4_edgeOnWay_12 : decode cX4_edgeOnWay 12 = .ok (.isub, 1) := by decide +kernel
theorem dX4_edgeOnWay_13 : decode cX4_edgeOnWay 13 = .ok (.iload_n 2, 1) := by decide +kernel
theorem dX4_edgeOnWay_14 : decode cX4_edgeOnWay 14 = .ok (.isub, 1) := by decide +kernel
theorem dX4_edgeOnWay_15 : decode cX4_edgeOnWay 15 = .ok (.ireturn, 1) := by decide +kernel
theorem dX4_comeOver_0 : decode cX4_comeOver 0 = .ok (.aload_n 0, 1) := by decide +kernel
theorem dX4_comeOver_1 : decode cX4_comeOver 1 = .ok (.getfield 52, 3) := by decide +kernel
theorem dX4_comeOver_4 : decode cX4_comeOver 4 = .ok (.iload_n 1, 1) := by decide +kernel
theorem dX4_comeOver_5 : decode cX4_comeOver 5 = .ok (.invokevirtual 160, 3) := by decide +kernel
theorem dX4_comeOver_8 : decode cX4_comeOver 8 = .ok (.iload_n 2, 1) := by decide +kernel
theorem dX4_comeOver_9 : decode cX4_comeOver 9 = .ok (.if_icmp .ne 34, 3) := by decide +kernel
theorem dX4_comeOver_12 : decode cX4_comeOver 12 = .ok (.aload_n 0, 1) := by decide +kernel
theorem dX4_comeOver_13 : decode cX4_comeOver 13 = .ok (.getfield 52, 3) := by decide +kernel
theorem dX4_comeOver_16 : decode cX4_comeOver 16 = .ok (.iload_n 1, 1) := by decide +kernel
theorem dX4_comeOver_17 : decode cX4_comeOver 17 = .ok (.invokevirtual 166, 3) := by decide +kernel
theorem dX4_comeOver_20 : decode cX4_comeOver 20 = .ok (.aload_n 0, 1) := by decide +kernel
theorem dX4_comeOver_21 : decode cX4_comeOver 21 = .ok (.getfield 43, 3) := by decide +kernel
theorem dX4_comeOver_24 : decode cX4_comeOver 24 = .ok (.iload_n 2, 1) := by decide +kernel
theorem dX4_comeOver_25 : decode cX4_comeOver 25 = .ok (.dup2, 1) := by decide +kernel
theorem dX4_comeOver_26 : decode cX4_comeOver 26 = .ok (.iaload, 1) := by decide +kernel
theorem dX4_comeOver_27 : decode cX4_comeOver 27 = .ok (.iconst 1, 1) := by decide +kernel
theorem dX4_comeOver_28 : decode cX4_comeOver 28 = .ok (.iadd, 1) := by decide +kernel
theorem dX4_comeOver_29 : decode cX4_comeOver 29 = .ok (.iastore, 1) := by decide +kernel
theorem dX4_comeOver_30 : decode cX4_comeOver 30 = .ok (.aload_n 0, 1) := by decide +kernel
theorem dX4_comeOver_31 : decode cX4_comeOver 31 = .ok (.getfield 37, 3) := by decide +kernel
theorem dX4_comeOver_34 : decode cX4_comeOver 34 = .ok (.iload_n 2, 1) := by decide +kernel
theorem dX4_comeOver_35 : decode cX4_comeOver 35 = .ok (.dup2, 1) := by decide +kernel
theorem dX4_comeOver_36 : decode cX4_comeOver 36 = .ok (.iaload, 1) := by decide +kernel
theorem dX4_comeOver_37 : decode cX4_comeOver 37 = .ok (.iconst 1, 1) := by decide +kernel
theorem dX4_comeOver_38 : decode cX4_comeOver 38 = .ok (.iadd, 1) := by decide +kernel
theorem dX4_comeOver_39 : decode cX4_comeOver 39 = .ok (.iastore, 1) := by decide +kernel
theorem dX4_comeOver_40 : decode cX4_comeOver 40 = .ok (.goto 32, 3) := by decide +kernel
theorem dX4_comeOver_43 : decode cX4_comeOver 43 = .ok (.aload_n 0, 1) := by decide +kernel
theorem dX4_comeOver_44 : decode cX4_comeOver 44 = .ok (.getfield 52, 3) := by decide +kernel
theorem dX4_comeOver_47 : decode cX4_comeOver 47 = .ok (.iload_n 1, 1) := by decide +kernel
theorem dX4_comeOver_48 : decode cX4_comeOver 48 = .ok (.iload_n 2, 1) := by decide +kernel
theorem dX4_comeOver_49 : decode cX4_comeOver 49 = .ok (.invokevirtual 170, 3) := by decide +kernel
theorem dX4_comeOver_52 : decode cX4_comeOver 52 = .ok (.aload_n 0, 1) := by decide +kernel
theorem dX4_comeOver_53 : decode cX4_comeOver 53 = .ok (.getfield 40, 3) := by decide +kernel
theorem dX4_comeOver_56 : decode cX4_comeOver 56 = .ok (.iload_n 2, 1) := by decide +kernel
theorem dX4_comeOver_57 : decode cX4_comeOver 57 = .ok (.dup2, 1) := by decide +kernel
theorem dX4_comeOver_58 : decode cX4_comeOver 58 = .ok (.iaload, 1) := by decide +kernel
theorem dX4_comeOver_59 : decode cX4_comeOver 59 = .ok (.iconst 1, 1) := by decide +kernel
theorem dX4_comeOver_60 : decode cX4_comeOver 60 = .ok (.iadd, 1) := by decide +kernel
theorem dX4_comeOver_61 : decode cX4_comeOver 61 = .ok (.iastore, 1) := by decide +kernel
theorem dX4_comeOver_62 : decode cX4_comeOver 62 = .ok (.aload_n 0, 1) := by decide +kernel
theorem dX4_comeOver_63 : decode cX4_comeOver 63 = .ok (.getfield 37, 3) := by decide +kernel
theorem dX4_comeOver_66 : decode cX4_comeOver 66 = .ok (.iload_n 2, 1) := by decide +kernel
theorem dX4_comeOver_67 : decode cX4_comeOver 67 = .ok (.dup2, 1) := by decide +kernel
theorem dX4_comeOver_68 : decode cX4_comeOver 68 = .ok (.iaload, 1) := by decide +kernel
theorem dX4_comeOver_69 : decode cX4_comeOver 69 = .ok (.iconst 1, 1) := by decide +kernel
theorem dX4_comeOver_70 : decode cX4_comeOver 70 = .ok (.isub, 1) := by decide +kernel
theorem dX4_comeOver_71 : decode cX4_comeOver 71 = .ok (.iastore, 1) := by decide +kernel
theorem dX4_comeOver_72 : decode cX4_comeOver 72 = .ok (.return_, 1) := by decide +kernel
theorem dX4_boundSet_0 : decode cX4_boundSet 0 = .ok (.iconst 0, 1) := by decide +kernel
theorem dX4_boundSet_1 : decode cX4_boundSet 1 = .ok (.istore_n 2, 1) := by decide +kernel
theorem dX4_boundSet_2 : decode cX4_boundSet 2 = .ok (.iconst 0, 1) := by decide +kernel
theorem dX4_boundSet_3 : decode cX4_boundSet 3 = .ok (.istore_n 3, 1) := by decide +kernel
theorem dX4_boundSet_4 : decode cX4_boundSet 4 = .ok (.iload_n 3, 1) := by decide +kernel
theorem dX4_boundSet_5 : decode cX4_boundSet 5 = .ok (.aload_n 0, 1) := by decide +kernel
theorem dX4_boundSet_6 : decode cX4_boundSet 6 = .ok (.getfield 19, 3) := by decide +kernel
theorem dX4_boundSet_9 : decode cX4_boundSet 9 = .ok (.if_icmp .ge 32, 3) := by decide +kernel
theorem dX4_boundSet_12 : decode cX4_boundSet 12 = .ok (.iload_n 3, 1) := by decide +kernel
theorem dX4_boundSet_13 : decode cX4_boundSet 13 = .ok (.iload_n 1, 1) := by decide +kernel
theorem dX4_boundSet_14 : decode cX4_boundSet 14 = .ok (.if_icmp .eq 21, 3) := by decide +kernel
theorem dX4_boundSet_17 : decode cX4_boundSet 17 = .ok (.aload_n 0, 1) := by decide +kernel
theorem dX4_boundSet_18 : decode cX4_boundSet 18 = .ok (.getfield 52, 3) := by decide +kernel
theorem dX4_boundSet_21 : decode cX4_boundSet 21 = .ok (.iload_n 1, 1) := by decide +kernel
theorem dX4_boundSet_22 : decode cX4_boundSet 22 = .ok (.iload_n 3, 1) := by decide +kernel
theorem dX4_boundSet_23 : decode cX4_boundSet 23 = .ok (.invokevirtual 153, 3) := by decide +kernel
theorem dX4_boundSet_26 : decode cX4_boundSet 26 = .ok (.ifCond .eq 9, 3) := by decide +kernel
theorem dX4_boundSet_29 : decode cX4_boundSet 29 = .ok (.iload_n 2, 1) := by decide +kernel
theorem dX4_boundSet_30 : decode cX4_boundSet 30 = .ok (.iconst 1, 1) := by decide +kernel
theorem dX4_boundSet_31 : decode cX4_boundSet 31 = .ok (.iload_n 3, 1) := by decide +kernel
theorem dX4_boundSet_32 : decode cX4_boundSet 32 = .ok (.ishl, 1) := by decide +kernel
theorem dX4_boundSet_33 : decode cX4_boundSet 33 = .ok (.ior, 1) := by decide +kernel
theorem dX4_boundSet_34 : decode cX4_boundSet 34 = .ok (.istore_n 2, 1) := by decide +kernel
theorem dX4_boundSet_35 : decode cX4_boundSet 35 = .ok (.iinc 3 1, 3) := by decide +kernel
theorem dX4_boundSet_38 : decode cX4_boundSet 38 = .ok (.goto (-34), 3) := by decide +kernel
theorem dX4_boundSet_41 : decode cX4_boundSet 41 = .ok (.iload_n 2, 1) := by decide +kernel
theorem dX4_boundSet_42 : decode cX4_boundSet 42 = .ok (.ireturn, 1) := by decide +kernel
theorem dX4_boundPairs_0 : decode cX4_boundPairs 0 = .ok (.iconst 0, 1) := by decide +kernel
theorem dX4_boundPairs_1 : decode cX4_boundPairs 1 = .ok (.istore_n 2, 1) := by decide +kernel
theorem dX4_boundPairs_2 : decode cX4_boundPairs 2 = .ok (.iconst 0, 1) := by decide +kernel
theorem dX4_boundPairs_3 : decode cX4_boundPairs 3 = .ok (.istore_n 3, 1) := by decide +kernel
theorem dX4_boundPairs_4 : decode cX4_boundPairs 4 = .ok (.iload_n 3, 1) := by decide +kernel
theorem dX4_boundPairs_5 : decode cX4_boundPairs 5 = .ok (.aload_n 0, 1) := by decide +kernel
theorem dX4_boundPairs_6 : decode cX4_boundPairs 6 = .ok (.getfield 19, 3) := by decide +kernel
theorem dX4_boundPairs_9 : decode cX4_boundPairs 9 = .ok (.if_icmp .ge 47, 3) := by decide +kernel
theorem dX4_boundPairs_12 : decode cX4_boundPairs 12 = .ok (.iload_n 3, 1) := by decide +kernel
theorem dX4_boundPairs_13 : decode cX4_boundPairs 13 = .ok (.iconst 1, 1) := by decide +kernel
theorem dX4_boundPairs_14 : decode cX4_boundPairs 14 = .ok (.iadd, 1) := by decide +kernel
theorem dX4_boundPairs_15 : decode cX4_boundPairs 15 = .ok (.istore 4, 2) := by decide +kernel
theorem dX4_boundPairs_17 : decode cX4_boundPairs 17 = .ok (.iload 4, 2) := by decide +kernel
theorem dX4_boundPairs_19 : decode cX4_boundPairs 19 = .ok (.aload_n 0, 1) := by decide +kernel
theorem dX4_boundPairs_20 : decode cX4_boundPairs 20 = .ok (.getfield 19, 3) := by decide +kernel
theorem dX4_boundPairs_23 : decode cX4_boundPairs 23 = .ok (.if_icmp .ge 27, 3) := by decide +kernel
theorem dX4_boundPairs_26 : decode cX4_boundPairs 26 = .ok (.aload_n 0, 1) := by decide +kernel
theorem dX4_boundPairs_27 : decode cX4_boundPairs 27 = .ok (.getfield 52, 3) := by decide +kernel
theorem dX4_boundPairs_30 : decode cX4_boundPairs 30 = .ok (.iload_n 3, 1) := by decide +kernel
theorem dX4_boundPairs_31 : decode cX4_boundPairs 31 = .ok (.iload 4, 2) := by decide +kernel
theorem dX4_boundPairs_33 : decode cX4_boundPairs 33 = .ok (.invokevirtual 153, 3) := by decide +kernel
theorem dX4_boundPairs_36 : decode cX4_boundPairs 36 = .ok (.iload_n 1, 1) := by decide +kernel
theorem dX4_boundPairs_37 : decode cX4_boundPairs 37 = .ok (.iand, 1) := by decide +kernel
theorem dX4_boundPairs_38 : decode cX4_boundPairs 38 = .ok (.ifCond .eq 6, 3) := by decide +kernel
theorem dX4_boundPairs_41 : decode cX4_boundPairs 41 = .ok (.iinc 2 1, 3) := by decide +kernel
theorem dX4_boundPairs_44 : decode cX4_boundPairs 44 = .ok (.iinc 4 1, 3) := by decide +kernel
theorem dX4_boundPairs_47 : decode cX4_boundPairs 47 = .ok (.goto (-30), 3) := by decide +kernel
theorem dX4_boundPairs_50 : decode cX4_boundPairs 50 = .ok (.iinc 3 1, 3) := by decide +kernel
theorem dX4_boundPairs_53 : decode cX4_boundPairs 53 = .ok (.goto (-49), 3) := by decide +kernel
theorem dX4_boundPairs_56 : decode cX4_boundPairs 56 = .ok (.iload_n 2, 1) := by decide +kernel
theorem dX4_boundPairs_57 : decode cX4_boundPairs 57 = .ok (.ireturn, 1) := by decide +kernel
theorem dX4_reachSet_0 : decode cX4_reachSet 0 = .ok (.iconst 0, 1) := by decide +kernel
theorem dX4_reachSet_1 : decode cX4_reachSet 1 = .ok (.istore_n 2, 1) := by decide +kernel
theorem dX4_reachSet_2 : decode cX4_reachSet 2 = .ok (.iconst 0, 1) := by decide +kernel
theorem dX4_reachSet_3 : decode cX4_reachSet 3 = .ok (.istore_n 3, 1) := by decide +kernel
theorem dX4_reachSet_4 : decode cX4_reachSet 4 = .ok (.iload_n 3, 1) := by decide +kernel
theorem dX4_reachSet_5 : decode cX4_reachSet 5 = .ok (.bipush 16, 2) := by decide +kernel
theorem dX4_reachSet_7 : decode cX4_reachSet 7 = .ok (.if_icmp .ge 40, 3) := by decide +kernel
theorem dX4_reachSet_10 : decode cX4_reachSet 10 = .ok (.iload_n 3, 1) := by decide +kernel
theorem dX4_reachSet_11 : decode cX4_reachSet 11 = .ok (.aload_n 0, 1) := by decide +kernel
theorem dX4_reachSet_12 : decode cX4_reachSet 12 = .ok (.getfield 28, 3) := by decide +kernel
theorem dX4_reachSet_15 : decode cX4_reachSet 15 = .ok (.iload_n 1, 1) := by decide +kernel
theorem dX4_reachSet_16 : decode cX4_reachSet 16 = .ok (.iaload, 1) := by decide +kernel
theorem dX4_reachSet_17 : decode cX4_reachSet 17 = .ok (.isub, 1) := by decide +kernel
theorem dX4_reachSet_18 : decode cX4_reachSet 18 = .ok (.istore 4, 2) := by decide +kernel
theorem dX4_reachSet_20 : decode cX4_reachSet 20 = .ok (.iload 4, 2) := by decide +kernel
theorem dX4_reachSet_22 : decode cX4_reachSet 22 = .ok (.ifCond .eq 19, 3) := by decide +kernel
theorem dX4_reachSet_25 : decode cX4_reachSet 25 = .ok (.aload_n 0, 1) := by decide +kernel
theorem dX4_reachSet_26 : decode cX4_reachSet 26 = .ok (.iload_n 1, 1) := by decide +kernel
theorem dX4_reachSet_27 : decode cX4_reachSet 27 = .ok (.iload 4, 2) := by decide +kernel
theorem dX4_reachSet_29 : decode cX4_reachSet 29 = .ok (.invokevirtual 92, 3) := by decide +kernel
theorem dX4_reachSet_32 : decode cX4_reachSet 32 = .ok (.ifCond .ne 9, 3) := by decide +kernel
theorem dX4_reachSet_35 : decode cX4_reachSet 35 = .ok (.iload_n 2, 1) := by decide +kernel
theorem dX4_reachSet_36 : decode cX4_reachSet 36 = .ok (.iconst 1, 1) := by decide +kernel
theorem dX4_reachSet_37 : decode cX4_reachSet 37 = .ok (.iload_n 3, 1) := by decide +kernel
theorem dX4_reachSet_38 : decode cX4_reachSet 38 = .ok (.ishl, 1) := by decide +kernel
theorem dX4_reachSet_39 : decode cX4_reachSet 39 = .ok (.ior, 1) := by decide +kernel
theorem dX4_reachSet_40 : decode cX4_reachSet 40 = .ok (.istore_n 2, 1) := by decide +kernel
theorem dX4_reachSet_41 : decode cX4_reachSet 41 = .ok (.iinc 3 1, 3) := by decide +kernel
theorem dX4_reachSet_44 : decode cX4_reachSet 44 = .ok (.goto (-40), 3) := by decide +kernel
theorem dX4_reachSet_47 : decode cX4_reachSet 47 = .ok (.iload_n 2, 1) := by decide +kernel
theorem dX4_reachSet_48 : decode cX4_reachSet 48 = .ok (.ireturn, 1) := by decide +kernel
theorem dX4_nappingSet_0 : decode cX4_nappingSet 0 = .ok (.iconst 0, 1) := by decide +kernel
theorem dX4_nappingSet_1 : decode cX4_nappingSet 1 = .ok (.istore_n 1, 1) := by decide +kernel
theorem dX4_nappingSet_2 : decode cX4_nappingSet 2 = .ok (.iconst 0, 1) := by decide +kernel
theorem dX4_nappingSet_3 : decode cX4_nappingSet 3 = .ok (.istore_n 2, 1) := by decide +kernel
theorem dX4_nappingSet_4 : decode cX4_nappingSet 4 = .ok (.iload_n 2, 1) := by decide +kernel
theorem dX4_nappingSet_5 : decode cX4_nappingSet 5 = .ok (.aload_n 0, 1) := by decide +kernel
theorem dX4_nappingSet_6 : decode cX4_nappingSet 6 = .ok (.getfield 19, 3) := by decide +kernel
theorem dX4_nappingSet_9 : decode cX4_nappingSet 9 = .ok (.if_icmp .ge 23, 3) := by decide +kernel
theorem dX4_nappingSet_12 : decode cX4_nappingSet 12 = .ok (.aload_n 0, 1) := by decide +kernel
theorem dX4_nappingSet_13 : decode cX4_nappingSet 13 = .ok (.iload_n 2, 1) := by decide +kernel
theorem dX4_nappingSet_14 : decode cX4_nappingSet 14 = .ok (.invokevirtual 100, 3) := by decide +kernel
theorem dX4_nappingSet_17 : decode cX4_nappingSet 17 = .ok (.ifCond .eq 9, 3) := by decide +kernel
theorem dX4_nappingSet_20 : decode cX4_nappingSet 20 = .ok (.iload_n 1, 1) := by decide +kernel
theorem dX4_nappingSet_21 : decode cX4_nappingSet 21 = .ok (.iconst 1, 1) := by decide +kernel
theorem dX4_nappingSet_22 : decode cX4_nappingSet 22 = .ok (.iload_n 2, 1) := by decide +kernel
theorem dX4_nappingSet_23 : decode cX4_nappingSet 23 = .ok (.ishl, 1) := by decide +kernel
theorem dX4_nappingSet_24 : decode cX4_nappingSet 24 = .ok (.ior, 1) := by decide +kernel
theorem dX4_nappingSet_25 : decode cX4_nappingSet 25 = .ok (.istore_n 1, 1) := by decide +kernel
theorem dX4_nappingSet_26 : decode cX4_nappingSet 26 = .ok (.iinc 2 1, 3) := by decide +kernel
theorem dX4_nappingSet_29 : decode cX4_nappingSet 29 = .ok (.goto (-25), 3) := by decide +kernel
theorem dX4_nappingSet_32 : decode cX4_nappingSet 32 = .ok (.iload_n 1, 1) := by decide +kernel
theorem dX4_nappingSet_33 : decode cX4_nappingSet 33 = .ok (.ireturn, 1) := by decide +kernel
theorem dX4_lastWaking_0 : decode cX4_lastWaking 0 = .ok (.bipush (-6), 2) := by decide +kernel
theorem dX4_lastWaking_2 : decode cX4_lastWaking 2 = .ok (.istore_n 1, 1) := by decide +kernel
theorem dX4_lastWaking_3 : decode cX4_lastWaking 3 = .ok (.iconst 0, 1) := by decide +kernel
theorem dX4_lastWaking_4 : decode cX4_lastWaking 4 = .ok (.istore_n 2, 1) := by decide +kernel
theorem dX4_lastWaking_5 : decode cX4_lastWaking 5 = .ok (.iload_n 2, 1) := by decide +kernel
theorem dX4_lastWaking_6 : decode cX4_lastWaking 6 = .ok (.aload_n 0, 1) := by decide +kernel
theorem dX4_lastWaking_7 : decode cX4_lastWaking 7 = .ok (.getfield 19, 3) := by decide +kernel
theorem dX4_lastWaking_10 : decode cX4_lastWaking 10 = .ok (.if_icmp .ge 20, 3) := by decide +kernel
theorem dX4_lastWaking_13 : decode cX4_lastWaking 13 = .ok (.iload_n 1, 1) := by decide +kernel
theorem dX4_lastWaking_14 : decode cX4_lastWaking 14 = .ok (.aload_n 0, 1) := by decide +kernel
theorem dX4_lastWaking_15 : decode cX4_lastWaking 15 = .ok (.getfield 34, 3) := by decide +kernel
theorem dX4_lastWaking_18 : decode cX4_lastWaking 18 = .ok (.iload_n 2, 1) := by decide +kernel
theorem dX4_lastWaking_19 : decode cX4_lastWaking 19 = .ok (.iaload, 1) := by decide +kernel
theorem dX4_lastWaking_20 : decode cX4_lastWaking 20 = .ok (.invokestatic 173, 3) := by decide +kernel
theorem dX4_lastWaking_23 : decode cX4_lastWaking 23 = .ok (.istore_n 1, 1) := by decide +kernel
theorem dX4_lastWaking_24 : decode cX4_lastWaking 24 = .ok (.iinc 2 1, 3) := by decide +kernel
theorem dX4_lastWaking_27 : decode cX4_lastWaking 27 = .ok (.goto (-22), 3) := by decide +kernel
theorem dX4_lastWaking_30 : decode cX4_lastWaking 30 = .ok (.iload_n 1, 1) := by decide +kernel
theorem dX4_lastWaking_31 : decode cX4_lastWaking 31 = .ok (.ireturn, 1) := by decide +kernel
theorem dX4_sumOfAll_0 : decode cX4_sumOfAll 0 = .ok (.iconst 0, 1) := by decide +kernel
theorem dX4_sumOfAll_1 : decode cX4_sumOfAll 1 = .ok (.istore_n 2, 1) := by decide +kernel
theorem dX4_sumOfAll_2 : decode cX4_sumOfAll 2 = .ok (.iconst 0, 1) := by decide +kernel
theorem dX4_sumOfAll_3 : decode cX4_sumOfAll 3 = .ok (.istore_n 3, 1) := by decide +kernel
theorem dX4_sumOfAll_4 : decode cX4_sumOfAll 4 = .ok (.iload_n 3, 1) := by decide +kernel
theorem dX4_sumOfAll_5 : decode cX4_sumOfAll 5 = .ok (.aload_n 0, 1) := by decide +kernel
theorem dX4_sumOfAll_6 : decode cX4_sumOfAll 6 = .ok (.getfield 19, 3) := by decide +kernel
theorem dX4_sumOfAll_9 : decode cX4_sumOfAll 9 = .ok (.if_icmp .ge 21, 3) := by decide +kernel
theorem dX4_sumOfAll_12 : decode cX4_sumOfAll 12 = .ok (.iload_n 3, 1) := by decide +kernel
theorem dX4_sumOfAll_13 : decode cX4_sumOfAll 13 = .ok (.aload_n 1, 1) := by decide +kernel
theorem dX4_sumOfAll_14 : decode cX4_sumOfAll 14 = .ok (.arraylength, 1) := by decide +kernel
theorem dX4_sumOfAll_15 : decode cX4_sumOfAll 15 = .ok (.if_icmp .ge 15, 3) := by decide +kernel
theorem dX4_sumOfAll_18 : decode cX4_sumOfAll 18 = .ok (.iload_n 2, 1) := by decide +kernel
theorem dX4_sumOfAll_19 : decode cX4_sumOfAll 19 = .ok (.aload_n 1, 1) := by decide +kernel
theorem dX4_sumOfAll_20 : decode cX4_sumOfAll 20 = .ok (.iload_n 3, 1) := by decide +kernel
theorem dX4_sumOfAll_21 : decode cX4_sumOfAll 21 = .ok (.iaload, 1) := by decide +kernel
theorem dX4_sumOfAll_22 : decode cX4_sumOfAll 22 = .ok (.iadd, 1) := by decide +kernel
theorem dX4_sumOfAll_23 : decode cX4_sumOfAll 23 = .ok (.istore_n 2, 1) := by decide +kernel
theorem dX4_sumOfAll_24 : decode cX4_sumOfAll 24 = .ok (.iinc 3 1, 3) := by decide +kernel
theorem dX4_sumOfAll_27 : decode cX4_sumOfAll 27 = .ok (.goto (-23), 3) := by decide +kernel
theorem dX4_sumOfAll_30 : decode cX4_sumOfAll 30 = .ok (.iload_n 2, 1) := by decide +kernel
theorem dX4_sumOfAll_31 : decode cX4_sumOfAll 31 = .ok (.ireturn, 1) := by decide +kernel
theorem dX5_init_0 : decode cX5_init 0 = .ok (.aload_n 0, 1) := by decide +kernel
theorem dX5_init_1 : decode cX5_init 1 = .ok (.invokespecial 3, 3) := by decide +kernel
theorem dX5_init_4 : decode cX5_init 4 = .ok (.aload_n 0, 1) := by decide +kernel
theorem dX5_init_5 : decode cX5_init 5 = .ok (.sipush 240, 3) := by decide +kernel
theorem dX5_init_8 : decode cX5_init 8 = .ok (.newarray .int, 2) := by decide +kernel
theorem dX5_init_10 : decode cX5_init 10 = .ok (.putfield 9, 3) := by decide +kernel
theorem dX5_init_13 : decode cX5_init 13 = .ok (.aload_n 0, 1) := by decide +kernel
theorem dX5_init_14 : decode cX5_init 14 = .ok (.sipush 240, 3) := by decide +kernel
theorem dX5_init_17 : decode cX5_init 17 = .ok (.newarray .int, 2) := by decide +kernel
theorem dX5_init_19 : decode cX5_init 19 = .ok (.putfield 15, 3) := by decide +kernel
theorem dX5_init_22 : decode cX5_init 22 = .ok (.aload_n 0, 1) := by decide +kernel
theorem dX5_init_23 : decode cX5_init 23 = .ok (.iconst 0, 1) := by decide +kernel
theorem dX5_init_24 : decode cX5_init 24 = .ok (.putfield 18, 3) := by decide +kernel
theorem dX5_init_27 : decode cX5_init 27 = .ok (.return_, 1) := by decide +kernel
theorem dX5_copyFrom_0 : decode cX5_copyFrom 0 = .ok (.aload_n 0, 1) := by decide +kernel
theorem dX5_copyFrom_1 : decode cX5_copyFrom 1 = .ok (.aload_n 1, 1) := by decide +kernel
theorem dX5_copyFrom_2 : decode cX5_copyFrom 2 = .ok (.getfield 18, 3) := by decide +kernel
theorem dX5_copyFrom_5 : decode cX5_copyFrom 5 = .ok (.putfield 18, 3) := by decide +kernel
theorem dX5_copyFrom_8 : decode cX5_copyFrom 8 = .ok (.aload_n 1, 1) := by decide +kernel
theorem dX5_copyFrom_9 : decode cX5_copyFrom 9 = .ok (.getfield 9, 3) := by decide +kernel
theorem dX5_copyFrom_12 : decode cX5_copyFrom 12 = .ok (.iconst 0, 1) := by decide +kernel
theorem dX5_copyFrom_13 : decode cX5_copyFrom 13 = .ok (.aload_n 0, 1) := by decide +kernel
theorem dX5_copyFrom_14 : decode cX5_copyFrom 14 = .ok (.getfield 9, 3) := by decide +kernel
theorem dX5_copyFrom_17 : decode cX5_copyFrom 17 = .ok (.iconst 0, 1) := by decide +kernel
theorem dX5_copyFrom_18 : decode cX5_copyFrom 18 = .ok (.aload_n 0, 1) := by decide +kernel
theorem dX5_copyFrom_19 : decode cX5_copyFrom 19 = .ok (.getfield 18, 3) := by decide +kernel
theorem dX5_copyFrom_22 : decode cX5_copyFrom 22 = .ok (.invokestatic 22, 3) := by decide +kernel
theorem dX5_copyFrom_25 : decode cX5_copyFrom 25 = .ok (.aload_n 1, 1) := by decide +kernel
theorem dX5_copyFrom_26 : decode cX5_copyFrom 26 = .ok (.getfield 15, 3) := by decide +kernel
theorem dX5_copyFrom_29 : decode cX5_copyFrom 29 = .ok (.iconst 0, 1) := by decide +kernel
theorem dX5_copyFrom_30 : decode cX5_copyFrom 30 = .ok (.aload_n 0, 1) := by decide +kernel
theorem dX5_copyFrom_31 : decode cX5_copyFrom 31 = .ok (.getfield 15, 3) := by decide +kernel
theorem dX5_copyFrom_34 : decode cX5_copyFrom 34 = .ok (.iconst 0, 1) := by decide +kernel
theorem dX5_copyFrom_35 : decode cX5_copyFrom 35 = .ok (.aload_n 0, 1) := by decide +kernel
theorem dX5_copyFrom_36 : decode cX5_copyFrom 36 = .ok (.getfield 18, 3) := by decide +kernel
theorem dX5_copyFrom_39 : decode cX5_copyFrom 39 = .ok (.invokestatic 22, 3) := by decide +kernel
theorem dX5_copyFrom_42 : decode cX5_copyFrom 42 = .ok (.return_, 1) := by decide +kernel
theorem dX5_lay_0 : decode cX5_lay 0 = .ok (.aload_n 0, 1) := by decide +kernel
theorem dX5_lay_1 : decode cX5_lay 1 = .ok (.getfield 18, 3) := by decide +kernel
theorem dX5_lay_4 : decode cX5_lay 4 = .ok (.sipush 240, 3) := by decide +kernel
theorem dX5_lay_7 : decode cX5_lay 7 = .ok (.if_icmp .lt 4, 3) := by decide +kernel
theorem dX5_lay_10 : decode cX5_lay 10 = .ok (.return_, 1) := by decide +kernel
theorem dX5_lay_11 : decode cX5_lay 11 = .ok (.aload_n 0, 1) := by decide +kernel
theorem dX5_lay_12 : decode cX5_lay 12 = .ok (.getfield 9, 3) := by decide +kernel
theorem dX5_lay_15 : decode cX5_lay 15 = .ok (.aload_n 0, 1) := by decide +kernel
theorem dX5_lay_16 : decode cX5_lay 16 = .ok (.getfield 18, 3) := by decide +kernel
theorem dX5_lay_19 : decode cX5_lay 19 = .ok (.iload_n 1, 1) := by decide +kernel
theorem dX5_lay_20 : decode cX5_lay 20 = .ok (.iastore, 1) := by decide +kernel
theorem dX5_lay_21 : decode cX5_lay 21 = .ok (.aload_n 0, 1) := by decide +kernel
theorem dX5_lay_22 : decode cX5_lay 22 = .ok (.getfield 15, 3) := by decide +kernel
theorem dX5_lay_25 : decode cX5_lay 25 = .ok (.aload_n 0, 1) := by decide +kernel
theorem dX5_lay_26 : decode cX5_lay 26 = .ok (.getfield 18, 3) := by decide +kernel
theorem dX5_lay_29 : decode cX5_lay 29 = .ok (.iload_n 2, 1) := by decide +kernel
theorem dX5_lay_30 : decode cX5_lay 30 = .ok (.iastore, 1) := by decide +kernel
theorem dX5_lay_31 : decode cX5_lay 31 = .ok (.aload_n 0, 1) := by decide +kernel
theorem dX5_lay_32 : decode cX5_lay 32 = .ok (.dup, 1) := by decide +kernel
theorem dX5_lay_33 : decode cX5_lay 33 = .ok (.getfield 18, 3) := by decide +kernel
theorem dX5_lay_36 : decode cX5_lay 36 = .ok (.iconst 1, 1) := by decide +kernel
theorem dX5_lay_37 : decode cX5_lay 37 = .ok (.iadd, 1) := by decide +kernel
theorem dX5_lay_38 : decode cX5_lay 38 = .ok (.putfield 18, 3) := by decide +kernel
theorem dX5_lay_41 : decode cX5_lay 41 = .ok (.return_, 1) := by decide +kernel
theorem dX5_removeTop_0 : decode cX5_removeTop 0 = .ok (.aload_n 0, 1) := by decide +kernel
theorem dX5_removeTop_1 : decode cX5_removeTop 1 = .ok (.getfield 18, 3) := by decide +kernel
theorem dX5_removeTop_4 : decode cX5_removeTop 4 = .ok (.iconst 1, 1) := by decide +kernel
theorem dX5_removeTop_5 : decode cX5_removeTop 5 = .ok (.isub, 1) := by decide +kernel
theorem dX5_removeTop_6 : decode cX5_removeTop 6 = .ok (.istore_n 2, 1) := by decide +kernel
theorem dX5_removeTop_7 : decode cX5_removeTop 7 = .ok (.iload_n 2, 1) := by decide +kernel
theorem dX5_removeTop_8 : decode cX5_removeTop 8 = .ok (.ifCond .lt 19, 3) := by decide +kernel
theorem dX5_removeTop_11 : decode cX5_removeTop 11 = .ok (.aload_n 0, 1) := by decide +kernel
theorem dX5_removeTop_12 : decode cX5_removeTop 12 = .ok (.getfield 9, 3) := by decide +kernel
theorem dX5_removeTop_15 : decode cX5_removeTop 15 = .ok (.iload_n 2, 1) := by decide +kernel
theorem dX5_removeTop_16 : decode cX5_removeTop 16 = .ok (.iaload, 1) := by decide +kernel
theorem dX5_removeTop_17 : decode cX5_removeTop 17 = .ok (.iload_n 1, 1) := by decide +kernel
theorem dX5_removeTop_18 : decode cX5_removeTop 18 = .ok (.if_icmp .eq 9, 3) := by decide +kernel
theorem dX5_removeTop_21 : decode cX5_removeTop 21 = .ok (.iinc 2 (-1), 3) := by decide +kernel
theorem dX5_removeTop_24 : decode cX5_removeTop 24 = .ok (.goto (-17), 3) := by decide +kernel
theorem dX5_removeTop_27 : decode cX5_removeTop 27 = .ok (.iload_n 2, 1) := by decide +kernel
theorem dX5_removeTop_28 : decode cX5_removeTop 28 = .ok (.ifCond .ge 4, 3) := by decide +kernel
theorem dX5_removeTop_31 : decode cX5_removeTop 31 = .ok (.return_, 1) := by decide +kernel
theorem dX5_removeTop_32 : decode cX5_removeTop 32 = .ok (.iload_n 2, 1) := by decide +kernel
theorem dX5_removeTop_33 : decode cX5_removeTop 33 = .ok (.iconst 1, 1) := by decide +kernel
theorem dX5_removeTop_34 : decode cX5_removeTop 34 = .ok (.iadd, 1) := by decide +kernel
theorem dX5_removeTop_35 : decode cX5_removeTop 35 = .ok (.istore_n 3, 1) := by decide +kernel
theorem dX5_removeTop_36 : decode cX5_removeTop 36 = .ok (.iload_n 3, 1) := by decide +kernel
theorem dX5_removeTop_37 : decode cX5_removeTop 37 = .ok (.aload_n 0, 1) := by decide +kernel
theorem dX5_removeTop_38 : decode cX5_removeTop 38 = .ok (.getfield 18, 3) := by decide +kernel
theorem dX5_removeTop_41 : decode cX5_removeTop 41 = .ok (.if_icmp .ge 37, 3) := by decide +kernel
theorem dX5_removeTop_44 : decode cX5_removeTop 44 = .ok (.aload_n 0, 1) := by decide +kernel
theorem dX5_removeTop_45 : decode cX5_removeTop 45 = .ok (.getfield 9, 3) := by decide +kernel
theorem dX5_removeTop_48 : decode cX5_removeTop 48 = .ok (.iload_n 3, 1) := by decide +kernel
theorem dX5_removeTop_49 : decode cX5_removeTop 49 = .ok (.iconst 1, 1) := by decide +kernel
theorem dX5_removeTop_50 : decode cX5_removeTop 50 = .ok (.isub, 1) := by decide +kernel
theorem dX5_removeTop_51 : decode cX5_removeTop 51 = .ok (.aload_n 0, 1) := by decide +kernel
theorem dX5_removeTop_52 : decode cX5_removeTop 52 = .ok (.getfield 9, 3) := by decide +kernel
theorem dX5_removeTop_55 : decode cX5_removeTop 55 = .ok (.iload_n 3, 1) := by decide +kernel
theorem dX5_removeTop_56 : decode cX5_removeTop 56 = .ok (.iaload, 1) := by decide +kernel
theorem dX5_removeTop_57 : decode cX5_removeTop 57 = .ok (.iastore, 1) := by decide +kernel
theorem dX5_removeTop_58 : decode cX5_removeTop 58 = .ok (.aload_n 0, 1) := by decide +kernel
theorem dX5_removeTop_59 : decode cX5_removeTop 59 = .ok (.getfield 15, 3) := by decide +kernel
theorem dX5_removeTop_62 : decode cX5_removeTop 62 = .ok (.iload_n 3, 1) := by decide +kernel
theorem dX5_removeTop_63 : decode cX5_removeTop 63 = .ok (.iconst 1, 1) := by decide +kernel
theorem dX5_removeTop_64 : decode cX5_removeTop 64 = .ok (.isub, 1) := by decide +kernel
theorem dX5_removeTop_65 : decode cX5_removeTop 65 = .ok (.aload_n 0, 1) := by decide +kernel
theorem dX5_removeTop_66 : decode cX5_removeTop 66 = .ok (.getfield 15, 3) := by decide +kernel
theorem dX5_removeTop_69 : decode cX5_removeTop 69 = .ok (.iload_n 3, 1) := by decide +kernel
theorem dX5_removeTop_70 : decode cX5_removeTop 70 = .ok (.iaload, 1) := by decide +kernel
theorem dX5_removeTop_71 : decode cX5_removeTop 71 = .ok (.iastore, 1) := by decide +kernel
theorem dX5_removeTop_72 : decode cX5_removeTop 72 = .ok (.iinc 3 1, 3) := by decide +kernel
theorem dX5_removeTop_75 : decode cX5_removeTop 75 = .ok (.goto (-39), 3) := by decide +kernel
theorem dX5_removeTop_78 : decode cX5_removeTop 78 = .ok (.aload_n 0, 1) := by decide +kernel
theorem dX5_removeTop_79 : decode cX5_removeTop 79 = .ok (.dup, 1) := by decide +kernel
theorem dX5_removeTop_80 : decode cX5_removeTop 80 = .ok (.getfield 18, 3) := by decide +kernel
theorem dX5_removeTop_83 : decode cX5_removeTop 83 = .ok (.iconst 1, 1) := by decide +kernel
theorem dX5_removeTop_84 : decode cX5_removeTop 84 = .ok (.isub, 1) := by decide +kernel
theorem dX5_removeTop_85 : decode cX5_removeTop 85 = .ok (.putfield 18, 3) := by decide +kernel
theorem dX5_removeTop_88 : decode cX5_removeTop 88 = .ok (.return_, 1) := by decide +kernel
theorem dX5_removeAll_0 : decode cX5_removeAll 0 = .ok (.iconst 0, 1) := by decide +kernel
theorem dX5_removeAll_1 : decode cX5_removeAll 1 = .ok (.istore_n 3, 1) := by decide +kernel
theorem dX5_removeAll_2 : decode cX5_removeAll 2 = .ok (.iconst 0, 1) := by decide +kernel
theorem dX5_removeAll_3 : decode cX5_removeAll 3 = .ok (.istore 4, 2) := by decide +kernel
theorem dX5_removeAll_5 : decode cX5_removeAll 5 = .ok (.iload 4, 2) := by decide +kernel
theorem dX5_removeAll_7 : decode cX5_removeAll 7 = .ok (.aload_n 0, 1) := by decide +kernel
theorem dX5_removeAll_8 : decode cX5_removeAll 8 = .ok (.getfield 18, 3) := by decide +kernel
theorem dX5_removeAll_11 : decode cX5_removeAll 11 = .ok (.if_icmp .ge 63, 3) := by decide +kernel
theorem dX5_removeAll_14 : decode cX5_removeAll 14 = .ok (.aload_n 0, 1) := by decide +kernel
theorem dX5_removeAll_15 : decode cX5_removeAll 15 = .ok (.getfield 9, 3) := by decide +kernel
theorem dX5_removeAll_18 : decode cX5_removeAll 18 = .ok (.iload 4, 2) := by decide +kernel
theorem dX5_removeAll_20 : decode cX5_removeAll 20 = .ok (.iaload, 1) := by decide +kernel
theorem dX5_removeAll_21 : decode cX5_removeAll 21 = .ok (.iload_n 1, 1) := by decide +kernel
theorem dX5_removeAll_22 : decode cX5_removeAll 22 = .ok (.if_icmp .ne 17, 3) := by decide +kernel
theorem dX5_removeAll_25 : decode cX5_removeAll 25 = .ok (.aload_n 0, 1) := by decide +kernel
theorem dX5_removeAll_26 : decode cX5_removeAll 26 = .ok (.getfield 15, 3) := by decide +kernel
theorem dX5_removeAll_29 : decode cX5_removeAll 29 = .ok (.iload 4, 2) := by decide +kernel
theorem dX5_removeAll_31 : decode cX5_removeAll 31 = .ok (.iaload, 1) := by decide +kernel
theorem dX5_removeAll_32 : decode cX5_removeAll 32 = .ok (.iload_n 2, 1) := by decide +kernel
theorem dX5_removeAll_33 : decode cX5_removeAll 33 = .ok (.if_icmp .ne 6, 3) := by decide +kernel
theorem dX5_removeAll_36 : decode cX5_removeAll 36 = .ok (.goto 32, 3) := by decide +kernel
theorem dX5_removeAll_39 : decode cX5_removeAll 39 = .ok (.aload_n 0, 1) := by decide +kernel
theorem dX5_removeAll_40 : decode cX5_removeAll 40 = .ok (.getfield 9, 3) := by decide +kernel
theorem dX5_removeAll_43 : decode cX5_removeAll 43 = .ok (.iload_n 3, 1) := by decide +kernel
theorem dX5_removeAll_44 : decode cX5_removeAll 44 = .ok (.aload_n 0, 1) := by decide +kernel
theorem dX5_removeAll_45 : decode cX5_removeAll 45 = .ok (.getfield 9, 3) := by decide +kernel
theorem dX5_removeAll_48 : decode cX5_removeAll 48 = .ok (.iload 4, 2) := by decide +kernel
theorem dX5_removeAll_50 : decode cX5_removeAll 50 = .ok (.iaload, 1) := by decide +kernel
theorem dX5_removeAll_51 : decode cX5_removeAll 51 = .ok (.iastore, 1) := by decide +kernel
theorem dX5_removeAll_52 : decode cX5_removeAll 52 = .ok (.aload_n 0, 1) := by decide +kernel
theorem dX5_removeAll_53 : decode cX5_removeAll 53 = .ok (.getfield 15, 3) := by decide +kernel
theorem dX5_removeAll_56 : decode cX5_removeAll 56 = .ok (.iload_n 3, 1) := by decide +kernel
theorem dX5_removeAll_57 : decode cX5_removeAll 57 = .ok (.aload_n 0, 1) := by decide +kernel
theorem dX5_removeAll_58 : decode cX5_removeAll 58 = .ok (.getfield 15, 3) := by decide +kernel
theorem dX5_removeAll_61 : decode cX5_removeAll 61 = .ok (.iload 4, 2) := by decide +kernel
theorem dX5_removeAll_63 : decode cX5_removeAll 63 = .ok (.iaload, 1) := by decide +kernel
theorem dX5_removeAll_64 : decode cX5_removeAll 64 = .ok (.iastore, 1) := by decide +kernel
theorem dX5_removeAll_65 : decode cX5_removeAll 65 = .ok (.iinc 3 1, 3) := by decide +kernel
theorem dX5_removeAll_68 : decode cX5_removeAll 68 = .ok (.iinc 4 1, 3) := by decide +kernel
theorem dX5_removeAll_71 : decode cX5_removeAll 71 = .ok (.goto (-66), 3) := by decide +kernel
theorem dX5_removeAll_74 : decode cX5_removeAll 74 = .ok (.aload_n 0, 1) := by decide +kernel
theorem dX5_removeAll_75 : decode cX5_removeAll 75 = .ok (.getfield 18, 3) := by decide +kernel
theorem dX5_removeAll_78 : decode cX5_removeAll 78 = .ok (.iload_n 3, 1) := by decide +kernel
theorem dX5_removeAll_79 : decode cX5_removeAll 79 = .ok (.isub, 1) := by decide +kernel
theorem dX5_removeAll_80 : decode cX5_removeAll 80 = .ok (.istore 4, 2) := by decide +kernel
theorem dX5_removeAll_82 : decode cX5_removeAll 82 = .ok (.aload_n 0, 1) := by decide +kernel
theorem dX5_removeAll_83 : decode cX5_removeAll 83 = .ok (.iload_n 3, 1) := by decide +kernel
theorem dX5_removeAll_84 : decode cX5_removeAll 84 = .ok (.putfield 18, 3) := by decide +kernel
theorem dX5_removeAll_87 : decode cX5_removeAll 87 = .ok (.iload 4, 2) := by decide +kernel
theorem dX5_removeAll_89 : decode cX5_removeAll 89 = .ok (.ireturn, 1) := by decide +kernel
theorem dX5_topOwner_0 : decode cX5_topOwner 0 = .ok (.aload_n 0, 1) := by decide +kernel
theorem dX5_topOwner_1 : decode cX5_topOwner 1 = .ok (.getfield 18, 3) := by decide +kernel
theorem dX5_topOwner_4 : decode cX5_topOwner 4 = .ok (.iconst 1, 1) := by decide +kernel
theorem dX5_topOwner_5 : decode cX5_topOwner 5 = .ok (.isub, 1) := by decide +kernel
theorem dX5_topOwner_6 : decode cX5_topOwner 6 = .ok (.istore_n 2, 1) := by decide +kernel
theorem dX5_topOwner_7 : decode cX5_topOwner 7 = .ok (.iload_n 2, 1) := by decide +kernel
theorem dX5_topOwner_8 : decode cX5_topOwner 8 = .ok (.ifCond .lt 26, 3) := by decide +kernel
theorem dX5_topOwner_11 : decode cX5_topOwner 11 = .ok (.aload_n 0, 1) := by decide +kernel
theorem dX5_topOwner_12 : decode cX5_topOwner 12 = .ok (.getfield 9, 3) := by decide +kernel
theorem dX5_topOwner_15 : decode cX5_topOwner 15 = .ok (.iload_n 2, 1) := by decide +kernel
theorem dX5_topOwner_16 : decode cX5_topOwner 16 = .ok (.iaload, 1) := by decide +kernel
theorem dX5_topOwner_17 : decode cX5_topOwner 17 = .ok (.iload_n 1, 1) := by decide +kernel
theorem dX5_topOwner_18 : decode cX5_topOwner 18 = .ok (.if_icmp .ne 10, 3) := by decide +kernel
theorem dX5_topOwner_21 : decode cX5_topOwner 21 = .ok (.aload_n 0, 1) := by decide +kernel
theorem dX5_topOwner_22 : decode cX5_topOwner 22 = .ok (.getfield 15, 3) := by decide +kernel
theorem dX5_topOwner_25 : decode cX5_topOwner 25 = .ok (.iload_n 2, 1) := by decide +kernel
theorem dX5_topOwner_26 : decode cX5_topOwner 26 = .ok (.iaload, 1) := by decide +kernel
theorem dX5_topOwner_27 : decode cX5_topOwner 27 = .ok (.ireturn, 1) := by decide +kernel
theorem dX5_topOwner_28 : decode cX5_topOwner 28 = .ok (.iinc 2 (-1), 3) := by decide +kernel
theorem dX5_topOwner_31 : decode cX5_topOwner 31 = .ok (.goto (-24), 3) := by decide +kernel
theorem dX5_topOwner_34 : decode cX5_topOwner 34 = .ok (.bipush (-6), 2) := by decide +kernel
theorem dX5_topOwner_36 : decode cX5_topOwner 36 = .ok (.ireturn, 1) := by decide +kernel
theorem dX5_ownerAt_0 : decode cX5_ownerAt 0 = .ok (.iconst 0, 1) := by decide +kernel
theorem dX5_ownerAt_1 : decode cX5_ownerAt 1 = .ok (.istore_n 3, 1) := by decide +kernel
theorem dX5_ownerAt_2 : decode cX5_ownerAt 2 = .ok (.iconst 0, 1) := by decide +kernel
theorem dX5_ownerAt_3 : decode cX5_ownerAt 3 = .ok (.istore 4, 2) := by decide +kernel
theorem dX5_ownerAt_5 : decode cX5_ownerAt 5 = .ok (.iload 4, 2) := by decide +kernel
theorem dX5_ownerAt_7 : decode cX5_ownerAt 7 = .ok (.aload_n 0, 1) := by decide +kernel
theorem dX5_ownerAt_8 : decode cX5_ownerAt 8 = .ok (.getfield 18, 3) := by decide +kernel
theorem dX5_ownerAt_11 : decode cX5_ownerAt 11 = .ok (.if_icmp .ge 39, 3) := by decide +kernel
theorem dX5_ownerAt_14 : decode cX5_ownerAt 14 = .ok (.aload_n 0, 1) := by decide +kernel
theorem dX5_ownerAt_15 : decode cX5_ownerAt 15 = .ok (.getfield 9, 3) := by decide +kernel
theorem dX5_ownerAt_18 : decode cX5_ownerAt 18 = .ok (.iload 4, 2) := by decide +kernel
theorem dX5_ownerAt_20 : decode cX5_ownerAt 20 = .ok (.iaload, 1) := by decide +kernel
theorem dX5_ownerAt_21 : decode cX5_ownerAt 21 = .ok (.iload_n 1, 1) := by decide +kernel
theorem dX5_ownerAt_22 : decode cX5_ownerAt 22 = .ok (.if_icmp .eq 6, 3) := by decide +kernel
theorem dX5_ownerAt_25 : decode cX5_ownerAt 25 = .ok (.goto 19, 3) := by decide +kernel
theorem dX5_ownerAt_28 : decode cX5_ownerAt 28 = .ok (.iload_n 3, 1) := by decide +kernel
theorem dX5_ownerAt_29 : decode cX5_ownerAt 29 = .ok (.iload_n 2, 1) := by decide +kernel
theorem dX5_ownerAt_30 : decode cX5_ownerAt 30 = .ok (.if_icmp .ne 11, 3) := by decide +kernel
theorem dX5_ownerAt_33 : decode cX5_ownerAt 33 = .ok (.aload_n 0, 1) := by decide +kernel
theorem dX5_ownerAt_34 : decode cX5_ownerAt 34 = .ok (.getfield 15, 3) := by decide +kernel
theorem dX5_ownerAt_37 : decode cX5_ownerAt 37 = .ok (.iload 4, 2) := by decide +kernel
theorem dX5_ownerAt_39 : decode cX5_ownerAt 39 = .ok (.iaload, 1) := by decide +kernel
theorem dX5_ownerAt_40 : decode cX5_ownerAt 40 = .ok (.ireturn, 1) := by decide +kernel
theorem dX5_ownerAt_41 : decode cX5_ownerAt 41 = .ok (.iinc 3 1, 3) := by decide +kernel
theorem dX5_ownerAt_44 : decode cX5_ownerAt 44 = .ok (.iinc 4 1, 3) := by decide +kernel
theorem dX5_ownerAt_47 : decode cX5_ownerAt 47 = .ok (.goto (-42), 3) := by decide +kernel
theorem dX5_ownerAt_50 : decode cX5_ownerAt 50 = .ok (.iconst (-1), 1) := by decide +kernel
theorem dX5_ownerAt_51 : decode cX5_ownerAt 51 = .ok (.ireturn, 1) := by decide +kernel
theorem dX5_lyingAt_0 : decode cX5_lyingAt 0 = .ok (.iconst 0, 1) := by decide +kernel
theorem dX5_lyingAt_1 : decode cX5_lyingAt 1 = .ok (.istore_n 2, 1) := by decide +kernel
theorem dX5_lyingAt_2 : decode cX5_lyingAt 2 = .ok (.iconst 0, 1) := by decide +kernel
theorem dX5_lyingAt_3 : decode cX5_lyingAt 3 = .ok (.istore_n 3, 1) := by decide +kernel
theorem dX5_lyingAt_4 : decode cX5_lyingAt 4 = .ok (.iload_n 3, 1) := by decide +kernel
theorem dX5_lyingAt_5 : decode cX5_lyingAt 5 = .ok (.aload_n 0, 1) := by decide +kernel
theorem dX5_lyingAt_6 : decode cX5_lyingAt 6 = .ok (.getfield 18, 3) := by decide +kernel
theorem dX5_lyingAt_9 : decode cX5_lyingAt 9 = .ok (.if_icmp .ge 22, 3) := by decide +kernel
theorem dX5_lyingAt_12 : decode cX5_lyingAt 12 = .ok (.aload_n 0, 1) := by decide +kernel
theorem dX5_lyingAt_13 : decode cX5_lyingAt 13 = .ok (.getfield 9, 3) := by decide +kernel
theorem dX5_lyingAt_16 : decode cX5_lyingAt 16 = .ok (.iload_n 3, 1) := by decide +kernel
theorem dX5_lyingAt_17 : decode cX5_lyingAt 17 = .ok (.iaload, 1) := by decide +kernel
theorem dX5_lyingAt_18 : decode cX5_lyingAt 18 = .ok (.iload_n 1, 1) := by decide +kernel
theorem dX5_lyingAt_19 : decode cX5_lyingAt 19 = .ok (.if_icmp .ne 6, 3) := by decide +kernel
theorem dX5_lyingAt_22 : decode cX5_lyingAt 22 = .ok (.iinc 2 1, 3) := by decide +kernel
theorem dX5_lyingAt_25 : decode cX5_lyingAt 25 = .ok (.iinc 3 1, 3) := by decide +kernel
theorem dX5_lyingAt_28 : decode cX5_lyingAt 28 = .ok (.goto (-24), 3) := by decide +kernel
theorem dX5_lyingAt_31 : decode cX5_lyingAt 31 = .ok (.iload_n 2, 1) := by decide +kernel
theorem dX5_lyingAt_32 : decode cX5_lyingAt 32 = .ok (.ireturn, 1) := by decide +kernel
theorem dX5_lyingOf_0 : decode cX5_lyingOf 0 = .ok (.iconst 0, 1) := by decide +kernel
theorem dX5_lyingOf_1 : decode cX5_lyingOf 1 = .ok (.istore_n 2, 1) := by decide +kernel
theorem dX5_lyingOf_2 : decode cX5_lyingOf 2 = .ok (.iconst 0, 1) := by decide +kernel
theorem dX5_lyingOf_3 : decode cX5_lyingOf 3 = .ok (.istore_n 3, 1) := by decide +kernel
theorem dX5_lyingOf_4 : decode cX5_lyingOf 4 = .ok (.iload_n 3, 1) := by decide +kernel
theorem dX5_lyingOf_5 : decode cX5_lyingOf 5 = .ok (.aload_n 0, 1) := by decide +kernel
theorem dX5_lyingOf_6 : decode cX5_lyingOf 6 = .ok (.getfield 18, 3) := by decide +kernel
theorem dX5_lyingOf_9 : decode cX5_lyingOf 9 = .ok (.if_icmp .ge 22, 3) := by decide +kernel
theorem dX5_lyingOf_12 : decode cX5_lyingOf 12 = .ok (.aload_n 0, 1) := by decide +kernel
theorem dX5_lyingOf_13 : decode cX5_lyingOf 13 = .ok (.getfield 15, 3) := by decide +kernel
theorem dX5_lyingOf_16 : decode cX5_lyingOf 16 = .ok (.iload_n 3, 1) := by decide +kernel
theorem dX5_lyingOf_17 : decode cX5_lyingOf 17 = .ok (.iaload, 1) := by decide +kernel
theorem dX5_lyingOf_18 : decode cX5_lyingOf 18 = .ok (.iload_n 1, 1) := by decide +kernel
theorem dX5_lyingOf_19 : decode cX5_lyingOf 19 = .ok (.if_icmp .ne 6, 3) := by decide +kernel
theorem dX5_lyingOf_22 : decode cX5_lyingOf 22 = .ok (.iinc 2 1, 3) := by decide +kernel
theorem dX5_lyingOf_25 : decode cX5_lyingOf 25 = .ok (.iinc 3 1, 3) := by decide +kernel
theorem dX5_lyingOf_28 : decode cX5_lyingOf 28 = .ok (.goto (-24), 3) := by decide +kernel
theorem dX5_lyingOf_31 : decode cX5_lyingOf 31 = .ok (.iload_n 2, 1) := by decide +kernel
theorem dX5_lyingOf_32 : decode cX5_lyingOf 32 = .ok (.ireturn, 1) := by decide +kernel
theorem dX5_ownerSetAt_0 : decode cX5_ownerSetAt 0 = .ok (.iconst 0, 1) := by decide +kernel
theorem dX5_ownerSetAt_1 : decode cX5_ownerSetAt 1 = .ok (.istore_n 2, 1) := by decide +kernel
theorem dX5_ownerSetAt_2 : decode cX5_ownerSetAt 2 = .ok (.iconst 0, 1) := by decide +kernel
theorem dX5_ownerSetAt_3 : decode cX5_ownerSetAt 3 = .ok (.istore_n 3, 1) := by decide +kernel
theorem dX5_ownerSetAt_4 : decode cX5_ownerSetAt 4 = .ok (.iload_n 3, 1) := by decide +kernel
theorem dX5_ownerSetAt_5 : decode cX5_ownerSetAt 5 = .ok (.aload_n 0, 1) := by decide +kernel
theorem dX5_ownerSetAt_6 : decode cX5_ownerSetAt 6 = .ok (.getfield 18, 3) := by decide +kernel
theorem dX5_ownerSetAt_9 : decode cX5_ownerSetAt 9 = .ok (.if_icmp .ge 30, 3) := by decide +kernel
theorem dX5_ownerSetAt_12 : decode cX5_ownerSetAt 12 = .ok (.aload_n 0, 1) := by decide +kernel
theorem dX5_ownerSetAt_13 : decode cX5_ownerSetAt 13 = .ok (.getfield 9, 3) := by decide +kernel
theorem dX5_ownerSetAt_16 : decode cX5_ownerSetAt 16 = .ok (.iload_n 3, 1) := by decide +kernel
theorem dX5_ownerSetAt_17 : decode cX5_ownerSetAt 17 = .ok (.iaload, 1) := by decide +kernel
theorem dX5_ownerSetAt_18 : decode cX5_ownerSetAt 18 = .ok (.iload_n 1, 1) := by decide +kernel
theorem dX5_ownerSetAt_19 : decode cX5_ownerSetAt 19 = .ok (.if_icmp .ne 14, 3) := by decide +kernel
theorem dX5_ownerSetAt_22 : decode cX5_ownerSetAt 22 = .ok (.iload_n 2, 1) := by decide +kernel
theorem dX5_ownerSetAt_23 : decode cX5_ownerSetAt 23 = .ok (.iconst 1, 1) := by decide +kernel
theorem dX5_ownerSetAt_24 : decode cX5_ownerSetAt 24 = .ok (.aload_n 0, 1) := by decide +kernel
theorem dX5_ownerSetAt_25 : decode cX5_ownerSetAt 25 = .ok (.getfield 15, 3) := by decide +kernel
theorem dX5_ownerSetAt_28 : decode cX5_ownerSetAt 28 = .ok (.iload_n 3, 1) := by decide +kernel
theorem dX5_ownerSetAt_29 : decode cX5_ownerSetAt 29 = .ok (.iaload, 1) := by decide +kernel
theorem dX5_ownerSetAt_30 : decode cX5_ownerSetAt 30 = .ok (.ishl, 1) := by decide +kernel
theorem dX5_ownerSetAt_31 : decode cX5_ownerSetAt 31 = .ok (.ior, 1) := by decide +kernel
theorem dX5_ownerSetAt_32 : decode cX5_ownerSetAt 32 = .ok (.istore_n 2, 1) := by decide +kernel
theorem dX5_ownerSetAt_33 : decode cX5_ownerSetAt 33 = .ok (.iinc 3 1, 3) := by decide +kernel
theorem dX5_ownerSetAt_36 : decode cX5_ownerSetAt 36 = .ok (.goto (-32), 3) := by decide +kernel
theorem dX5_ownerSetAt_39 : decode cX5_ownerSetAt 39 = .ok (.iload_n 2, 1) := by decide +kernel
theorem dX5_ownerSetAt_40 : decode cX5_ownerSetAt 40 = .ok (.ireturn, 1) := by decide +kernel
theorem dX5_boundEdgeSet_0 : decode cX5_boundEdgeSet 0 = .ok (.iconst 0, 1) := by decide +kernel
theorem dX5_boundEdgeSet_1 : decode cX5_boundEdgeSet 1 = .ok (.istore_n 3, 1) := by decide +kernel
theorem dX5_boundEdgeSet_2 : decode cX5_boundEdgeSet 2 = .ok (.iconst 0, 1) := by decide +kernel
theorem dX5_boundEdgeSet_3 : decode cX5_boundEdgeSet 3 = .ok (.istore 4, 2) := by decide +kernel
theorem dX5_boundEdgeSet_5 : decode cX5_boundEdgeSet 5 = .ok (.iconst 0, 1) := by decide +kernel
theorem dX5_boundEdgeSet_6 : decode cX5_boundEdgeSet 6 = .ok (.istore 5, 2) := by decide +kernel
theorem dX5_boundEdgeSet_8 : decode cX5_boundEdgeSet 8 = .ok (.iconst 0, 1) := by decide +kernel
theorem dX5_boundEdgeSet_9 : decode cX5_boundEdgeSet 9 = .ok (.istore 6, 2) := by decide +kernel
theorem dX5_boundEdgeSet_11 : decode cX5_boundEdgeSet 11 = .ok (.iconst 0, 1) := by decide +kernel
theorem dX5_boundEdgeSet_12 : decode cX5_boundEdgeSet 12 = .ok (.istore 7, 2) := by decide +kernel
theorem dX5_boundEdgeSet_14 : decode cX5_boundEdgeSet 14 = .ok (.iload 7, 2) := by decide +kernel
theorem dX5_boundEdgeSet_16 : decode cX5_boundEdgeSet 16 = .ok (.aload_n 0, 1) := by decide +kernel
theorem dX5_boundEdgeSet_17 : decode cX5_boundEdgeSet 17 = .ok (.getfield 18, 3) := by decide +kernel
theorem dX5_boundEdgeSet_20 : decode cX5_boundEdgeSet 20 = .ok (.if_icmp .ge 117, 3) := by decide +kernel
theorem dX5_boundEdgeSet_23 : decode cX5_boundEdgeSet 23 = .ok (.iconst 1, 1) := by decide +kernel
theorem dX5_boundEdgeSet_24 : decode cX5_boundEdgeSet 24 = .ok (.aload_n 0, 1) := by decide +kernel
theorem dX5_boundEdgeSet_25 : decode cX5_boundEdgeSet 25 = .ok (.getfield 9, 3) := by decide +kernel
theorem dX5_boundEdgeSet_28 : decode cX5_boundEdgeSet 28 = .ok (.iload 7, 2) := by decide +kernel
theorem dX5_boundEdgeSet_30 : decode cX5_boundEdgeSet 30 = .ok (.iaload, 1) := by decide +kernel
theorem dX5_boundEdgeSet_31 : decode cX5_boundEdgeSet 31 = .ok (.ishl, 1) := by decide +kernel
theorem dX5_boundEdgeSet_32 : decode cX5_boundEdgeSet 32 = .ok (.istore 8, 2) := by decide +kernel
theorem dX5_boundEdgeSet_34 : decode cX5_boundEdgeSet 34 = .ok (.aload_n 0, 1) := by decide +kernel
theorem dX5_boundEdgeSet_35 : decode cX5_boundEdgeSet 35 = .ok (.getfield 15, 3) := by decide +kernel
theorem dX5_boundEdgeSet_38 : decode cX5_boundEdgeSet 38 = .ok (.iload 7, 2) := by decide +kernel
theorem dX5_boundEdgeSet_40 : decode cX5_boundEdgeSet 40 = .ok (.iaload, 1) := by decide +kernel
theorem dX5_boundEdgeSet_41 : decode cX5_boundEdgeSet 41 = .ok (.iload_n 1, 1) := by decide +kernel
theorem dX5_boundEdgeSet_42 : decode cX5_boundEdgeSet 42 = .ok (.if_icmp .ne 43, 3) := by decide +kernel
theorem dX5_boundEdgeSet_45 : decode cX5_boundEdgeSet 45 = .ok (.iload 6, 2) := by decide +kernel
theorem dX5_boundEdgeSet_47 : decode cX5_boundEdgeSet 47 = .ok (.iload 8, 2) := by decide +kernel
theorem dX5_boundEdgeSet_49 : decode cX5_boundEdgeSet 49 = .ok (.iload 4, 2) := by decide +kernel
theorem dX5_boundEdgeSet_51 : decode cX5_boundEdgeSet 51 = .ok (.iand, 1) := by decide +kernel
theorem dX5_boundEdgeSet_52 : decode cX5_boundEdgeSet 52 = .ok (.iload 5, 2) := by decide +kernel
theorem dX5_boundEdgeSet_54 : decode cX5_boundEdgeSet 54 = .ok (.iand, 1) := by decide +kernel
theorem dX5_boundEdgeSet_55 : decode cX5_boundEdgeSet 55 = .ok (.ior, 1) := by decide +kernel
theorem dX5_boundEdgeSet_56 : decode cX5_boundEdgeSet 56 = .ok (.istore 6, 2) := by decide +kernel
theorem dX5_boundEdgeSet_58 : decode cX5_boundEdgeSet 58 = .ok (.iload 5, 2) := by decide +kernel
theorem dX5_boundEdgeSet_60 : decode cX5_boundEdgeSet 60 = .ok (.iload 8, 2) := by decide +kernel
theorem dX5_boundEdgeSet_62 : decode cX5_boundEdgeSet 62 = .ok (.iload 4, 2) := by decide +kernel
theorem dX5_boundEdgeSet_64 : decode cX5_boundEdgeSet 64 = .ok (.iand, 1) := by decide +kernel
theorem dX5_boundEdgeSet_65 : decode cX5_boundEdgeSet 65 = .ok (.ior, 1) := by decide +kernel
theorem dX5_boundEdgeSet_66 : decode cX5_boundEdgeSet 66 = .ok (.istore 5, 2) := by decide +kernel
theorem dX5_boundEdgeSet_68 : decode cX5_boundEdgeSet 68 = .ok (.iload 4, 2) := by decide +kernel
theorem dX5_boundEdgeSet_70 : decode cX5_boundEdgeSet 70 = .ok (.iload 8, 2) := by decide +kernel
theorem dX5_boundEdgeSet_72 : decode cX5_boundEdgeSet 72 = .ok (.iconst (-1), 1) := by decide +kernel
theorem dX5_boundEdgeSet_73 : decode cX5_boundEdgeSet 73 = .ok (.ixor, 1) := by decide +kernel
theorem dX5_boundEdgeSet_74 : decode cX5_boundEdgeSet 74 = .ok (.iand, 1) := by decide +kernel
theorem dX5_boundEdgeSet_75 : decode cX5_boundEdgeSet 75 = .ok (.istore 4, 2) := by decide +kernel
theorem dX5_boundEdgeSet_77 : decode cX5_boundEdgeSet 77 = .ok (.iload_n 3, 1) := by decide +kernel
theorem dX5_boundEdgeSet_78 : decode cX5_boundEdgeSet 78 = .ok (.iload 8, 2) := by decide +kernel
theorem dX5_boundEdgeSet_80 : decode cX5_boundEdgeSet 80 = .ok (.ior, 1) := by decide +kernel
theorem dX5_boundEdgeSet_81 : decode cX5_boundEdgeSet 81 = .ok (.istore_n 3, 1) := by decide +kernel
theorem dX5_boundEdgeSet_82 : decode cX5_boundEdgeSet 82 = .ok (.goto 49, 3) := by decide +kernel
theorem dX5_boundEdgeSet_85 : decode cX5_boundEdgeSet 85 = .ok (.aload_n 0, 1) := by decide +kernel
theorem dX5_boundEdgeSet_86 : decode cX5_boundEdgeSet 86 = .ok (.getfield 15, 3) := by decide +kernel
theorem dX5_boundEdgeSet_89 : decode cX5_boundEdgeSet 89 = .ok (.iload 7, 2) := by decide +kernel
theorem dX5_boundEdgeSet_91 : decode cX5_boundEdgeSet 91 = .ok (.iaload, 1) := by decide +kernel
theorem dX5_boundEdgeSet_92 : decode cX5_boundEdgeSet 92 = .ok (.iload_n 2, 1) := by decide +kernel
theorem dX5_boundEdgeSet_93 : decode cX5_boundEdgeSet 93 = .ok (.if_icmp .ne 38, 3) := by decide +kernel
theorem dX5_boundEdgeSet_96 : decode cX5_boundEdgeSet 96 = .ok (.iload 6, 2) := by decide +kernel
theorem dX5_boundEdgeSet_98 : decode cX5_boundEdgeSet 98 = .ok (.iload 8, 2) := by decide +kernel
theorem dX5_boundEdgeSet_100 : decode cX5_boundEdgeSet 100 = .ok (.iload_n 3, 1) := by decide +kernel
theorem dX5_boundEdgeSet_101 : decode cX5_boundEdgeSet 101 = .ok (.iand, 1) := by decide +kernel
theorem dX5_boundEdgeSet_102 : decode cX5_boundEdgeSet 102 = .ok (.iload 5, 2) := by decide +kernel
theorem dX5_boundEdgeSet_104 : decode cX5_boundEdgeSet 104 = .ok (.iand, 1) := by decide +kernel
theorem dX5_boundEdgeSet_105 : decode cX5_boundEdgeSet 105 = .ok (.ior, 1) := by decide +kernel
theorem dX5_boundEdgeSet_106 : decode cX5_boundEdgeSet 106 = .ok (.istore 6, 2) := by decide +kernel
theorem dX5_boundEdgeSet_108 : decode cX5_boundEdgeSet 108 = .ok (.iload 5, 2) := by decide +kernel
theorem dX5_boundEdgeSet_110 : decode cX5_boundEdgeSet 110 = .ok (.iload 8, 2) := by decide +kernel
theorem dX5_boundEdgeSet_112 : decode cX5_boundEdgeSet 112 = .ok (.iload_n 3, 1) := by decide +kernel
theorem dX5_boundEdgeSet_113 : decode cX5_boundEdgeSet 113 = .ok (.iand, 1) := by decide +kernel
theorem dX5_boundEdgeSet_114 : decode cX5_boundEdgeSet 114 = .ok (.ior, 1) := by decide +kernel
theorem dX5_boundEdgeSet_115 : decode cX5_boundEdgeSet 115 = .ok (.istore 5, 2) := by decide +kernel
theorem dX5_boundEdgeSet_117 : decode cX5_boundEdgeSet 117 = .ok (.iload_n 3, 1) := by decide +kernel
theorem dX5_boundEdgeSet_118 : decode cX5_boundEdgeSet 118 = .ok (.iload 8, 2) := by decide +kernel
theorem dX5_boundEdgeSet_120 : decode cX5_boundEdgeSet 120 = .ok (.iconst (-1), 1) := by decide +kernel
theorem dX5_boundEdgeSet_121 : decode cX5_boundEdgeSet 121 = .ok (.ixor, 1) := by decide +kernel
theorem dX5_boundEdgeSet_122 : decode cX5_boundEdgeSet 122 = .ok (.iand, 1) := by decide +kernel
theorem dX5_boundEdgeSet_123 : decode cX5_boundEdgeSet 123 = .ok (.istore_n 3, 1) := by decide +kernel
theorem dX5_boundEdgeSet_124 : decode cX5_boundEdgeSet 124 = .ok (.iload 4, 2) := by decide +kernel
theorem dX5_boundEdgeSet_126 : decode cX5_boundEdgeSet 126 = .ok (.iload 8, 2) := by decide +kernel
theorem dX5_boundEdgeSet_128 : decode cX5_boundEdgeSet 128 = .ok (.ior, 1) := by decide +kernel
theorem dX5_boundEdgeSet_129 : decode cX5_boundEdgeSet 129 = .ok (.istore 4, 2) := by decide +kernel
theorem dX5_boundEdgeSet_131 : decode cX5_boundEdgeSet 131 = .ok (.iinc 7 1, 3) := by decide +kernel
theorem dX5_boundEdgeSet_134 : decode cX5_boundEdgeSet 134 = .ok (.goto (-120), 3) := by decide +kernel
theorem dX5_boundEdgeSet_137 : decode cX5_boundEdgeSet 137 = .ok (.iload 6, 2) := by decide +kernel
theorem dX5_boundEdgeSet_139 : decode cX5_boundEdgeSet 139 = .ok (.ireturn, 1) := by decide +kernel
theorem dX5_fewestGone_0 : decode cX5_fewestGone 0 = .ok (.iconst 0, 1) := by decide +kernel
theorem dX5_fewestGone_1 : decode cX5_fewestGone 1 = .ok (.istore 4, 2) := by decide +kernel
theorem dX5_fewestGone_3 : decode cX5_fewestGone 3 = .ok (.iconst 0, 1) := by decide +kernel
theorem dX5_fewestGone_4 : decode cX5_fewestGone 4 = .ok (.istore 5, 2) := by decide +kernel
theorem dX5_fewestGone_6 : decode cX5_fewestGone 6 = .ok (.iload 5, 2) := by decide +kernel
theorem dX5_fewestGone_8 : decode cX5_fewestGone 8 = .ok (.aload_n 0, 1) := by decide +kernel
theorem dX5_fewestGone_9 : decode cX5_fewestGone 9 = .ok (.getfield 18, 3) := by decide +kernel
theorem dX5_fewestGone_12 : decode cX5_fewestGone 12 = .ok (.if_icmp .ge 45, 3) := by decide +kernel
theorem dX5_fewestGone_15 : decode cX5_fewestGone 15 = .ok (.aload_n 0, 1) := by decide +kernel
theorem dX5_fewestGone_16 : decode cX5_fewestGone 16 = .ok (.getfield 9, 3) := by decide +kernel
theorem dX5_fewestGone_19 : decode cX5_fewestGone 19 = .ok (.iload 5, 2) := by decide +kernel
theorem dX5_fewestGone_21 : decode cX5_fewestGone 21 = .ok (.iaload, 1) := by decide +kernel
theorem dX5_fewestGone_22 : decode cX5_fewestGone 22 = .ok (.iload_n 1, 1) := by decide +kernel
theorem dX5_fewestGone_23 : decode cX5_fewestGone 23 = .ok (.if_icmp .ne 28, 3) := by decide +kernel
theorem dX5_fewestGone_26 : decode cX5_fewestGone 26 = .ok (.aload_n 0, 1) := by decide +kernel
theorem dX5_fewestGone_27 : decode cX5_fewestGone 27 = .ok (.getfield 15, 3) := by decide +kernel
theorem dX5_fewestGone_30 : decode cX5_fewestGone 30 = .ok (.iload 5, 2) := by decide +kernel
theorem dX5_fewestGone_32 : decode cX5_fewestGone 32 = .ok (.iaload, 1) := by decide +kernel
theorem dX5_fewestGone_33 : decode cX5_fewestGone 33 = .ok (.iload_n 2, 1) := by decide +kernel
theorem dX5_fewestGone_34 : decode cX5_fewestGone 34 = .ok (.if_icmp .eq 14, 3) := by decide +kernel
theorem dX5_fewestGone_37 : decode cX5_fewestGone 37 = .ok (.aload_n 0, 1) := by decide +kernel
theorem dX5_fewestGone_38 : decode cX5_fewestGone 38 = .ok (.getfield 15, 3) := by decide +kernel
theorem dX5_fewestGone_41 : decode cX5_fewestGone 41 = .ok (.iload 5, 2) := by decide +kernel
theorem dX5_fewestGone_43 : decode cX5_fewestGone 43 = .ok (.iaload, 1) := by decide +kernel
theorem dX5_fewestGone_44 : decode cX5_fewestGone 44 = .ok (.iload_n 3, 1) := by decide +kernel
theorem dX5_fewestGone_45 : decode cX5_fewestGone 45 = .ok (.if_icmp .ne 6, 3) := by decide +kernel
theorem dX5_fewestGone_48 : decode cX5_fewestGone 48 = .ok (.iinc 4 1, 3) := by decide +kernel
theorem dX5_fewestGone_51 : decode cX5_fewestGone 51 = .ok (.iinc 5 1, 3) := by decide +kernel
theorem dX5_fewestGone_54 : decode cX5_fewestGone 54 = .ok (.goto (-48), 3) := by decide +kernel
theorem dX5_fewestGone_57 : decode cX5_fewestGone 57 = .ok (.iload 4, 2) := by decide +kernel
theorem dX5_fewestGone_59 : decode cX5_fewestGone 59 = .ok (.aload_n 0, 1) := by decide +kernel
theorem dX5_fewestGone_60 : decode cX5_fewestGone 60 = .ok (.iload_n 1, 1) := by decide +kernel
theorem dX5_fewestGone_61 : decode cX5_fewestGone 61 = .ok (.iload_n 2, 1) := by decide +kernel
theorem dX5_fewestGone_62 : decode cX5_fewestGone 62 = .ok (.iload_n 3, 1) := by decide +kernel
theorem dX5_fewestGone_63 : decode cX5_fewestGone 63 = .ok (.invokevirtual 28, 3) := by decide +kernel
theorem dX5_fewestGone_66 : decode cX5_fewestGone 66 = .ok (.aload_n 0, 1) := by decide +kernel
theorem dX5_fewestGone_67 : decode cX5_fewestGone 67 = .ok (.iload_n 1, 1) := by decide +kernel
theorem dX5_fewestGone_68 : decode cX5_fewestGone 68 = .ok (.iload_n 3, 1) := by decide +kernel
theorem dX5_fewestGone_69 : decode cX5_fewestGone 69 = .ok (.iload_n 2, 1) := by decide +kernel
theorem dX5_fewestGone_70 : decode cX5_fewestGone 70 = .ok (.invokevirtual 28, 3) := by decide +kernel
theorem dX5_fewestGone_73 : decode cX5_fewestGone 73 = .ok (.invokestatic 32, 3) := by decide +kernel
theorem dX5_fewestGone_76 : decode cX5_fewestGone 76 = .ok (.isub, 1) := by decide +kernel
theorem dX5_fewestGone_77 : decode cX5_fewestGone 77 = .ok (.ireturn, 1) := by decide +kernel
theorem dX5_mostKept_0 : decode cX5_mostKept 0 = .ok (.iconst 0, 1) := by decide +kernel
theorem dX5_mostKept_1 : decode cX5_mostKept 1 = .ok (.istore 4, 2) := by decide +kernel
theorem dX5_mostKept_3 : decode cX5_mostKept 3 = .ok (.iconst 0, 1) := by decide +kernel
theorem dX5_mostKept_4 : decode cX5_mostKept 4 = .ok (.istore 5, 2) := by decide +kernel
theorem dX5_mostKept_6 : decode cX5_mostKept 6 = .ok (.iconst 0, 1) := by decide +kernel
theorem dX5_mostKept_7 : decode cX5_mostKept 7 = .ok (.istore 6, 2) := by decide +kernel
theorem dX5_mostKept_9 : decode cX5_mostKept 9 = .ok (.iload 6, 2) := by decide +kernel
theorem dX5_mostKept_11 : decode cX5_mostKept 11 = .ok (.aload_n 0, 1) := by decide +kernel
theorem dX5_mostKept_12 : decode cX5_mostKept 12 = .ok (.getfield 18, 3) := by decide +kernel
theorem dX5_mostKept_15 : decode cX5_mostKept 15 = .ok (.if_icmp .ge 62, 3) := by decide +kernel
theorem dX5_mostKept_18 : decode cX5_mostKept 18 = .ok (.aload_n 0, 1) := by decide +kernel
theorem dX5_mostKept_19 : decode cX5_mostKept 19 = .ok (.getfield 9, 3) := by decide +kernel
theorem dX5_mostKept_22 : decode cX5_mostKept 22 = .ok (.iload 6, 2) := by decide +kernel
theorem dX5_mostKept_24 : decode cX5_mostKept 24 = .ok (.iaload, 1) := by decide +kernel
theorem dX5_mostKept_25 : decode cX5_mostKept 25 = .ok (.iload_n 1, 1) := by decide +kernel
theorem dX5_mostKept_26 : decode cX5_mostKept 26 = .ok (.if_icmp .eq 6, 3) := by decide +kernel
theorem dX5_mostKept_29 : decode cX5_mostKept 29 = .ok (.goto 42, 3) := by decide +kernel
theorem dX5_mostKept_32 : decode cX5_mostKept 32 = .ok (.aload_n 0, 1) := by decide +kernel
theorem dX5_mostKept_33 : decode cX5_mostKept 33 = .ok (.getfield 15, 3) := by decide +kernel
theorem dX5_mostKept_36 : decode cX5_mostKept 36 = .ok (.iload 6, 2) := by decide +kernel
theorem dX5_mostKept_38 : decode cX5_mostKept 38 = .ok (.iaload, 1) := by decide +kernel
theorem dX5_mostKept_39 : decode cX5_mostKept 39 = .ok (.iload_n 2, 1) := by decide +kernel
theorem dX5_mostKept_40 : decode cX5_mostKept 40 = .ok (.if_icmp .ne 9, 3) := by decide +kernel
theorem dX5_mostKept_43 : decode cX5_mostKept 43 = .ok (.iinc 4 1, 3) := by decide +kernel
theorem dX5_mostKept_46 : decode cX5_mostKept 46 = .ok (.goto 25, 3) := by decide +kernel
theorem dX5_mostKept_49 : decode cX5_mostKept 49 = .ok (.aload_n 0, 1) := by decide +kernel
theorem dX5_mostKept_50 : decode cX5_mostKept 50 = .ok (.getfield 15, 3) := by decide +kernel
theorem dX5_mostKept_53 : decode cX5_mostKept 53 = .ok (.iload 6, 2) := by decide +kernel
theorem dX5_mostKept_55 : decode cX5_mostKept 55 = .ok (.iaload, 1) := by decide +kernel
theorem dX5_mostKept_56 : decode cX5_mostKept 56 = .ok (.iload_n 3, 1) := by decide +kernel
theorem dX5_mostKept_57 : decode cX5_mostKept 57 = .ok (.if_icmp .ne 14, 3) := by decide +kernel
theorem dX5_mostKept_60 : decode cX5_mostKept 60 = .ok (.iload 5, 2) := by decide +kernel
theorem dX5_mostKept_62 : decode cX5_mostKept 62 = .ok (.iload 4, 2) := by decide +kernel
theorem dX5_mostKept_64 : decode cX5_mostKept 64 = .ok (.invokestatic 32, 3) := by decide +kernel
theorem dX5_mostKept_67 : decode cX5_mostKept 67 = .ok (.iconst 1, 1) := by decide +kernel
theorem dX5_mostKept_68 : decode cX5_mostKept 68 = .ok (.iadd, 1) := by decide +kernel
theorem dX5_mostKept_69 : decode cX5_mostKept 69 = .ok (.istore 5, 2) := by decide +kernel
theorem dX5_mostKept_71 : decode cX5_mostKept 71 = .ok (.iinc 6 1, 3) := by decide +kernel
theorem dX5_mostKept_74 : decode cX5_mostKept 74 = .ok (.goto (-65), 3) := by decide +kernel
theorem dX5_mostKept_77 : decode cX5_mostKept 77 = .ok (.iload 5, 2) := by decide +kernel
theorem dX5_mostKept_79 : decode cX5_mostKept 79 = .ok (.iload 4, 2) := by decide +kernel
theorem dX5_mostKept_81 : decode cX5_mostKept 81 = .ok (.invokestatic 32, 3) := by decide +kernel
theorem dX5_mostKept_84 : decode cX5_mostKept 84 = .ok (.ireturn, 1) := by decide +kernel
theorem dX6_init_0 : decode cX6_init 0 = .ok (.aload_n 0, 1) := by decide +kernel
theorem dX6_init_1 : decode cX6_init 1 = .ok (.invokespecial 3, 3) := by decide +kernel
theorem dX6_init_4 : decode cX6_init 4 = .ok (.aload_n 0, 1) := by decide +kernel
theorem dX6_init_5 : decode cX6_init 5 = .ok (.new 9, 3) := by decide +kernel
theorem dX6_init_8 : decode cX6_init 8 = .ok (.dup, 1) := by decide +kernel
theorem dX6_init_9 : decode cX6_init 9 = .ok (.invokespecial 11, 3) := by decide +kernel
theorem dX6_init_12 : decode cX6_init 12 = .ok (.putfield 12, 3) := by decide +kernel
theorem dX6_init_15 : decode cX6_init 15 = .ok (.aload_n 0, 1) := by decide +kernel
theorem dX6_init_16 : decode cX6_init 16 = .ok (.new 9, 3) := by decide +kernel
theorem dX6_init_19 : decode cX6_init 19 = .ok (.dup, 1) := by decide +kernel
theorem dX6_init_20 : decode cX6_init 20 = .ok (.invokespecial 11, 3) := by decide +kernel
theorem dX6_init_23 : decode cX6_init 23 = .ok (.putfield 16, 3) := by decide +kernel
theorem dX6_init_26 : decode cX6_init 26 = .ok (.aload_n 0, 1) := by decide +kernel
theorem dX6_init_27 : decode cX6_init 27 = .ok (.new 19, 3) := by decide +kernel
theorem dX6_init_30 : decode cX6_init 30 = .ok (.dup, 1) := by decide +kernel
theorem dX6_init_31 : decode cX6_init 31 = .ok (.invokespecial 21, 3) := by decide +kernel
theorem dX6_init_34 : decode cX6_init 34 = .ok (.putfield 22, 3) := by decide +kernel
theorem dX6_init_37 : decode cX6_init 37 = .ok (.aload_n 0, 1) := by decide +kernel
theorem dX6_init_38 : decode cX6_init 38 = .ok (.iconst 2, 1) := by decide +kernel
theorem dX6_init_39 : decode cX6_init 39 = .ok (.anewarray 9, 3) := by decide +kernel
theorem dX6_init_42 : decode cX6_init 42 = .ok (.putfield 26, 3) := by decide +kernel
theorem dX6_init_45 : decode cX6_init 45 = .ok (.aload_n 0, 1) := by decide +kernel
theorem dX6_init_46 : decode cX6_init 46 = .ok (.new 30, 3) := by decide +kernel
theorem dX6_init_49 : decode cX6_init 49 = .ok (.dup, 1) := by decide +kernel
theorem dX6_init_50 : decode cX6_init 50 = .ok (.invokespecial 32, 3) := by decide +kernel
theorem dX6_init_53 : decode cX6_init 53 = .ok (.putfield 33, 3) := by decide +kernel
theorem dX6_init_56 : decode cX6_init 56 = .ok (.aload_n 0, 1) := by decide +kernel
theorem dX6_init_57 : decode cX6_init 57 = .ok (.new 37, 3) := by decide +kernel
theorem dX6_init_60 : decode cX6_init 60 = .ok (.dup, 1) := by decide +kernel
theorem dX6_init_61 : decode cX6_init 61 = .ok (.invokespecial 39, 3) := by decide +kernel
theorem dX6_init_64 : decode cX6_init 64 = .ok (.putfield 40, 3) := by decide +kernel
theorem dX6_init_67 : decode cX6_init 67 = .ok (.return_, 1) := by decide +kernel
theorem dX6_set_0 : decode cX6_set 0 = .ok (.aload_n 0, 1) := by decide +kernel
theorem dX6_set_1 : decode cX6_set 1 = .ok (.getfield 22, 3) := by decide +kernel
theorem dX6_set_4 : decode cX6_set 4 = .ok (.aload_n 0, 1) := by decide +kernel
theorem dX6_set_5 : decode cX6_set 5 = .ok (.getfield 12, 3) := by decide +kernel
theorem dX6_set_8 : decode cX6_set 8 = .ok (.invokevirtual 44, 3) := by decide +kernel
theorem dX6_set_11 : decode cX6_set 11 = .ok (.aload_n 0, 1) := by decide +kernel
theorem dX6_set_12 : decode cX6_set 12 = .ok (.aload_n 0, 1) := by decide +kernel
theorem dX6_set_13 : decode cX6_set 13 = .ok (.getfield 12, 3) := by decide +kernel
theorem dX6_set_16 : decode cX6_set 16 = .ok (.iload_n 1, 1) := by decide +kernel
theorem dX6_set_17 : decode cX6_set 17 = .ok (.iload_n 2, 1) := by decide +kernel
theorem dX6_set_18 : decode cX6_set 18 = .ok (.invokevirtual 48, 3) := by decide +kernel
theorem dX6_set_21 : decode cX6_set 21 = .ok (.invokevirtual 52, 3) := by decide +kernel
theorem dX6_set_24 : decode cX6_set 24 = .ok (.ireturn, 1) := by decide +kernel
theorem dX6_kitten_0 : decode cX6_kitten 0 = .ok (.aload_n 0, 1) := by decide +kernel
theorem dX6_kitten_1 : decode cX6_kitten 1 = .ok (.getfield 22, 3) := by decide +kernel
theorem dX6_kitten_4 : decode cX6_kitten 4 = .ok (.aload_n 0, 1) := by decide +kernel
theorem dX6_kitten_5 : decode cX6_kitten 5 = .ok (.getfield 12, 3) := by decide +kernel
theorem dX6_kitten_8 : decode cX6_kitten 8 = .ok (.invokevirtual 44, 3) := by decide +kernel
theorem dX6_kitten_11 : decode cX6_kitten 11 = .ok (.aload_n 0, 1) := by decide +kernel
theorem dX6_kitten_12 : decode cX6_kitten 12 = .ok (.aload_n 0, 1) := by decide +kernel
theorem dX6_kitten_13 : decode cX6_kitten 13 = .ok (.getfield 12, 3) := by decide +kernel
theorem dX6_kitten_16 : decode cX6_kitten 16 = .ok (.iload_n 1, 1) := by decide +kernel
theorem dX6_kitten_17 : decode cX6_kitten 17 = .ok (.invokevirtual 56, 3) := by decide +kernel
theorem dX6_kitten_20 : decode cX6_kitten 20 = .ok (.invokevirtual 52, 3) := by decide +kernel
theorem dX6_kitten_23 : decode cX6_kitten 23 = .ok (.ireturn, 1) := by decide +kernel
theorem dX6_leap_0 : decode cX6_leap 0 = .ok (.aload_n 0, 1) := by decide +kernel
theorem dX6_leap_1 : decode cX6_leap 1 = .ok (.getfield 22, 3) := by decide +kernel
theorem dX6_leap_4 : decode cX6_leap 4 = .ok (.aload_n 0, 1) := by decide +kernel
theorem dX6_leap_5 : decode cX6_leap 5 = .ok (.getfield 12, 3) := by decide +kernel
theorem dX6_leap_8 : decode cX6_leap 8 = .ok (.invokevirtual 44, 3) := by decide +kernel
theorem dX6_leap_11 : decode cX6_leap 11 = .ok (.aload_n 0, 1) := by decide +kernel
theorem dX6_leap_12 : decode cX6_leap 12 = .ok (.aload_n 0, 1) := by decide +kernel
theorem dX6_leap_13 : decode cX6_leap 13 = .ok (.getfield 12, 3) := by decide +kernel
theorem dX6_leap_16 : decode cX6_leap 16 = .ok (.iload_n 1, 1) := by decide +kernel
theorem dX6_leap_17 : decode cX6_leap 17 = .ok (.iload_n 2, 1) := by decide +kernel
theorem dX6_leap_18 : decode cX6_leap 18 = .ok (.invokevirtual 59, 3) := by decide +kernel
theorem dX6_leap_21 : decode cX6_leap 21 = .ok (.invokevirtual 52, 3) := by decide +kernel
theorem dX6_leap_24 : decode cX6_leap 24 = .ok (.ireturn, 1) := by decide +kernel
theorem dX6_nap_0 : decode cX6_nap 0 = .ok (.aload_n 0, 1) := by decide +kernel
theorem dX6_nap_1 : decode cX6_nap 1 = .ok (.getfield 22, 3) := by decide +kernel
theorem dX6_nap_4 : decode cX6_nap 4 = .ok (.aload_n 0, 1) := by decide +kernel
theorem dX6_nap_5 : decode cX6_nap 5 = .ok (.getfield 12, 3) := by decide +kernel
theorem dX6_nap_8 : decode cX6_nap 8 = .ok (.invokevirtual 44, 3) := by decide +kernel
theorem dX6_nap_11 : decode cX6_nap 11 = .ok (.aload_n 0, 1) := by decide +kernel
theorem dX6_nap_12 : decode cX6_nap 12 = .ok (.aload_n 0, 1) := by decide +kernel
theorem dX6_nap_13 : decode cX6_nap 13 = .ok (.getfield 12, 3) := by decide +kernel
theorem dX6_nap_16 : decode cX6_nap 16 = .ok (.iload_n 1, 1) := by decide +kernel
theorem dX6_nap_17 : decode cX6_nap 17 = .ok (.invokevirtual 62, 3) := by decide +kernel
theorem dX6_nap_20 : decode cX6_nap 20 = .ok (.invokevirtual 52, 3) := by decide +kernel
theorem dX6_nap_23 : decode cX6_nap 23 = .ok (.ireturn, 1) := by decide +kernel
theorem dX6_snip_0 : decode cX6_snip 0 = .ok (.aload_n 0, 1) := by decide +kernel
theorem dX6_snip_1 : decode cX6_snip 1 = .ok (.getfield 22, 3) := by decide +kernel
theorem dX6_snip_4 : decode cX6_snip 4 = .ok (.aload_n 0, 1) := by decide +kernel
theorem dX6_snip_5 : decode cX6_snip 5 = .ok (.getfield 12, 3) := by decide +kernel
theorem dX6_snip_8 : decode cX6_snip 8 = .ok (.invokevirtual 44, 3) := by decide +kernel
theorem dX6_snip_11 : decode cX6_snip 11 = .ok (.aload_n 0, 1) := by decide +kernel
theorem dX6_snip_12 : decode cX6_snip 12 = .ok (.aload_n 0, 1) := by decide +kernel
theorem dX6_snip_13 : decode cX6_snip 13 = .ok (.getfield 12, 3) := by decide +kernel
theorem dX6_snip_16 : decode cX6_snip 16 = .ok (.iload_n 1, 1) := by decide +kernel
theorem dX6_snip_17 : decode cX6_snip 17 = .ok (.iload_n 2, 1) := by decide +kernel
theorem dX6_snip_18 : decode cX6_snip 18 = .ok (.invokevirtual 65, 3) := by decide +kernel
theorem dX6_snip_21 : decode cX6_snip 21 = .ok (.invokevirtual 52, 3) := by decide +kernel
theorem dX6_snip_24 : decode cX6_snip 24 = .ok (.ireturn, 1) := by decide +kernel
theorem dX6_plan_0 : decode cX6_plan 0 = .ok (.aload_n 0, 1) := by decide +kernel
theorem dX6_plan_1 : decode cX6_plan 1 = .ok (.getfield 22, 3) := by decide +kernel
theorem dX6_plan_4 : decode cX6_plan 4 = .ok (.aload_n 0, 1) := by decide +kernel
theorem dX6_plan_5 : decode cX6_plan 5 = .ok (.getfield 12, 3) := by decide +kernel
theorem dX6_plan_8 : decode cX6_plan 8 = .ok (.invokevirtual 44, 3) := by decide +kernel
theorem dX6_plan_11 : decode cX6_plan 11 = .ok (.aload_n 0, 1) := by decide +kernel
theorem dX6_plan_12 : decode cX6_plan 12 = .ok (.aload_n 0, 1) := by decide +kernel
theorem dX6_plan_13 : decode cX6_plan 13 = .ok (.getfield 12, 3) := by decide +kernel
theorem dX6_plan_16 : decode cX6_plan 16 = .ok (.iload_n 1, 1) := by decide +kernel
theorem dX6_plan_17 : decode cX6_plan 17 = .ok (.iload_n 2, 1) := by decide +kernel
theorem dX6_plan_18 : decode cX6_plan 18 = .ok (.iload_n 3, 1) := by decide +kernel
theorem dX6_plan_19 : decode cX6_plan 19 = .ok (.invokevirtual 68, 3) := by decide +kernel
theorem dX6_plan_22 : decode cX6_plan 22 = .ok (.invokevirtual 52, 3) := by decide +kernel
theorem dX6_plan_25 : decode cX6_plan 25 = .ok (.ireturn, 1) := by decide +kernel
theorem dX6_pass_0 : decode cX6_pass 0 = .ok (.aload_n 0, 1) := by decide +kernel
theorem dX6_pass_1 : decode cX6_pass 1 = .ok (.getfield 22, 3) := by decide +kernel
theorem dX6_pass_4 : decode cX6_pass 4 = .ok (.aload_n 0, 1) := by decide +kernel
theorem dX6_pass_5 : decode cX6_pass 5 = .ok (.getfield 12, 3) := by decide +kernel
theorem dX6_pass_8 : decode cX6_pass 8 = .ok (.invokevirtual 44, 3) := by decide +kernel
theorem dX6_pass_11 : decode cX6_pass 11 = .ok (.aload_n 0, 1) := by decide +kernel
theorem dX6_pass_12 : decode cX6_pass 12 = .ok (.aload_n 0, 1) := by decide +kernel
theorem dX6_pass_13 : decode cX6_pass 13 = .ok (.getfield 12, 3) := by decide +kernel
theorem dX6_pass_16 : decode cX6_pass 16 = .ok (.iload_n 1, 1) := by decide +kernel
theorem dX6_pass_17 : decode cX6_pass 17 = .ok (.invokevirtual 72, 3) := by decide +kernel
theorem dX6_pass_20 : decode cX6_pass 20 = .ok (.invokevirtual 52, 3) := by decide +kernel
theorem dX6_pass_23 : decode cX6_pass 23 = .ok (.ireturn, 1) := by decide +kernel
theorem dX6_of_0 : decode cX6_of 0 = .ok (.aload_n 0, 1) := by decide +kernel
theorem dX6_of_1 : decode cX6_of 1 = .ok (.getfield 12, 3) := by decide +kernel
theorem dX6_of_4 : decode cX6_of 4 = .ok (.iload_n 1, 1) := by decide +kernel
theorem dX6_of_5 : decode cX6_of 5 = .ok (.invokevirtual 75, 3) := by decide +kernel
theorem dX6_of_8 : decode cX6_of 8 = .ok (.ifCond .ne 5, 3) := by decide +kernel
theorem dX6_of_11 : decode cX6_of 11 = .ok (.iconst (-1), 1) := by decide +kernel
theorem dX6_of_12 : decode cX6_of 12 = .ok (.ireturn, 1) := by decide +kernel
theorem dX6_of_13 : decode cX6_of 13 = .ok (.iload_n 2, 1) := by decide +kernel
theorem dX6_of_14 : decode cX6_of 14 = .ok (.tableswitch 154 0 9 #[54, 64, 74, 84, 94, 106, 116, 126, 136, 145], 54) := by decide +kernel
theorem dX6_of_68 : decode cX6_of 68 = .ok (.aload_n 0, 1) := by decide +kernel
theorem dX6_of_69 : decode cX6_of 69 = .ok (.getfield 12, 3) := by decide +kernel
theorem dX6_of_72 : decode cX6_of 72 = .ok (.getfield 79, 3) := by decide +kernel
theorem dX6_of_75 : decode cX6_of 75 = .ok (.iload_n 1, 1) := by decide +kernel
theorem dX6_of_76 : decode cX6_of 76 = .ok (.iaload, 1) := by decide +kernel
theorem dX6_of_77 : decode cX6_of 77 = .ok (.ireturn, 1) := by decide +kernel
theorem dX6_of_78 : decode cX6_of 78 = .ok (.aload_n 0, 1) := by decide +kernel
theorem dX6_of_79 : decode cX6_of 79 = .ok (.getfield 12, 3) := by decide +kernel
theorem dX6_of_82 : decode cX6_of 82 = .ok (.getfield 83, 3) := by decide +kernel
theorem dX6_of_85 : decode cX6_of 85 = .ok (.iload_n 1, 1) := by decide +kernel
theorem dX6_of_86 : decode cX6_of 86 = .ok (.iaload, 1) := by decide +kernel
theorem dX6_of_87 : decode cX6_of 87 = .ok (.ireturn, 1) := by decide +kernel
theorem dX6_of_88 : decode cX6_of 88 = .ok (.aload_n 0, 1) := by decide +kernel
theorem dX6_of_89 : decode cX6_of 89 = .ok (.getfield 12, 3) := by decide +kernel
theorem dX6_of_92 : decode cX6_of 92 = .ok (.getfield 86, 3) := by decide +kernel
theorem dX6_of_95 : decode cX6_of 95 = .ok (.iload_n 1, 1) := by decide +kernel
theorem dX6_of_96 : decode cX6_of 96 = .ok (.iaload, 1) := by decide +kernel
theorem dX6_of_97 : decode cX6_of 97 = .ok (.ireturn, 1) := by decide +kernel
theorem dX6_of_98 : decode cX6_of 98 = .ok (.aload_n 0, 1) := by decide +kernel
theorem dX6_of_99 : decode cX6_of 99 = .ok (.getfield 12, 3) := by decide +kernel
theorem dX6_of_102 : decode cX6_of 102 = .ok (.getfield 89, 3) := by decide +kernel
theorem dX6_of_105 : decode cX6_of 105 = .ok (.iload_n 1, 1) := by decide +kernel
theorem dX6_of_106 : decode cX6_of 106 = .ok (.iaload, 1) := by decide +kernel
theorem dX6_of_107 : decode cX6_of 107 = .ok (.ireturn, 1) := by decide +kernel
theorem dX6_of_108 : decode cX6_of 108 = .ok (.aload_n 0, 1) := by decide +kernel
theorem dX6_of_109 : decode cX6_of 109 = .ok (.getfield 12, 3) := by decide +kernel
theorem dX6_of_112 : decode cX6_of 112 = .ok (.getfield 92, 3) := by decide +kernel
theorem dX6_of_115 : decode cX6_of 115 = .ok (.iload_n 1, 1) := by decide +kernel
theorem dX6_of_116 : decode cX6_of 116 = .ok (.invokevirtual 96, 3) := by decide +kernel
theorem dX6_of_119 : decode cX6_of 119 = .ok (.ireturn, 1) := by decide +kernel
theorem dX6_of_120 : decode cX6_of 120 = .ok (.aload_n 0, 1) := by decide +kernel
theorem dX6_of_121 : decode cX6_of 121 = .ok (.getfield 12, 3) := by decide +kernel
theorem dX6_of_124 : decode cX6_of 124 = .ok (.getfield 101, 3) := by decide +kernel
theorem dX6_of_127 : decode cX6_of 127 = .ok (.iload_n 1, 1) := by decide +kernel
theorem dX6_of_128 : decode cX6_of 128 = .ok (.iaload, 1) := by decide +kernel
theorem dX6_of_129 : decode cX6_of 129 = .ok (.ireturn, 1) := by decide +kernel
theorem dX6_of_130 : decode cX6_of 130 = .ok (.aload_n 0, 1) := by decide +kernel
theorem dX6_of_131 : decode cX6_of 131 = .ok (.getfield 12, 3) := by decide +kernel
theorem dX6_of_134 : decode cX6_of 134 = .ok (.getfield 104, 3) := by decide +kernel
theorem dX6_of_137 : decode cX6_of 137 = .ok (.iload_n 1, 1) := by decide +kernel
theorem dX6_of_138 : decode cX6_of 138 = .ok (.iaload, 1) := by decide +kernel
theorem dX6_of_139 : decode cX6_of 139 = .ok (.ireturn, 1) := by decide +kernel
theorem dX6_of_140 : decode cX6_of 140 = .ok (.aload_n 0, 1) := by decide +kernel
theorem dX6_of_141 : decode cX6_of 141 = .ok (.getfield 12, 3) := by decide +kernel
theorem dX6_of_144 : decode cX6_of 144 = .ok (.getfield 107, 3) := by decide +kernel
theorem dX6_of_147 : decode cX6_of 147 = .ok (.iload_n 1, 1) := by decide +kernel
theorem dX6_of_148 : decode cX6_of 148 = .ok (.iaload, 1) := by decide +kernel
theorem dX6_of_149 : decode cX6_of 149 = .ok (.ireturn, 1) := by decide +kernel
theorem dX6_of_150 : decode cX6_of 150 = .ok (.aload_n 0, 1) := by decide +kernel
theorem dX6_of_151 : decode cX6_of 151 = .ok (.getfield 12, 3) := by decide +kernel
theorem dX6_of_154 : decode cX6_of 154 = .ok (.iload_n 1, 1) := by decide +kernel
theorem dX6_of_155 : decode cX6_of 155 = .ok (.invokevirtual 110, 3) := by decide +kernel
theorem dX6_of_158 : decode cX6_of 158 = .ok (.ireturn, 1) := by decide +kernel
theorem dX6_of_159 : decode cX6_of 159 = .ok (.aload_n 0, 1) := by decide +kernel
theorem dX6_of_160 : decode cX6_of 160 = .ok (.getfield 12, 3) := by decide +kernel
theorem dX6_of_163 : decode cX6_of 163 = .ok (.iload_n 1, 1) := by decide +kernel
theorem dX6_of_164 : decode cX6_of 164 = .ok (.invokevirtual 113, 3) := by decide +kernel
theorem dX6_of_167 : decode cX6_of 167 = .ok (.ireturn, 1) := by decide +kernel
theorem dX6_of_168 : decode cX6_of 168 = .ok (.bipush (-2), 2) := by decide +kernel
theorem dX6_of_170 : decode cX6_of 170 = .ok (.ireturn, 1) := by decide +kernel
theorem dX6_ofEdge_0 : decode cX6_ofEdge 0 = .ok (.iload_n 1, 1) := by decide +kernel
theorem dX6_ofEdge_1 : decode cX6_ofEdge 1 = .ok (.invokestatic 116, 3) := by decide +kernel
theorem dX6_ofEdge_4 : decode cX6_ofEdge 4 = .ok (.ifCond .ne 5, 3) := by decide +kernel
theorem dX6_ofEdge_7 : decode cX6_ofEdge 7 = .ok (.iconst (-1), 1) := by decide +kernel
theorem dX6_ofEdge_8 : decode cX6_ofEdge 8 = .ok (.ireturn, 1) := by decide +kernel
theorem dX6_ofEdge_9 : decode cX6_ofEdge 9 = .ok (.iload_n 2, 1) := by decide +kernel
theorem dX6_ofEdge_10 : decode cX6_ofEdge 10 = .ok (.tableswitch 77 0 3 #[30, 42, 54, 66], 30) := by decide +kernel
theorem dX6_ofEdge_40 : decode cX6_ofEdge 40 = .ok (.aload_n 0, 1) := by decide +kernel
theorem dX6_ofEdge_41 : decode cX6_ofEdge 41 = .ok (.getfield 12, 3) := by decide +kernel
theorem dX6_ofEdge_44 : decode cX6_ofEdge 44 = .ok (.getfield 92, 3) := by decide +kernel
theorem dX6_ofEdge_47 : decode cX6_ofEdge 47 = .ok (.iload_n 1, 1) := by decide +kernel
theorem dX6_ofEdge_48 : decode cX6_ofEdge 48 = .ok (.invokevirtual 119, 3) := by decide +kernel
theorem dX6_ofEdge_51 : decode cX6_ofEdge 51 = .ok (.ireturn, 1) := by decide +kernel
theorem dX6_ofEdge_52 : decode cX6_ofEdge 52 = .ok (.aload_n 0, 1) := by decide +kernel
theorem dX6_ofEdge_53 : decode cX6_ofEdge 53 = .ok (.getfield 12, 3) := by decide +kernel
theorem dX6_ofEdge_56 : decode cX6_ofEdge 56 = .ok (.getfield 92, 3) := by decide +kernel
theorem dX6_ofEdge_59 : decode cX6_ofEdge 59 = .ok (.iload_n 1, 1) := by decide +kernel
theorem dX6_ofEdge_60 : decode cX6_ofEdge 60 = .ok (.invokevirtual 122, 3) := by decide +kernel
theorem dX6_ofEdge_63 : decode cX6_ofEdge 63 = .ok (.ireturn, 1) := by decide +kernel
theorem dX6_ofEdge_64 : decode cX6_ofEdge 64 = .ok (.aload_n 0, 1) := by decide +kernel
theorem dX6_ofEdge_65 : decode cX6_ofEdge 65 = .ok (.getfield 12, 3) := by decide +kernel
theorem dX6_ofEdge_68 : decode cX6_ofEdge 68 = .ok (.getfield 92, 3) := by decide +kernel
theorem dX6_ofEdge_71 : decode cX6_ofEdge 71 = .ok (.iload_n 1, 1) := by decide +kernel
theorem dX6_ofEdge_72 : decode cX6_ofEdge 72 = .ok (.invokevirtual 125, 3) := by decide +kernel
theorem dX6_ofEdge_75 : decode cX6_ofEdge 75 = .ok (.ireturn, 1) := by decide +kernel
theorem dX6_ofEdge_76 : decode cX6_ofEdge 76 = .ok (.aload_n 0, 1) := by decide +kernel
theorem dX6_ofEdge_77 : decode cX6_ofEdge 77 = .ok (.getfield 12, 3) := by decide +kernel
theorem dX6_ofEdge_80 : decode cX6_ofEdge 80 = .ok (.iconst 1, 1) := by decide +kernel
theorem dX6_ofEdge_81 : decode cX6_ofEdge 81 = .ok (.iload_n 1, 1) := by decide +kernel
theorem dX6_ofEdge_82 : decode cX6_ofEdge 82 = .ok (.ishl, 1) := by decide +kernel
theorem dX6_ofEdge_83 : decode cX6_ofEdge 83 = .ok (.invokevirtual 128, 3) := by decide +kernel
theorem dX6_ofEdge_86 : decode cX6_ofEdge 86 = .ok (.ireturn, 1) := by decide +kernel
theorem dX6_ofEdge_87 : decode cX6_ofEdge 87 = .ok (.bipush (-2), 2) := by decide +kernel
theorem dX6_ofEdge_89 : decode cX6_ofEdge 89 = .ok (.ireturn, 1) := by decide +kernel
theorem dX6_strand_0 : decode cX6_strand 0 = .ok (.iload_n 1, 1) := by decide +kernel
theorem dX6_strand_1 : decode cX6_strand 1 = .ok (.invokestatic 116, 3) := by decide +kernel
theorem dX6_strand_4 : decode cX6_strand 4 = .ok (.ifCond .ne 5, 3) := by decide +kernel
theorem dX6_strand_7 : decode cX6_strand 7 = .ok (.iconst (-1), 1) := by decide +kernel
theorem dX6_strand_8 : decode cX6_strand 8 = .ok (.ireturn, 1) := by decide +kernel
theorem dX6_strand_9 : decode cX6_strand 9 = .ok (.aload_n 0, 1) := by decide +kernel
theorem dX6_strand_10 : decode cX6_strand 10 = .ok (.getfield 12, 3) := by decide +kernel
theorem dX6_strand_13 : decode cX6_strand 13 = .ok (.getfield 92, 3) := by decide +kernel
theorem dX6_strand_16 : decode cX6_strand 16 = .ok (.iload_n 1, 1) := by decide +kernel
theorem dX6_strand_17 : decode cX6_strand 17 = .ok (.iload_n 2, 1) := by decide +kernel
theorem dX6_strand_18 : decode cX6_strand 18 = .ok (.invokevirtual 131, 3) := by decide +kernel
theorem dX6_strand_21 : decode cX6_strand 21 = .ok (.ireturn, 1) := by decide +kernel
theorem dX6_bound_0 : decode cX6_bound 0 = .ok (.aload_n 0, 1) := by decide +kernel
theorem dX6_bound_1 : decode cX6_bound 1 = .ok (.getfield 12, 3) := by decide +kernel
theorem dX6_bound_4 : decode cX6_bound 4 = .ok (.iload_n 1, 1) := by decide +kernel
theorem dX6_bound_5 : decode cX6_bound 5 = .ok (.invokevirtual 75, 3) := by decide +kernel
theorem dX6_bound_8 : decode cX6_bound 8 = .ok (.ifCond .eq 14, 3) := by decide +kernel
theorem dX6_bound_11 : decode cX6_bound 11 = .ok (.aload_n 0, 1) := by decide +kernel
theorem dX6_bound_12 : decode cX6_bound 12 = .ok (.getfield 12, 3) := by decide +kernel
theorem dX6_bound_15 : decode cX6_bound 15 = .ok (.iload_n 2, 1) := by decide +kernel
theorem dX6_bound_16 : decode cX6_bound 16 = .ok (.invokevirtual 75, 3) := by decide +kernel
theorem dX6_bound_19 : decode cX6_bound 19 = .ok (.ifCond .ne 5, 3) := by decide +kernel
theorem dX6_bound_22 : decode cX6_bound 22 = .ok (.iconst (-1), 1) := by decide +kernel
theorem dX6_bound_23 : decode cX6_bound 23 = .ok (.ireturn, 1) := by decide +kernel
theorem dX6_bound_24 : decode cX6_bound 24 = .ok (.iload_n 1, 1) := by decide +kernel
theorem dX6_bound_25 : decode cX6_bound 25 = .ok (.iload_n 2, 1) := by decide +kernel
theorem dX6_bound_26 : decode cX6_bound 26 = .ok (.if_icmp .ne 6, 3) := by decide +kernel
theorem dX6_bound_29 : decode cX6_bound 29 = .ok (.bipush (-2), 2) := by decide +kernel
theorem dX6_bound_31 : decode cX6_bound 31 = .ok (.ireturn, 1) := by decide +kernel
theorem dX6_bound_32 : decode cX6_bound 32 = .ok (.aload_n 0, 1) := by decide +kernel
theorem dX6_bound_33 : decode cX6_bound 33 = .ok (.getfield 12, 3) := by decide +kernel
theorem dX6_bound_36 : decode cX6_bound 36 = .ok (.getfield 92, 3) := by decide +kernel
theorem dX6_bound_39 : decode cX6_bound 39 = .ok (.iload_n 1, 1) := by decide +kernel
theorem dX6_bound_40 : decode cX6_bound 40 = .ok (.iload_n 2, 1) := by decide +kernel
theorem dX6_bound_41 : decode cX6_bound 41 = .ok (.invokevirtual 134, 3) := by decide +kernel
theorem dX6_bound_44 : decode cX6_bound 44 = .ok (.ireturn, 1) := by decide +kernel
theorem dX6_planned_0 : decode cX6_planned 0 = .ok (.iload_n 1, 1) := by decide +kernel
theorem dX6_planned_1 : decode cX6_planned 1 = .ok (.ifCond .lt 17, 3) := by decide +kernel
theorem dX6_planned_4 : decode cX6_planned 4 = .ok (.iload_n 1, 1) := by decide +kernel
theorem dX6_planned_5 : decode cX6_planned 5 = .ok (.aload_n 0, 1) := by decide +kernel
theorem dX6_planned_6 : decode cX6_planned 6 = .ok (.getfield 12, 3) := by decide +kernel
theorem dX6_planned_9 : decode cX6_planned 9 = .ok (.getfield 137, 3) := by decide +kernel
theorem dX6_planned_12 : decode cX6_planned 12 = .ok (.getfield 141, 3) := by decide +kernel
theorem dX6_planned_15 : decode cX6_planned 15 = .ok (.if_icmp .lt 5, 3) := by decide +kernel
theorem dX6_planned_18 : decode cX6_planned 18 = .ok (.iconst (-1), 1) := by decide +kernel
theorem dX6_planned_19 : decode cX6_planned 19 = .ok (.ireturn, 1) := by decide +kernel
theorem dX6_planned_20 : decode cX6_planned 20 = .ok (.iload_n 2, 1) := by decide +kernel
theorem dX6_planned_21 : decode cX6_planned 21 = .ok (.tableswitch 69 0 2 #[27, 40, 53], 27) := by decide +kernel
theorem dX6_planned_48 : decode cX6_planned 48 = .ok (.aload_n 0, 1) := by decide +kernel
theorem dX6_planned_49 : decode cX6_planned 49 = .ok (.getfield 12, 3) := by decide +kernel
theorem dX6_planned_52 : decode cX6_planned 52 = .ok (.getfield 137, 3) := by decide +kernel
theorem dX6_planned_55 : decode cX6_planned 55 = .ok (.getfield 147, 3) := by decide +kernel
theorem dX6_planned_58 : decode cX6_planned 58 = .ok (.iload_n 1, 1) := by decide +kernel
theorem dX6_planned_59 : decode cX6_planned 59 = .ok (.iaload, 1) := by decide +kernel
theorem dX6_planned_60 : decode cX6_planned 60 = .ok (.ireturn, 1) := by decide +kernel
theorem dX6_planned_61 : decode cX6_planned 61 = .ok (.aload_n 0, 1) := by decide +kernel
theorem dX6_planned_62 : decode cX6_planned 62 = .ok (.getfield 12, 3) := by decide +kernel
theorem dX6_planned_65 : decode cX6_planned 65 = .ok (.getfield 137, 3) := by decide +kernel
theorem dX6_planned_68 : decode cX6_planned 68 = .ok (.getfield 150, 3) := by decide +kernel
theorem dX6_planned_71 : decode cX6_planned 71 = .ok (.iload_n 1, 1) := by decide +kernel
theorem dX6_planned_72 : decode cX6_planned 72 = .ok (.iaload, 1) := by decide +kernel
theorem dX6_planned_73 : decode cX6_planned 73 = .ok (.ireturn, 1) := by decide +kernel
theorem dX6_planned_74 : decode cX6_planned 74 = .ok (.aload_n 0, 1) := by decide +kernel
theorem dX6_planned_75 : decode cX6_planned 75 = .ok (.getfield 12, 3) := by decide +kernel
theorem dX6_planned_78 : decode cX6_planned 78 = .ok (.getfield 137, 3) := by decide +kernel
theorem dX6_planned_81 : decode cX6_planned 81 = .ok (.getfield 153, 3) := by decide +kernel
theorem dX6_planned_84 : decode cX6_planned 84 = .ok (.iload_n 1, 1) := by decide +kernel
theorem dX6_planned_85 : decode cX6_planned 85 = .ok (.iaload, 1) := by decide +kernel
theorem dX6_planned_86 : decode cX6_planned 86 = .ok (.bipush 100, 2) := by decide +kernel
theorem dX6_planned_88 : decode cX6_planned 88 = .ok (.iadd, 1) := by decide +kernel
theorem dX6_planned_89 : decode cX6_planned 89 = .ok (.ireturn, 1) := by decide +kernel
theorem dX6_planned_90 : decode cX6_planned 90 = .ok (.bipush (-2), 2) := by decide +kernel
theorem dX6_planned_92 : decode cX6_planned 92 = .ok (.ireturn, 1) := by decide +kernel
theorem dX6_count_0 : decode cX6_count 0 = .ok (.iload_n 1, 1) := by decide +kernel
theorem dX6_count_1 : decode cX6_count 1 = .ok (.tableswitch 257 0 16 #[83, 91, 99, 107, 118, 133, 148, 163, 174, 182, 190, 201, 211, 221, 231, 241, 249], 83) := by decide +kernel
theorem dX6_count_84 : decode cX6_count 84 = .ok (.aload_n 0, 1) := by decide +kernel
theorem dX6_count_85 : decode cX6_count 85 = .ok (.getfield 12, 3) := by decide +kernel
theorem dX6_count_88 : decode cX6_count 88 = .ok (.getfield 156, 3) := by decide +kernel
theorem dX6_count_91 : decode cX6_count 91 = .ok (.ireturn, 1) := by decide +kernel
theorem dX6_count_92 : decode cX6_count 92 = .ok (.aload_n 0, 1) := by decide +kernel
theorem dX6_count_93 : decode cX6_count 93 = .ok (.getfield 12, 3) := by decide +kernel
theorem dX6_count_96 : decode cX6_count 96 = .ok (.getfield 159, 3) := by decide +kernel
theorem dX6_count_99 : decode cX6_count 99 = .ok (.ireturn, 1) := by decide +kernel
theorem dX6_count_100 : decode cX6_count 100 = .ok (.aload_n 0, 1) := by decide +kernel
theorem dX6_count_101 : decode cX6_count 101 = .ok (.getfield 12, 3) := by decide +kernel
theorem dX6_count_104 : decode cX6_count 104 = .ok (.invokevirtual 161, 3) := by decide +kernel
theorem dX6_count_107 : decode cX6_count 107 = .ok (.ireturn, 1) := by decide +kernel
theorem dX6_count_108 : decode cX6_count 108 = .ok (.aload_n 0, 1) := by decide +kernel
theorem dX6_count_109 : decode cX6_count 109 = .ok (.getfield 12, 3) := by decide +kernel
theorem dX6_count_112 : decode cX6_count 112 = .ok (.getfield 92, 3) := by decide +kernel
theorem dX6_count_115 : decode cX6_count 115 = .ok (.getfield 165, 3) := by decide +kernel
theorem dX6_count_118 : decode cX6_count 118 = .ok (.ireturn, 1) := by decide +kernel
theorem dX6_count_119 : decode cX6_count 119 = .ok (.aload_n 0, 1) := by decide +kernel
theorem dX6_count_120 : decode cX6_count 120 = .ok (.getfield 12, 3) := by decide +kernel
theorem dX6_count_123 : decode cX6_count 123 = .ok (.aload_n 0, 1) := by decide +kernel
theorem dX6_count_124 : decode cX6_count 124 = .ok (.getfield 12, 3) := by decide +kernel
theorem dX6_count_127 : decode cX6_count 127 = .ok (.getfield 101, 3) := by decide +kernel
theorem dX6_count_130 : decode cX6_count 130 = .ok (.invokevirtual 168, 3) := by decide +kernel
theorem dX6_count_133 : decode cX6_count 133 = .ok (.ireturn, 1) := by decide +kernel
theorem dX6_count_134 : decode cX6_count 134 = .ok (.aload_n 0, 1) := by decide +kernel
theorem dX6_count_135 : decode cX6_count 135 = .ok (.getfield 12, 3) := by decide +kernel
theorem dX6_count_138 : decode cX6_count 138 = .ok (.aload_n 0, 1) := by decide +kernel
theorem dX6_count_139 : decode cX6_count 139 = .ok (.getfield 12, 3) := by decide +kernel
theorem dX6_count_142 : decode cX6_count 142 = .ok (.getfield 104, 3) := by decide +kernel
theorem dX6_count_145 : decode cX6_count 145 = .ok (.invokevirtual 168, 3) := by decide +kernel
theorem dX6_count_148 : decode cX6_count 148 = .ok (.ireturn, 1) := by decide +kernel
theorem dX6_count_149 : decode cX6_count 149 = .ok (.aload_n 0, 1) := by decide +kernel
theorem dX6_count_150 : decode cX6_count 150 = .ok (.getfield 12, 3) := by decide +kernel
theorem dX6_count_153 : decode cX6_count 153 = .ok (.aload_n 0, 1) := by decide +kernel
theorem dX6_count_154 : decode cX6_count 154 = .ok (.getfield 12, 3) := by decide +kernel
theorem dX6_count_157 : decode cX6_count 157 = .ok (.getfield 107, 3) := by decide +kernel
theorem dX6_count_160 : decode cX6_count 160 = .ok (.invokevirtual 168, 3) := by decide +kernel
theorem dX6_count_163 : decode cX6_count 163 = .ok (.ireturn, 1) := by decide +kernel
theorem dX6_count_164 : decode cX6_count 164 = .ok (.aload_n 0, 1) := by decide +kernel
theorem dX6_count_165 : decode cX6_count 165 = .ok (.getfield 12, 3) := by decide +kernel
theorem dX6_count_168 : decode cX6_count 168 = .ok (.sipush 32767, 3) := by decide +kernel
theorem dX6_count_171 : decode cX6_count 171 = .ok (.invokevirtual 128, 3) := by decide +kernel
theorem dX6_count_174 : decode cX6_count 174 = .ok (.ireturn, 1) := by decide +kernel
theorem dX6_count_175 : decode cX6_count 175 = .ok (.aload_n 0, 1) := by decide +kernel
theorem dX6_count_176 : decode cX6_count 176 = .ok (.getfield 12, 3) := by decide +kernel
theorem dX6_count_179 : decode cX6_count 179 = .ok (.getfield 172, 3) := by decide +kernel
theorem dX6_count_182 : decode cX6_count 182 = .ok (.ireturn, 1) := by decide +kernel
theorem dX6_count_183 : decode cX6_count 183 = .ok (.aload_n 0, 1) := by decide +kernel
theorem dX6_count_184 : decode cX6_count 184 = .ok (.getfield 12, 3) := by decide +kernel
theorem dX6_count_187 : decode cX6_count 187 = .ok (.getfield 175, 3) := by decide +kernel
theorem dX6_count_190 : decode cX6_count 190 = .ok (.ireturn, 1) := by decide +kernel
theorem dX6_count_191 : decode cX6_count 191 = .ok (.aload_n 0, 1) := by decide +kernel
theorem dX6_count_192 : decode cX6_count 192 = .ok (.getfield 12, 3) := by decide +kernel
theorem dX6_count_195 : decode cX6_count 195 = .ok (.getfield 137, 3) := by decide +kernel
theorem dX6_count_198 : decode cX6_count 198 = .ok (.getfield 141, 3) := by decide +kernel
theorem dX6_count_201 : decode cX6_count 201 = .ok (.ireturn, 1) := by decide +kernel
theorem dX6_count_202 : decode cX6_count 202 = .ok (.aload_n 0, 1) := by decide +kernel
theorem dX6_count_203 : decode cX6_count 203 = .ok (.getfield 12, 3) := by decide +kernel
theorem dX6_count_206 : decode cX6_count 206 = .ok (.getfield 178, 3) := by decide +kernel
theorem dX6_count_209 : decode cX6_count 209 = .ok (.iconst 0, 1) := by decide +kernel
theorem dX6_count_210 : decode cX6_count 210 = .ok (.iaload, 1) := by decide +kernel
theorem dX6_count_211 : decode cX6_count 211 = .ok (.ireturn, 1) := by decide +kernel
theorem dX6_count_212 : decode cX6_count 212 = .ok (.aload_n 0, 1) := by decide +kernel
theorem dX6_count_213 : decode cX6_count 213 = .ok (.getfield 12, 3) := by decide +kernel
theorem dX6_count_216 : decode cX6_count 216 = .ok (.getfield 178, 3) := by decide +kernel
theorem dX6_count_219 : decode cX6_count 219 = .ok (.iconst 1, 1) := by decide +kernel
theorem dX6_count_220 : decode cX6_count 220 = .ok (.iaload, 1) := by decide +kernel
theorem dX6_count_221 : decode cX6_count 221 = .ok (.ireturn, 1) := by decide +kernel
theorem dX6_count_222 : decode cX6_count 222 = .ok (.aload_n 0, 1) := by decide +kernel
theorem dX6_count_223 : decode cX6_count 223 = .ok (.getfield 12, 3) := by decide +kernel
theorem dX6_count_226 : decode cX6_count 226 = .ok (.getfield 178, 3) := by decide +kernel
theorem dX6_count_229 : decode cX6_count 229 = .ok (.iconst 2, 1) := by decide +kernel
theorem dX6_count_230 : decode cX6_count 230 = .ok (.iaload, 1) := by decide +kernel
theorem dX6_count_231 : decode cX6_count 231 = .ok (.ireturn, 1) := by decide +kernel
theorem dX6_count_232 : decode cX6_count 232 = .ok (.aload_n 0, 1) := by decide +kernel
theorem dX6_count_233 : decode cX6_count 233 = .ok (.getfield 12, 3) := by decide +kernel
theorem dX6_count_236 : decode cX6_count 236 = .ok (.getfield 178, 3) := by decide +kernel
theorem dX6_count_239 : decode cX6_count 239 = .ok (.iconst 3, 1) := by decide +kernel
theorem dX6_count_240 : decode cX6_count 240 = .ok (.iaload, 1) := by decide +kernel
theorem dX6_count_241 : decode cX6_count 241 = .ok (.ireturn, 1) := by decide +kernel
theorem dX6_count_242 : decode cX6_count 242 = .ok (.aload_n 0, 1) := by decide +kernel
theorem dX6_count_243 : decode cX6_count 243 = .ok (.getfield 33, 3) := by decide +kernel
theorem dX6_count_246 : decode cX6_count 246 = .ok (.getfield 181, 3) := by decide +kernel
theorem dX6_count_249 : decode cX6_count 249 = .ok (.ireturn, 1) := by decide +kernel
theorem dX6_count_250 : decode cX6_count 250 = .ok (.aload_n 0, 1) := by decide +kernel
theorem dX6_count_251 : decode cX6_count 251 = .ok (.getfield 22, 3) := by decide +kernel
theorem dX6_count_254 : decode cX6_count 254 = .ok (.getfield 184, 3) := by decide +kernel
theorem dX6_count_257 : decode cX6_count 257 = .ok (.ireturn, 1) := by decide +kernel
theorem dX6_count_258 : decode cX6_count 258 = .ok (.bipush (-2), 2) := by decide +kernel
theorem dX6_count_260 : decode cX6_count 260 = .ok (.ireturn, 1) := by decide +kernel
theorem dX6_why_0 : decode cX6_why 0 = .ok (.aload_n 0, 1) := by decide +kernel
theorem dX6_why_1 : decode cX6_why 1 = .ok (.getfield 12, 3) := by decide +kernel
theorem dX6_why_4 : decode cX6_why 4 = .ok (.iload_n 1, 1) := by decide +kernel
theorem dX6_why_5 : decode cX6_why 5 = .ok (.invokevirtual 75, 3) := by decide +kernel
theorem dX6_why_8 : decode cX6_why 8 = .ok (.ifCond .ne 5, 3) := by decide +kernel
theorem dX6_why_11 : decode cX6_why 11 = .ok (.iconst (-1), 1) := by decide +kernel
theorem dX6_why_12 : decode cX6_why 12 = .ok (.ireturn, 1) := by decide +kernel
theorem dX6_why_13 : decode cX6_why 13 = .ok (.iload_n 2, 1) := by decide +kernel
theorem dX6_why_14 : decode cX6_why 14 = .ok (.invokestatic 185, 3) := by decide +kernel
theorem dX6_why_17 : decode cX6_why 17 = .ok (.ifCond .ne 6, 3) := by decide +kernel
theorem dX6_why_20 : decode cX6_why 20 = .ok (.bipush (-2), 2) := by decide +kernel
theorem dX6_why_22 : decode cX6_why 22 = .ok (.ireturn, 1) := by decide +kernel
theorem dX6_why_23 : decode cX6_why 23 = .ok (.aload_n 0, 1) := by decide +kernel
theorem dX6_why_24 : decode cX6_why 24 = .ok (.getfield 12, 3) := by decide +kernel
theorem dX6_why_27 : decode cX6_why 27 = .ok (.iload_n 1, 1) := by decide +kernel
theorem dX6_why_28 : decode cX6_why 28 = .ok (.iload_n 2, 1) := by decide +kernel
theorem dX6_why_29 : decode cX6_why 29 = .ok (.invokevirtual 188, 3) := by decide +kernel
theorem dX6_why_32 : decode cX6_why 32 = .ok (.ireturn, 1) := by decide +kernel
theorem dX6_ifLeapt_0 : decode cX6_ifLeapt 0 = .ok (.aload_n 0, 1) := by decide +kernel
theorem dX6_ifLeapt_1 : decode cX6_ifLeapt 1 = .ok (.getfield 12, 3) := by decide +kernel
theorem dX6_ifLeapt_4 : decode cX6_ifLeapt 4 = .ok (.iload_n 1, 1) := by decide +kernel
theorem dX6_ifLeapt_5 : decode cX6_ifLeapt 5 = .ok (.invokevirtual 75, 3) := by decide +kernel
theorem dX6_ifLeapt_8 : decode cX6_ifLeapt 8 = .ok (.ifCond .ne 5, 3) := by decide +kernel
theorem dX6_ifLeapt_11 : decode cX6_ifLeapt 11 = .ok (.iconst (-1), 1) := by decide +kernel
theorem dX6_ifLeapt_12 : decode cX6_ifLeapt 12 = .ok (.ireturn, 1) := by decide +kernel
theorem dX6_ifLeapt_13 : decode cX6_ifLeapt 13 = .ok (.iload_n 2, 1) := by decide +kernel
theorem dX6_ifLeapt_14 : decode cX6_ifLeapt 14 = .ok (.invokestatic 185, 3) := by decide +kernel
theorem dX6_ifLeapt_17 : decode cX6_ifLeapt 17 = .ok (.ifCond .eq 12, 3) := by decide +kernel
theorem dX6_ifLeapt_20 : decode cX6_ifLeapt 20 = .ok (.iload_n 3, 1) := by decide +kernel
theorem dX6_ifLeapt_21 : decode cX6_ifLeapt 21 = .ok (.ifCond .lt 8, 3) := by decide +kernel
theorem dX6_ifLeapt_24 : decode cX6_ifLeapt 24 = .ok (.iload_n 3, 1) := by decide +kernel
theorem dX6_ifLeapt_25 : decode cX6_ifLeapt 25 = .ok (.iconst 3, 1) := by decide +kernel
theorem dX6_ifLeapt_26 : decode cX6_ifLeapt 26 = .ok (.if_icmp .le 6, 3) := by decide +kernel
theorem dX6_ifLeapt_29 : decode cX6_ifLeapt 29 = .ok (.bipush (-2), 2) := by decide +kernel
theorem dX6_ifLeapt_31 : decode cX6_ifLeapt 31 = .ok (.ireturn, 1) := by decide +kernel
theorem dX6_ifLeapt_32 : decode cX6_ifLeapt 32 = .ok (.aload_n 0, 1) := by decide +kernel
theorem dX6_ifLeapt_33 : decode cX6_ifLeapt 33 = .ok (.getfield 12, 3) := by decide +kernel
theorem dX6_ifLeapt_36 : decode cX6_ifLeapt 36 = .ok (.iload_n 1, 1) := by decide +kernel
theorem dX6_ifLeapt_37 : decode cX6_ifLeapt 37 = .ok (.iload_n 2, 1) := by decide +kernel
theorem dX6_ifLeapt_38 : decode cX6_ifLeapt 38 = .ok (.invokevirtual 188, 3) := by decide +kernel
theorem dX6_ifLeapt_41 : decode cX6_ifLeapt 41 = .ok (.ifCond .eq 6, 3) := by decide +kernel
theorem dX6_ifLeapt_44 : decode cX6_ifLeapt 44 = .ok (.bipush (-5), 2) := by decide +kernel
theorem dX6_ifLeapt_46 : decode cX6_ifLeapt 46 = .ok (.ireturn, 1) := by decide +kernel
theorem dX6_ifLeapt_47 : decode cX6_ifLeapt 47 = .ok (.aload_n 0, 1) := by decide +kernel
theorem dX6_ifLeapt_48 : decode cX6_ifLeapt 48 = .ok (.getfield 16, 3) := by decide +kernel
theorem dX6_ifLeapt_51 : decode cX6_ifLeapt 51 = .ok (.aload_n 0, 1) := by decide +kernel
theorem dX6_ifLeapt_52 : decode cX6_ifLeapt 52 = .ok (.getfield 12, 3) := by decide +kernel
theorem dX6_ifLeapt_55 : decode cX6_ifLeapt 55 = .ok (.invokevirtual 191, 3) := by decide +kernel
theorem dX6_ifLeapt_58 : decode cX6_ifLeapt 58 = .ok (.aload_n 0, 1) := by decide +kernel
theorem dX6_ifLeapt_59 : decode cX6_ifLeapt 59 = .ok (.getfield 16, 3) := by decide +kernel
theorem dX6_ifLeapt_62 : decode cX6_ifLeapt 62 = .ok (.iload_n 1, 1) := by decide +kernel
theorem dX6_ifLeapt_63 : decode cX6_ifLeapt 63 = .ok (.iload_n 2, 1) := by decide +kernel
theorem dX6_ifLeapt_64 : decode cX6_ifLeapt 64 = .ok (.invokevirtual 194, 3) := by decide +kernel
theorem dX6_ifLeapt_67 : decode cX6_ifLeapt 67 = .ok (.iload_n 3, 1) := by decide +kernel
theorem dX6_ifLeapt_68 : decode cX6_ifLeapt 68 = .ok (.tableswitch 88 0 2 #[28, 48, 68], 28) := by decide +kernel
theorem dX6_ifLeapt_96 : decode cX6_ifLeapt 96 = .ok (.aload_n 0, 1) := by decide +kernel
theorem dX6_ifLeapt_97 : decode cX6_ifLeapt 97 = .ok (.getfield 16, 3) := by decide +kernel
theorem dX6_ifLeapt_100 : decode cX6_ifLeapt 100 = .ok (.getfield 101, 3) := by decide +kernel
theorem dX6_ifLeapt_103 : decode cX6_ifLeapt 103 = .ok (.iload_n 1, 1) := by decide +kernel
theorem dX6_ifLeapt_104 : decode cX6_ifLeapt 104 = .ok (.iaload, 1) := by decide +kernel
theorem dX6_ifLeapt_105 : decode cX6_ifLeapt 105 = .ok (.aload_n 0, 1) := by decide +kernel
theorem dX6_ifLeapt_106 : decode cX6_ifLeapt 106 = .ok (.getfield 12, 3) := by decide +kernel
theorem dX6_ifLeapt_109 : decode cX6_ifLeapt 109 = .ok (.getfield 101, 3) := by decide +kernel
theorem dX6_ifLeapt_112 : decode cX6_ifLeapt 112 = .ok (.iload_n 1, 1) := by decide +kernel
theorem dX6_ifLeapt_113 : decode cX6_ifLeapt 113 = .ok (.iaload, 1) := by decide +kernel
theorem dX6_ifLeapt_114 : decode cX6_ifLeapt 114 = .ok (.isub, 1) := by decide +kernel
theorem dX6_ifLeapt_115 : decode cX6_ifLeapt 115 = .ok (.ireturn, 1) := by decide +kernel
theorem dX6_ifLeapt_116 : decode cX6_ifLeapt 116 = .ok (.aload_n 0, 1) := by decide +kernel
theorem dX6_ifLeapt_117 : decode cX6_ifLeapt 117 = .ok (.getfield 16, 3) := by decide +kernel
theorem dX6_ifLeapt_120 : decode cX6_ifLeapt 120 = .ok (.getfield 104, 3) := by decide +kernel
theorem dX6_ifLeapt_123 : decode cX6_ifLeapt 123 = .ok (.iload_n 1, 1) := by decide +kernel
theorem dX6_ifLeapt_124 : decode cX6_ifLeapt 124 = .ok (.iaload, 1) := by decide +kernel
theorem dX6_ifLeapt_125 : decode cX6_ifLeapt 125 = .ok (.aload_n 0, 1) := by decide +kernel
theorem dX6_ifLeapt_126 : decode cX6_ifLeapt 126 = .ok (.getfield 12, 3) := by decide +kernel
theorem dX6_ifLeapt_129 : decode cX6_ifLeapt 129 = .ok (.getfield 104, 3) := by decide +kernel
theorem dX6_ifLeapt_132 : decode cX6_ifLeapt 132 = .ok (.iload_n 1, 1) := by decide +kernel
theorem dX6_ifLeapt_133 : decode cX6_ifLeapt 133 = .ok (.iaload, 1) := by decide +kernel
theorem dX6_ifLeapt_134 : decode cX6_ifLeapt 134 = .ok (.isub, 1) := by decide +kernel
theorem dX6_ifLeapt_135 : decode cX6_ifLeapt 135 = .ok (.ireturn, 1) := by decide +kernel
theorem dX6_ifLeapt_136 : decode cX6_ifLeapt 136 = .ok (.aload_n 0, 1) := by decide +kernel
theorem dX6_ifLeapt_137 : decode cX6_ifLeapt 137 = .ok (.getfield 16, 3) := by decide +kernel
theorem dX6_ifLeapt_140 : decode cX6_ifLeapt 140 = .ok (.iload_n 1, 1) := by decide +kernel
theorem dX6_ifLeapt_141 : decode cX6_ifLeapt 141 = .ok (.invokevirtual 110, 3) := by decide +kernel
theorem dX6_ifLeapt_144 : decode cX6_ifLeapt 144 = .ok (.aload_n 0, 1) := by decide +kernel
theorem dX6_ifLeapt_145 : decode cX6_ifLeapt 145 = .ok (.getfield 12, 3) := by decide +kernel
theorem dX6_ifLeapt_148 : decode cX6_ifLeapt 148 = .ok (.iload_n 1, 1) := by decide +kernel
theorem dX6_ifLeapt_149 : decode cX6_ifLeapt 149 = .ok (.invokevirtual 110, 3) := by decide +kernel
theorem dX6_ifLeapt_152 : decode cX6_ifLeapt 152 = .ok (.iconst (-1), 1) := by decide +kernel
theorem dX6_ifLeapt_153 : decode cX6_ifLeapt 153 = .ok (.ixor, 1) := by decide +kernel
theorem dX6_ifLeapt_154 : decode cX6_ifLeapt 154 = .ok (.iand, 1) := by decide +kernel
theorem dX6_ifLeapt_155 : decode cX6_ifLeapt 155 = .ok (.ireturn, 1) := by decide +kernel
theorem dX6_ifLeapt_156 : decode cX6_ifLeapt 156 = .ok (.aload_n 0, 1) := by decide +kernel
theorem dX6_ifLeapt_157 : decode cX6_ifLeapt 157 = .ok (.getfield 12, 3) := by decide +kernel
theorem dX6_ifLeapt_160 : decode cX6_ifLeapt 160 = .ok (.iload_n 1, 1) := by decide +kernel
theorem dX6_ifLeapt_161 : decode cX6_ifLeapt 161 = .ok (.invokevirtual 110, 3) := by decide +kernel
theorem dX6_ifLeapt_164 : decode cX6_ifLeapt 164 = .ok (.aload_n 0, 1) := by decide +kernel
theorem dX6_ifLeapt_165 : decode cX6_ifLeapt 165 = .ok (.getfield 16, 3) := by decide +kernel
theorem dX6_ifLeapt_168 : decode cX6_ifLeapt 168 = .ok (.iload_n 1, 1) := by decide +kernel
theorem dX6_ifLeapt_169 : decode cX6_ifLeapt 169 = .ok (.invokevirtual 110, 3) := by decide +kernel
theorem dX6_ifLeapt_172 : decode cX6_ifLeapt 172 = .ok (.iconst (-1), 1) := by decide +kernel
theorem dX6_ifLeapt_173 : decode cX6_ifLeapt 173 = .ok (.ixor, 1) := by decide +kernel
theorem dX6_ifLeapt_174 : decode cX6_ifLeapt 174 = .ok (.iand, 1) := by decide +kernel
theorem dX6_ifLeapt_175 : decode cX6_ifLeapt 175 = .ok (.ireturn, 1) := by decide +kernel
theorem dX6_frees_0 : decode cX6_frees 0 = .ok (.aload_n 0, 1) := by decide +kernel
theorem dX6_frees_1 : decode cX6_frees 1 = .ok (.getfield 12, 3) := by decide +kernel
theorem dX6_frees_4 : decode cX6_frees 4 = .ok (.iload_n 1, 1) := by decide +kernel
theorem dX6_frees_5 : decode cX6_frees 5 = .ok (.invokevirtual 75, 3) := by decide +kernel
theorem dX6_frees_8 : decode cX6_frees 8 = .ok (.ifCond .eq 14, 3) := by decide +kernel
theorem dX6_frees_11 : decode cX6_frees 11 = .ok (.aload_n 0, 1) := by decide +kernel
theorem dX6_frees_12 : decode cX6_frees 12 = .ok (.getfield 12, 3) := by decide +kernel
theorem dX6_frees_15 : decode cX6_frees 15 = .ok (.iload_n 2, 1) := by decide +kernel
theorem dX6_frees_16 : decode cX6_frees 16 = .ok (.invokevirtual 75, 3) := by decide +kernel
theorem dX6_frees_19 : decode cX6_frees 19 = .ok (.ifCond .ne 5, 3) := by decide +kernel
theorem dX6_frees_22 : decode cX6_frees 22 = .ok (.iconst (-1), 1) := by decide +kernel
theorem dX6_frees_23 : decode cX6_frees 23 = .ok (.ireturn, 1) := by decide +kernel
theorem dX6_frees_24 : decode cX6_frees 24 = .ok (.iload_n 1, 1) := by decide +kernel
theorem dX6_frees_25 : decode cX6_frees 25 = .ok (.iload_n 2, 1) := by decide +kernel
theorem dX6_frees_26 : decode cX6_frees 26 = .ok (.if_icmp .ne 6, 3) := by decide +kernel
theorem dX6_frees_29 : decode cX6_frees 29 = .ok (.bipush (-2), 2) := by decide +kernel
theorem dX6_frees_31 : decode cX6_frees 31 = .ok (.ireturn, 1) := by decide +kernel
theorem dX6_frees_32 : decode cX6_frees 32 = .ok (.iconst 0, 1) := by decide +kernel
theorem dX6_frees_33 : decode cX6_frees 33 = .ok (.istore_n 3, 1) := by decide +kernel
theorem dX6_frees_34 : decode cX6_frees 34 = .ok (.iconst 0, 1) := by decide +kernel
theorem dX6_frees_35 : decode cX6_frees 35 = .ok (.istore 4, 2) := by decide +kernel
theorem dX6_frees_37 : decode cX6_frees 37 = .ok (.iload 4, 2) := by decide +kernel
theorem dX6_frees_39 : decode cX6_frees 39 = .ok (.bipush 15, 2) := by decide +kernel
theorem dX6_frees_41 : decode cX6_frees 41 = .ok (.if_icmp .ge 26, 3) := by decide +kernel
theorem dX6_frees_44 : decode cX6_frees 44 = .ok (.iload_n 3, 1) := by decide +kernel
theorem dX6_frees_45 : decode cX6_frees 45 = .ok (.aload_n 0, 1) := by decide +kernel
theorem dX6_frees_46 : decode cX6_frees 46 = .ok (.getfield 12, 3) := by decide +kernel
theorem dX6_frees_49 : decode cX6_frees 49 = .ok (.getfield 92, 3) := by decide +kernel
theorem dX6_frees_52 : decode cX6_frees 52 = .ok (.iload 4, 2) := by decide +kernel
theorem dX6_frees_54 : decode cX6_frees 54 = .ok (.iload_n 1, 1) := by decide +kernel
theorem dX6_frees_55 : decode cX6_frees 55 = .ok (.iload_n 2, 1) := by decide +kernel
theorem dX6_frees_56 : decode cX6_frees 56 = .ok (.invokevirtual 198, 3) := by decide +kernel
theorem dX6_frees_59 : decode cX6_frees 59 = .ok (.iadd, 1) := by decide +kernel
theorem dX6_frees_60 : decode cX6_frees 60 = .ok (.istore_n 3, 1) := by decide +kernel
theorem dX6_frees_61 : decode cX6_frees 61 = .ok (.iinc 4 1, 3) := by decide +kernel
theorem dX6_frees_64 : decode cX6_frees 64 = .ok (.goto (-27), 3) := by decide +kernel
theorem dX6_frees_67 : decode cX6_frees 67 = .ok (.iload_n 3, 1) := by decide +kernel
theorem dX6_frees_68 : decode cX6_frees 68 = .ok (.ireturn, 1) := by decide +kernel
theorem dX6_quietIn_0 : decode cX6_quietIn 0 = .ok (.aload_n 0, 1) := by decide +kernel
theorem dX6_quietIn_1 : decode cX6_quietIn 1 = .ok (.getfield 12, 3) := by decide +kernel
theorem dX6_quietIn_4 : decode cX6_quietIn 4 = .ok (.invokevirtual 201, 3) := by decide +kernel
theorem dX6_quietIn_7 : decode cX6_quietIn 7 = .ok (.aload_n 0, 1) := by decide +kernel
theorem dX6_quietIn_8 : decode cX6_quietIn 8 = .ok (.getfield 12, 3) := by decide +kernel
theorem dX6_quietIn_11 : decode cX6_quietIn 11 = .ok (.getfield 137, 3) := by decide +kernel
theorem dX6_quietIn_14 : decode cX6_quietIn 14 = .ok (.invokevirtual 204, 3) := by decide +kernel
theorem dX6_quietIn_17 : decode cX6_quietIn 17 = .ok (.invokestatic 207, 3) := by decide +kernel
theorem dX6_quietIn_20 : decode cX6_quietIn 20 = .ok (.istore_n 1, 1) := by decide +kernel
theorem dX6_quietIn_21 : decode cX6_quietIn 21 = .ok (.iload_n 1, 1) := by decide +kernel
theorem dX6_quietIn_22 : decode cX6_quietIn 22 = .ok (.aload_n 0, 1) := by decide +kernel
theorem dX6_quietIn_23 : decode cX6_quietIn 23 = .ok (.getfield 12, 3) := by decide +kernel
theorem dX6_quietIn_26 : decode cX6_quietIn 26 = .ok (.getfield 156, 3) := by decide +kernel
theorem dX6_quietIn_29 : decode cX6_quietIn 29 = .ok (.isub, 1) := by decide +kernel
theorem dX6_quietIn_30 : decode cX6_quietIn 30 = .ok (.iconst 0, 1) := by decide +kernel
theorem dX6_quietIn_31 : decode cX6_quietIn 31 = .ok (.invokestatic 207, 3) := by decide +kernel
theorem dX6_quietIn_34 : decode cX6_quietIn 34 = .ok (.ireturn, 1) := by decide +kernel
theorem dX6_stepIn_0 : decode cX6_stepIn 0 = .ok (.aload_n 0, 1) := by decide +kernel
theorem dX6_stepIn_1 : decode cX6_stepIn 1 = .ok (.getfield 12, 3) := by decide +kernel
theorem dX6_stepIn_4 : decode cX6_stepIn 4 = .ok (.iload_n 1, 1) := by decide +kernel
theorem dX6_stepIn_5 : decode cX6_stepIn 5 = .ok (.invokevirtual 75, 3) := by decide +kernel
theorem dX6_stepIn_8 : decode cX6_stepIn 8 = .ok (.ifCond .ne 5, 3) := by decide +kernel
theorem dX6_stepIn_11 : decode cX6_stepIn 11 = .ok (.iconst (-1), 1) := by decide +kernel
theorem dX6_stepIn_12 : decode cX6_stepIn 12 = .ok (.ireturn, 1) := by decide +kernel
theorem dX6_stepIn_13 : decode cX6_stepIn 13 = .ok (.iload_n 2, 1) := by decide +kernel
theorem dX6_stepIn_14 : decode cX6_stepIn 14 = .ok (.iconst 1, 1) := by decide +kernel
theorem dX6_stepIn_15 : decode cX6_stepIn 15 = .ok (.if_icmp .lt 9, 3) := by decide +kernel
theorem dX6_stepIn_18 : decode cX6_stepIn 18 = .ok (.iload_n 2, 1) := by decide +kernel
theorem dX6_stepIn_19 : decode cX6_stepIn 19 = .ok (.bipush 99, 2) := by decide +kernel
theorem dX6_stepIn_21 : decode cX6_stepIn 21 = .ok (.if_icmp .le 6, 3) := by decide +kernel
theorem dX6_stepIn_24 : decode cX6_stepIn 24 = .ok (.bipush (-2), 2) := by decide +kernel
theorem dX6_stepIn_26 : decode cX6_stepIn 26 = .ok (.ireturn, 1) := by decide +kernel
theorem dX6_stepIn_27 : decode cX6_stepIn 27 = .ok (.aload_n 0, 1) := by decide +kernel
theorem dX6_stepIn_28 : decode cX6_stepIn 28 = .ok (.getfield 16, 3) := by decide +kernel
theorem dX6_stepIn_31 : decode cX6_stepIn 31 = .ok (.aload_n 0, 1) := by decide +kernel
theorem dX6_stepIn_32 : decode cX6_stepIn 32 = .ok (.getfield 12, 3) := by decide +kernel
theorem dX6_stepIn_35 : decode cX6_stepIn 35 = .ok (.invokevirtual 191, 3) := by decide +kernel
theorem dX6_stepIn_38 : decode cX6_stepIn 38 = .ok (.iconst 0, 1) := by decide +kernel
theorem dX6_stepIn_39 : decode cX6_stepIn 39 = .ok (.istore_n 3, 1) := by decide +kernel
theorem dX6_stepIn_40 : decode cX6_stepIn 40 = .ok (.iload_n 3, 1) := by decide +kernel
theorem dX6_stepIn_41 : decode cX6_stepIn 41 = .ok (.iload_n 2, 1) := by decide +kernel
theorem dX6_stepIn_42 : decode cX6_stepIn 42 = .ok (.if_icmp .ge 17, 3) := by decide +kernel
theorem dX6_stepIn_45 : decode cX6_stepIn 45 = .ok (.aload_n 0, 1) := by decide +kernel
theorem dX6_stepIn_46 : decode cX6_stepIn 46 = .ok (.getfield 16, 3) := by decide +kernel
theorem dX6_stepIn_49 : decode cX6_stepIn 49 = .ok (.invokevirtual 212, 3) := by decide +kernel
theorem dX6_stepIn_52 : decode cX6_stepIn 52 = .ok (.pop, 1) := by decide +kernel
theorem dX6_stepIn_53 : decode cX6_stepIn 53 = .ok (.iinc 3 1, 3) := by decide +kernel
theorem dX6_stepIn_56 : decode cX6_stepIn 56 = .ok (.goto (-16), 3) := by decide +kernel
theorem dX6_stepIn_59 : decode cX6_stepIn 59 = .ok (.aload_n 0, 1) := by decide +kernel
theorem dX6_stepIn_60 : decode cX6_stepIn 60 = .ok (.getfield 16, 3) := by decide +kernel
theorem dX6_stepIn_63 : decode cX6_stepIn 63 = .ok (.getfield 79, 3) := by decide +kernel
theorem dX6_stepIn_66 : decode cX6_stepIn 66 = .ok (.iload_n 1, 1) := by decide +kernel
theorem dX6_stepIn_67 : decode cX6_stepIn 67 = .ok (.iaload, 1) := by decide +kernel
theorem dX6_stepIn_68 : decode cX6_stepIn 68 = .ok (.ireturn, 1) := by decide +kernel
theorem dX6_thickest_0 : decode cX6_thickest 0 = .ok (.bipush (-6), 2) := by decide +kernel
theorem dX6_thickest_2 : decode cX6_thickest 2 = .ok (.istore_n 1, 1) := by decide +kernel
theorem dX6_thickest_3 : decode cX6_thickest 3 = .ok (.iconst 0, 1) := by decide +kernel
theorem dX6_thickest_4 : decode cX6_thickest 4 = .ok (.istore_n 2, 1) := by decide +kernel
theorem dX6_thickest_5 : decode cX6_thickest 5 = .ok (.iconst 0, 1) := by decide +kernel
theorem dX6_thickest_6 : decode cX6_thickest 6 = .ok (.istore_n 3, 1) := by decide +kernel
theorem dX6_thickest_7 : decode cX6_thickest 7 = .ok (.iload_n 3, 1) := by decide +kernel
theorem dX6_thickest_8 : decode cX6_thickest 8 = .ok (.bipush 15, 2) := by decide +kernel
theorem dX6_thickest_10 : decode cX6_thickest 10 = .ok (.if_icmp .ge 33, 3) := by decide +kernel
theorem dX6_thickest_13 : decode cX6_thickest 13 = .ok (.aload_n 0, 1) := by decide +kernel
theorem dX6_thickest_14 : decode cX6_thickest 14 = .ok (.getfield 12, 3) := by decide +kernel
theorem dX6_thickest_17 : decode cX6_thickest 17 = .ok (.getfield 92, 3) := by decide +kernel
theorem dX6_thickest_20 : decode cX6_thickest 20 = .ok (.iload_n 3, 1) := by decide +kernel
theorem dX6_thickest_21 : decode cX6_thickest 21 = .ok (.invokevirtual 119, 3) := by decide +kernel
theorem dX6_thickest_24 : decode cX6_thickest 24 = .ok (.istore 4, 2) := by decide +kernel
theorem dX6_thickest_26 : decode cX6_thickest 26 = .ok (.iload 4, 2) := by decide +kernel
theorem dX6_thickest_28 : decode cX6_thickest 28 = .ok (.iload_n 2, 1) := by decide +kernel
theorem dX6_thickest_29 : decode cX6_thickest 29 = .ok (.if_icmp .le 8, 3) := by decide +kernel
theorem dX6_thickest_32 : decode cX6_thickest 32 = .ok (.iload 4, 2) := by decide +kernel
theorem dX6_thickest_34 : decode cX6_thickest 34 = .ok (.istore_n 2, 1) := by decide +kernel
theorem dX6_thickest_35 : decode cX6_thickest 35 = .ok (.iload_n 3, 1) := by decide +kernel
theorem dX6_thickest_36 : decode cX6_thickest 36 = .ok (.istore_n 1, 1) := by decide +kernel
theorem dX6_thickest_37 : decode cX6_thickest 37 = .ok (.iinc 3 1, 3) := by decide +kernel
theorem dX6_thickest_40 : decode cX6_thickest 40 = .ok (.goto (-33), 3) := by decide +kernel
theorem dX6_thickest_43 : decode cX6_thickest 43 = .ok (.iload_n 1, 1) := by decide +kernel
theorem dX6_thickest_44 : decode cX6_thickest 44 = .ok (.ireturn, 1) := by decide +kernel
theorem dX6_put_0 : decode cX6_put 0 = .ok (.aload_n 0, 1) := by decide +kernel
theorem dX6_put_1 : decode cX6_put 1 = .ok (.getfield 33, 3) := by decide +kernel
theorem dX6_put_4 : decode cX6_put 4 = .ok (.lload_n 1, 1) := by decide +kernel
theorem dX6_put_5 : decode cX6_put 5 = .ok (.invokevirtual 215, 3) := by decide +kernel
theorem dX6_put_8 : decode cX6_put 8 = .ok (.ireturn, 1) := by decide +kernel
theorem dX6_wipe_0 : decode cX6_wipe 0 = .ok (.aload_n 0, 1) := by decide +kernel
theorem dX6_wipe_1 : decode cX6_wipe 1 = .ok (.getfield 33, 3) := by decide +kernel
theorem dX6_wipe_4 : decode cX6_wipe 4 = .ok (.invokevirtual 219, 3) := by decide +kernel
theorem dX6_wipe_7 : decode cX6_wipe 7 = .ok (.ireturn, 1) := by decide +kernel
theorem dX6_fault_0 : decode cX6_fault 0 = .ok (.aload_n 0, 1) := by decide +kernel
theorem dX6_fault_1 : decode cX6_fault 1 = .ok (.getfield 40, 3) := by decide +kernel
theorem dX6_fault_4 : decode cX6_fault 4 = .ok (.aload_n 0, 1) := by decide +kernel
theorem dX6_fault_5 : decode cX6_fault 5 = .ok (.getfield 33, 3) := by decide +kernel
theorem dX6_fault_8 : decode cX6_fault 8 = .ok (.invokevirtual 222, 3) := by decide +kernel
theorem dX6_fault_11 : decode cX6_fault 11 = .ok (.ireturn, 1) := by decide +kernel
theorem dX6_carryOut_0 : decode cX6_carryOut 0 = .ok (.aload_n 0, 1) := by decide +kernel
theorem dX6_carryOut_1 : decode cX6_carryOut 1 = .ok (.getfield 40, 3) := by decide +kernel
theorem dX6_carryOut_4 : decode cX6_carryOut 4 = .ok (.aload_n 0, 1) := by decide +kernel
theorem dX6_carryOut_5 : decode cX6_carryOut 5 = .ok (.getfield 33, 3) := by decide +kernel
theorem dX6_carryOut_8 : decode cX6_carryOut 8 = .ok (.invokevirtual 222, 3) := by decide +kernel
theorem dX6_carryOut_11 : decode cX6_carryOut 11 = .ok (.bipush (-6), 2) := by decide +kernel
theorem dX6_carryOut_13 : decode cX6_carryOut 13 = .ok (.if_icmp .eq 6, 3) := by decide +kernel
theorem dX6_carryOut_16 : decode cX6_carryOut 16 = .ok (.bipush (-3), 2) := by decide +kernel
theorem dX6_carryOut_18 : decode cX6_carryOut 18 = .ok (.ireturn, 1) := by decide +kernel
theorem dX6_carryOut_19 : decode cX6_carryOut 19 = .ok (.aload_n 0, 1) := by decide +kernel
theorem dX6_carryOut_20 : decode cX6_carryOut 20 = .ok (.getfield 22, 3) := by decide +kernel
theorem dX6_carryOut_23 : decode cX6_carryOut 23 = .ok (.aload_n 0, 1) := by decide +kernel
theorem dX6_carryOut_24 : decode cX6_carryOut 24 = .ok (.getfield 12, 3) := by decide +kernel
theorem dX6_carryOut_27 : decode cX6_carryOut 27 = .ok (.invokevirtual 44, 3) := by decide +kernel
theorem dX6_carryOut_30 : decode cX6_carryOut 30 = .ok (.iconst 0, 1) := by decide +kernel
theorem dX6_carryOut_31 : decode cX6_carryOut 31 = .ok (.istore_n 1, 1) := by decide +kernel
theorem dX6_carryOut_32 : decode cX6_carryOut 32 = .ok (.iload_n 1, 1) := by decide +kernel
theorem dX6_carryOut_33 : decode cX6_carryOut 33 = .ok (.aload_n 0, 1) := by decide +kernel
theorem dX6_carryOut_34 : decode cX6_carryOut 34 = .ok (.getfield 40, 3) := by decide +kernel
theorem dX6_carryOut_37 : decode cX6_carryOut 37 = .ok (.getfield 226, 3) := by decide +kernel
theorem dX6_carryOut_40 : decode cX6_carryOut 40 = .ok (.if_icmp .ge 17, 3) := by decide +kernel
theorem dX6_carryOut_43 : decode cX6_carryOut 43 = .ok (.aload_n 0, 1) := by decide +kernel
theorem dX6_carryOut_44 : decode cX6_carryOut 44 = .ok (.iload_n 1, 1) := by decide +kernel
theorem dX6_carryOut_45 : decode cX6_carryOut 45 = .ok (.invokevirtual 227, 3) := by decide +kernel
theorem dX6_carryOut_48 : decode cX6_carryOut 48 = .ok (.ifCond .lt 9, 3) := by decide +kernel
theorem dX6_carryOut_51 : decode cX6_carryOut 51 = .ok (.iinc 1 1, 3) := by decide +kernel
theorem dX6_carryOut_54 : decode cX6_carryOut 54 = .ok (.goto (-22), 3) := by decide +kernel
theorem dX6_carryOut_57 : decode cX6_carryOut 57 = .ok (.aload_n 0, 1) := by decide +kernel
theorem dX6_carryOut_58 : decode cX6_carryOut 58 = .ok (.getfield 33, 3) := by decide +kernel
theorem dX6_carryOut_61 : decode cX6_carryOut 61 = .ok (.invokevirtual 219, 3) := by decide +kernel
theorem dX6_carryOut_64 : decode cX6_carryOut 64 = .ok (.pop, 1) := by decide +kernel
theorem dX6_carryOut_65 : decode cX6_carryOut 65 = .ok (.aload_n 0, 1) := by decide +kernel
theorem dX6_carryOut_66 : decode cX6_carryOut 66 = .ok (.iload_n 1, 1) := by decide +kernel
theorem dX6_carryOut_67 : decode cX6_carryOut 67 = .ok (.invokevirtual 52, 3) := by decide +kernel
theorem dX6_carryOut_70 : decode cX6_carryOut 70 = .ok (.ireturn, 1) := by decide +kernel
theorem dX6_undo_0 : decode cX6_undo 0 = .ok (.aload_n 0, 1) := by decide +kernel
theorem dX6_undo_1 : decode cX6_undo 1 = .ok (.getfield 22, 3) := by decide +kernel
theorem dX6_undo_4 : decode cX6_undo 4 = .ok (.getfield 184, 3) := by decide +kernel
theorem dX6_undo_7 : decode cX6_undo 7 = .ok (.ifCond .ne 6, 3) := by decide +kernel
theorem dX6_undo_10 : decode cX6_undo 10 = .ok (.bipush (-5), 2) := by decide +kernel
theorem dX6_undo_12 : decode cX6_undo 12 = .ok (.ireturn, 1) := by decide +kernel
theorem dX6_undo_13 : decode cX6_undo 13 = .ok (.aload_n 0, 1) := by decide +kernel
theorem dX6_undo_14 : decode cX6_undo 14 = .ok (.getfield 22, 3) := by decide +kernel
theorem dX6_undo_17 : decode cX6_undo 17 = .ok (.aload_n 0, 1) := by decide +kernel
theorem dX6_undo_18 : decode cX6_undo 18 = .ok (.getfield 12, 3) := by decide +kernel
theorem dX6_undo_21 : decode cX6_undo 21 = .ok (.invokevirtual 230, 3) := by decide +kernel
theorem dX6_undo_24 : decode cX6_undo 24 = .ok (.aload_n 0, 1) := by decide +kernel
theorem dX6_undo_25 : decode cX6_undo 25 = .ok (.getfield 22, 3) := by decide +kernel
theorem dX6_undo_28 : decode cX6_undo 28 = .ok (.getfield 184, 3) := by decide +kernel
theorem dX6_undo_31 : decode cX6_undo 31 = .ok (.ireturn, 1) := by decide +kernel
theorem dX6_save_0 : decode cX6_save 0 = .ok (.iload_n 1, 1) := by decide +kernel
theorem dX6_save_1 : decode cX6_save 1 = .ok (.ifCond .lt 8, 3) := by decide +kernel
theorem dX6_save_4 : decode cX6_save 4 = .ok (.iload_n 1, 1) := by decide +kernel
theorem dX6_save_5 : decode cX6_save 5 = .ok (.iconst 2, 1) := by decide +kernel
theorem dX6_save_6 : decode cX6_save 6 = .ok (.if_icmp .lt 6, 3) := by decide +kernel
theorem dX6_save_9 : decode cX6_save 9 = .ok (.bipush (-2), 2) := by decide +kernel
theorem dX6_save_11 : decode cX6_save 11 = .ok (.ireturn, 1) := by decide +kernel
theorem dX6_save_12 : decode cX6_save 12 = .ok (.aload_n 0, 1) := by decide +kernel
theorem dX6_save_13 : decode cX6_save 13 = .ok (.getfield 26, 3) := by decide +kernel
theorem dX6_save_16 : decode cX6_save 16 = .ok (.iload_n 1, 1) := by decide +kernel
theorem dX6_save_17 : decode cX6_save 17 = .ok (.invokestatic 233, 3) := by decide +kernel
theorem dX6_save_20 : decode cX6_save 20 = .ok (.aload_n 0, 1) := by decide +kernel
theorem dX6_save_21 : decode cX6_save 21 = .ok (.getfield 12, 3) := by decide +kernel
theorem dX6_save_24 : decode cX6_save 24 = .ok (.invokevirtual 191, 3) := by decide +kernel
theorem dX6_save_27 : decode cX6_save 27 = .ok (.aload_n 0, 1) := by decide +kernel
theorem dX6_save_28 : decode cX6_save 28 = .ok (.getfield 12, 3) := by decide +kernel
theorem dX6_save_31 : decode cX6_save 31 = .ok (.getfield 159, 3) := by decide +kernel
theorem dX6_save_34 : decode cX6_save 34 = .ok (.ireturn, 1) := by decide +kernel
theorem dX6_restore_0 : decode cX6_restore 0 = .ok (.iload_n 1, 1) := by decide +kernel
theorem dX6_restore_1 : decode cX6_restore 1 = .ok (.ifCond .lt 8, 3) := by decide +kernel
theorem dX6_restore_4 : decode cX6_restore 4 = .ok (.iload_n 1, 1) := by decide +kernel
theorem dX6_restore_5 : decode cX6_restore 5 = .ok (.iconst 2, 1) := by decide +kernel
theorem dX6_restore_6 : decode cX6_restore 6 = .ok (.if_icmp .lt 6, 3) := by decide +kernel
theorem dX6_restore_9 : decode cX6_restore 9 = .ok (.bipush (-2), 2) := by decide +kernel
theorem dX6_restore_11 : decode cX6_restore 11 = .ok (.ireturn, 1) := by decide +kernel
theorem dX6_restore_12 : decode cX6_restore 12 = .ok (.aload_n 0, 1) := by decide +kernel
theorem dX6_restore_13 : decode cX6_restore 13 = .ok (.getfield 26, 3) := by decide +kernel
theorem dX6_restore_16 : decode cX6_restore 16 = .ok (.iload_n 1, 1) := by decide +kernel
theorem dX6_restore_17 : decode cX6_restore 17 = .ok (.aaload, 1) := by decide +kernel
theorem dX6_restore_18 : decode cX6_restore 18 = .ok (.astore_n 2, 1) := by decide +kernel
theorem dX6_restore_19 : decode cX6_restore 19 = .ok (.aload_n 2, 1) := by decide +kernel
theorem dX6_restore_20 : decode cX6_restore 20 = .ok (.ifnonnull 6, 3) := by decide +kernel
theorem dX6_restore_23 : decode cX6_restore 23 = .ok (.bipush (-5), 2) := by decide +kernel
theorem dX6_restore_25 : decode cX6_restore 25 = .ok (.ireturn, 1) := by decide +kernel
theorem dX6_restore_26 : decode cX6_restore 26 = .ok (.aload_n 0, 1) := by decide +kernel
theorem dX6_restore_27 : decode cX6_restore 27 = .ok (.getfield 22, 3) := by decide +kernel
theorem dX6_restore_30 : decode cX6_restore 30 = .ok (.aload_n 0, 1) := by decide +kernel
theorem dX6_restore_31 : decode cX6_restore 31 = .ok (.getfield 12, 3) := by decide +kernel
theorem dX6_restore_34 : decode cX6_restore 34 = .ok (.invokevirtual 44, 3) := by decide +kernel
theorem dX6_restore_37 : decode cX6_restore 37 = .ok (.aload_n 0, 1) := by decide +kernel
theorem dX6_restore_38 : decode cX6_restore 38 = .ok (.getfield 12, 3) := by decide +kernel
theorem dX6_restore_41 : decode cX6_restore 41 = .ok (.aload_n 2, 1) := by decide +kernel
theorem dX6_restore_42 : decode cX6_restore 42 = .ok (.invokevirtual 191, 3) := by decide +kernel
theorem dX6_restore_45 : decode cX6_restore 45 = .ok (.aload_n 0, 1) := by decide +kernel
theorem dX6_restore_46 : decode cX6_restore 46 = .ok (.aload_n 0, 1) := by decide +kernel
theorem dX6_restore_47 : decode cX6_restore 47 = .ok (.getfield 12, 3) := by decide +kernel
theorem dX6_restore_50 : decode cX6_restore 50 = .ok (.getfield 159, 3) := by decide +kernel
theorem dX6_restore_53 : decode cX6_restore 53 = .ok (.invokevirtual 52, 3) := by decide +kernel
theorem dX6_restore_56 : decode cX6_restore 56 = .ok (.ireturn, 1) := by decide +kernel
theorem dX6_settled_0 : decode cX6_settled 0 = .ok (.iload_n 1, 1) := by decide +kernel
theorem dX6_settled_1 : decode cX6_settled 1 = .ok (.ifCond .lt 10, 3) := by decide +kernel
theorem dX6_settled_4 : decode cX6_settled 4 = .ok (.aload_n 0, 1) := by decide +kernel
theorem dX6_settled_5 : decode cX6_settled 5 = .ok (.getfield 22, 3) := by decide +kernel
theorem dX6_settled_8 : decode cX6_settled 8 = .ok (.invokevirtual 237, 3) := by decide +kernel
theorem dX6_settled_11 : decode cX6_settled 11 = .ok (.iload_n 1, 1) := by decide +kernel
theorem dX6_settled_12 : decode cX6_settled 12 = .ok (.ireturn, 1) := by decide +kernel
theorem dX6_carryOneOut_0 : decode cX6_carryOneOut 0 = .ok (.aload_n 0, 1) := by decide +kernel
theorem dX6_carryOneOut_1 : decode cX6_carryOneOut 1 = .ok (.getfield 40, 3) := by decide +kernel
theorem dX6_carryOneOut_4 : decode cX6_carryOneOut 4 = .ok (.iload_n 1, 1) := by decide +kernel
theorem dX6_carryOneOut_5 : decode cX6_carryOneOut 5 = .ok (.iconst 0, 1) := by decide +kernel
theorem dX6_carryOneOut_6 : decode cX6_carryOneOut 6 = .ok (.invokevirtual 240, 3) := by decide +kernel
theorem dX6_carryOneOut_9 : decode cX6_carryOneOut 9 = .ok (.istore_n 2, 1) := by decide +kernel
theorem dX6_carryOneOut_10 : decode cX6_carryOneOut 10 = .ok (.aload_n 0, 1) := by decide +kernel
theorem dX6_carryOneOut_11 : decode cX6_carryOneOut 11 = .ok (.getfield 40, 3) := by decide +kernel
theorem dX6_carryOneOut_14 : decode cX6_carryOneOut 14 = .ok (.iload_n 1, 1) := by decide +kernel
theorem dX6_carryOneOut_15 : decode cX6_carryOneOut 15 = .ok (.iconst 1, 1) := by decide +kernel
theorem dX6_carryOneOut_16 : decode cX6_carryOneOut 16 = .ok (.invokevirtual 240, 3) := by decide +kernel
theorem dX6_carryOneOut_19 : decode cX6_carryOneOut 19 = .ok (.istore_n 3, 1) := by decide +kernel
theorem dX6_carryOneOut_20 : decode cX6_carryOneOut 20 = .ok (.aload_n 0, 1) := by decide +kernel
theorem dX6_carryOneOut_21 : decode cX6_carryOneOut 21 = .ok (.getfield 40, 3) := by decide +kernel
theorem dX6_carryOneOut_24 : decode cX6_carryOneOut 24 = .ok (.iload_n 1, 1) := by decide +kernel
theorem dX6_carryOneOut_25 : decode cX6_carryOneOut 25 = .ok (.iconst 2, 1) := by decide +kernel
theorem dX6_carryOneOut_26 : decode cX6_carryOneOut 26 = .ok (.invokevirtual 240, 3) := by decide +kernel
theorem dX6_carryOneOut_29 : decode cX6_carryOneOut 29 = .ok (.istore 4, 2) := by decide +kernel
theorem dX6_carryOneOut_31 : decode cX6_carryOneOut 31 = .ok (.aload_n 0, 1) := by decide +kernel
theorem dX6_carryOneOut_32 : decode cX6_carryOneOut 32 = .ok (.getfield 40, 3) := by decide +kernel
theorem dX6_carryOneOut_35 : decode cX6_carryOneOut 35 = .ok (.iload_n 1, 1) := by decide +kernel
theorem dX6_carryOneOut_36 : decode cX6_carryOneOut 36 = .ok (.invokevirtual 243, 3) := by decide +kernel
theorem dX6_carryOneOut_39 : decode cX6_carryOneOut 39 = .ok (.tableswitch 144 103 120 #[94, 144, 144, 144, 85, 144, 144, 104, 144, 123, 144, 144, 144, 135, 144, 144, 144, 113], 85) := by decide +kernel
theorem dX6_carryOneOut_124 : decode cX6_carryOneOut 124 = .ok (.aload_n 0, 1) := by decide +kernel
theorem dX6_carryOneOut_125 : decode cX6_carryOneOut 125 = .ok (.getfield 12, 3) := by decide +kernel
theorem dX6_carryOneOut_128 : decode cX6_carryOneOut 128 = .ok (.iload_n 2, 1) := by decide +kernel
theorem dX6_carryOneOut_129 : decode cX6_carryOneOut 129 = .ok (.invokevirtual 56, 3) := by decide +kernel
theorem dX6_carryOneOut_132 : decode cX6_carryOneOut 132 = .ok (.ireturn, 1) := by decide +kernel
theorem dX6_carryOneOut_133 : decode cX6_carryOneOut 133 = .ok (.aload_n 0, 1) := by decide +kernel
theorem dX6_carryOneOut_134 : decode cX6_carryOneOut 134 = .ok (.getfield 12, 3) := by decide +kernel
theorem dX6_carryOneOut_137 : decode cX6_carryOneOut 137 = .ok (.iload_n 2, 1) := by decide +kernel
theorem dX6_carryOneOut_138 : decode cX6_carryOneOut 138 = .ok (.iload_n 3, 1) := by decide +kernel
theorem dX6_carryOneOut_139 : decode cX6_carryOneOut 139 = .ok (.invokevirtual 59, 3) := by decide +kernel
theorem dX6_carryOneOut_142 : decode cX6_carryOneOut 142 = .ok (.ireturn, 1) := by decide +kernel
theorem dX6_carryOneOut_143 : decode cX6_carryOneOut 143 = .ok (.aload_n 0, 1) := by decide +kernel
theorem dX6_carryOneOut_144 : decode cX6_carryOneOut 144 = .ok (.getfield 12, 3) := by decide +kernel
theorem dX6_carryOneOut_147 : decode cX6_carryOneOut 147 = .ok (.iload_n 2, 1) := by decide +kernel
theorem dX6_carryOneOut_148 : decode cX6_carryOneOut 148 = .ok (.invokevirtual 62, 3) := by decide +kernel
theorem dX6_carryOneOut_151 : decode cX6_carryOneOut 151 = .ok (.ireturn, 1) := by decide +kernel
theorem dX6_carryOneOut_152 : decode cX6_carryOneOut 152 = .ok (.aload_n 0, 1) := by decide +kernel
theorem dX6_carryOneOut_153 : decode cX6_carryOneOut 153 = .ok (.getfield 12, 3) := by decide +kernel
theorem dX6_carryOneOut_156 : decode cX6_carryOneOut 156 = .ok (.iload_n 2, 1) := by decide +kernel
theorem dX6_carryOneOut_157 : decode cX6_carryOneOut 157 = .ok (.iload_n 3, 1) := by decide +kernel
theorem dX6_carryOneOut_158 : decode cX6_carryOneOut 158 = .ok (.invokevirtual 65, 3) := by decide +kernel
theorem dX6_carryOneOut_161 : decode cX6_carryOneOut 161 = .ok (.ireturn, 1) := by decide +kernel
theorem dX6_carryOneOut_162 : decode cX6_carryOneOut 162 = .ok (.aload_n 0, 1) := by decide +kernel
theorem dX6_carryOneOut_163 : decode cX6_carryOneOut 163 = .ok (.getfield 12, 3) := by decide +kernel
theorem dX6_carryOneOut_166 : decode cX6_carryOneOut 166 = .ok (.iload_n 2, 1) := by decide +kernel
theorem dX6_carryOneOut_167 : decode cX6_carryOneOut 167 = .ok (.iload_n 3, 1) := by decide +kernel
theorem dX6_carryOneOut_168 : decode cX6_carryOneOut 168 = .ok (.iload 4, 2) := by decide +kernel
theorem dX6_carryOneOut_170 : decode cX6_carryOneOut 170 = .ok (.invokevirtual 68, 3) := by decide +kernel
theorem dX6_carryOneOut_173 : decode cX6_carryOneOut 173 = .ok (.ireturn, 1) := by decide +kernel
theorem dX6_carryOneOut_174 : decode cX6_carryOneOut 174 = .ok (.aload_n 0, 1) := by decide +kernel
theorem dX6_carryOneOut_175 : decode cX6_carryOneOut 175 = .ok (.getfield 12, 3) := by decide +kernel
theorem dX6_carryOneOut_178 : decode cX6_carryOneOut 178 = .ok (.iload_n 2, 1) := by decide +kernel
theorem dX6_carryOneOut_179 : decode cX6_carryOneOut 179 = .ok (.invokevirtual 72, 3) := by decide +kernel
theorem dX6_carryOneOut_182 : decode cX6_carryOneOut 182 = .ok (.ireturn, 1) := by decide +kernel
theorem dX6_carryOneOut_183 : decode cX6_carryOneOut 183 = .ok (.bipush (-3), 2) := by decide +kernel
theorem dX6_carryOneOut_185 : decode cX6_carryOneOut 185 = .ok (.ireturn, 1) := by decide +kernel
theorem dX6_isEdge_0 : decode cX6_isEdge 0 = .ok (.iload_n 0, 1) := by decide +kernel
theorem dX6_isEdge_1 : decode cX6_isEdge 1 = .ok (.ifCond .lt 13, 3) := by decide +kernel
theorem dX6_isEdge_4 : decode cX6_isEdge 4 = .ok (.iload_n 0, 1) := by decide +kernel
theorem dX6_isEdge_5 : decode cX6_isEdge 5 = .ok (.bipush 15, 2) := by decide +kernel
theorem dX6_isEdge_7 : decode cX6_isEdge 7 = .ok (.if_icmp .ge 7, 3) := by decide +kernel
theorem dX6_isEdge_10 : decode cX6_isEdge 10 = .ok (.iconst 1, 1) := by decide +kernel
theorem dX6_isEdge_11 : decode cX6_isEdge 11 = .ok (.goto 4, 3) := by decide +kernel
theorem dX6_isEdge_14 : decode cX6_isEdge 14 = .ok (.iconst 0, 1) := by decide +kernel
theorem dX6_isEdge_15 : decode cX6_isEdge 15 = .ok (.ireturn, 1) := by decide +kernel
theorem dX6_isLeap_0 : decode cX6_isLeap 0 = .ok (.iload_n 0, 1) := by decide +kernel
theorem dX6_isLeap_1 : decode cX6_isLeap 1 = .ok (.bipush (-15), 2) := by decide +kernel
theorem dX6_isLeap_3 : decode cX6_isLeap 3 = .ok (.if_icmp .lt 17, 3) := by decide +kernel
theorem dX6_isLeap_6 : decode cX6_isLeap 6 = .ok (.iload_n 0, 1) := by decide +kernel
theorem dX6_isLeap_7 : decode cX6_isLeap 7 = .ok (.bipush 15, 2) := by decide +kernel
theorem dX6_isLeap_9 : decode cX6_isLeap 9 = .ok (.if_icmp .gt 11, 3) := by decide +kernel
theorem dX6_isLeap_12 : decode cX6_isLeap 12 = .ok (.iload_n 0, 1) := by decide +kernel
theorem dX6_isLeap_13 : decode cX6_isLeap 13 = .ok (.ifCond .eq 7, 3) := by decide +kernel
theorem dX6_isLeap_16 : decode cX6_isLeap 16 = .ok (.iconst 1, 1) := by decide +kernel
theorem dX6_isLeap_17 : decode cX6_isLeap 17 = .ok (.goto 4, 3) := by decide +kernel
theorem dX6_isLeap_20 : decode cX6_isLeap 20 = .ok (.iconst 0, 1) := by decide +kernel
theorem dX6_isLeap_21 : decode cX6_isLeap 21 = .ok (.ireturn, 1) := by decide +kernel
theorem dX6_roomAt_0 : decode cX6_roomAt 0 = .ok (.aload_n 0, 1) := by decide +kernel
theorem dX6_roomAt_1 : decode cX6_roomAt 1 = .ok (.iload_n 1, 1) := by decide +kernel
theorem dX6_roomAt_2 : decode cX6_roomAt 2 = .ok (.aaload, 1) := by decide +kernel
theorem dX6_roomAt_3 : decode cX6_roomAt 3 = .ok (.astore_n 2, 1) := by decide +kernel
theorem dX6_roomAt_4 : decode cX6_roomAt 4 = .ok (.aload_n 2, 1) := by decide +kernel
theorem dX6_roomAt_5 : decode cX6_roomAt 5 = .ok (.ifnonnull 15, 3) := by decide +kernel
theorem dX6_roomAt_8 : decode cX6_roomAt 8 = .ok (.new 9, 3) := by decide +kernel
theorem dX6_roomAt_11 : decode cX6_roomAt 11 = .ok (.dup, 1) := by decide +kernel
theorem dX6_roomAt_12 : decode cX6_roomAt 12 = .ok (.invokespecial 11, 3) := by decide +kernel
theorem dX6_roomAt_15 : decode cX6_roomAt 15 = .ok (.astore_n 2, 1) := by decide +kernel
theorem dX6_roomAt_16 : decode cX6_roomAt 16 = .ok (.aload_n 0, 1) := by decide +kernel
theorem dX6_roomAt_17 : decode cX6_roomAt 17 = .ok (.iload_n 1, 1) := by decide +kernel
theorem dX6_roomAt_18 : decode cX6_roomAt 18 = .ok (.aload_n 2, 1) := by decide +kernel
theorem dX6_roomAt_19 : decode cX6_roomAt 19 = .ok (.aastore, 1) := by decide +kernel
theorem dX6_roomAt_20 : decode cX6_roomAt 20 = .ok (.aload_n 2, 1) := by decide +kernel
theorem dX6_roomAt_21 : decode cX6_roomAt 21 = .ok (.areturn, 1) := by decide +kernel
end
section
theorem dX7_init_0 : decode cX7_init 0 = .ok (.aload_n 0, 1) := by decide +kernel
theorem dX7_init_1 : decode cX7_init 1 = .ok (.invokespecial 1, 3) := by decide +kernel
theorem dX7_init_4 : decode cX7_init 4 = .ok (.aload_n 0, 1) := by decide +kernel
theorem dX7_init_5 : decode cX7_init 5 = .ok (.sipush 3400, 3) := by decide +kernel
theorem dX7_init_8 : decode cX7_init 8 = .ok (.newarray .int, 2) := by decide +kernel
theorem dX7_init_10 : decode cX7_init 10 = .ok (.putfield 7, 3) := by decide +kernel
theorem dX7_init_13 : decode cX7_init 13 = .ok (.aload_n 0, 1) := by decide +kernel
theorem dX7_init_14 : decode cX7_init 14 = .ok (.iconst 2, 1) := by decide +kernel
theorem dX7_init_15 : decode cX7_init 15 = .ok (.newarray .boolean, 2) := by decide +kernel
theorem dX7_init_17 : decode cX7_init 17 = .ok (.putfield 13, 3) := by decide +kernel
theorem dX7_init_20 : decode cX7_init 20 = .ok (.aload_n 0, 1) := by decide +kernel
theorem dX7_init_21 : decode cX7_init 21 = .ok (.bipush 80, 2) := by decide +kernel
theorem dX7_init_23 : decode cX7_init 23 = .ok (.newarray .int, 2) := by decide +kernel
theorem dX7_init_25 : decode cX7_init 25 = .ok (.putfield 17, 3) := by decide +kernel
theorem dX7_init_28 : decode cX7_init 28 = .ok (.aload_n 0, 1) := by decide +kernel
theorem dX7_init_29 : decode cX7_init 29 = .ok (.getfield 7, 3) := by decide +kernel
theorem dX7_init_32 : decode cX7_init 32 = .ok (.iconst 0, 1) := by decide +kernel
theorem dX7_init_33 : decode cX7_init 33 = .ok (.iconst 3, 1) := by decide +kernel
theorem dX7_init_34 : decode cX7_init 34 = .ok (.iastore, 1) := by decide +kernel
theorem dX7_init_35 : decode cX7_init 35 = .ok (.aload_n 0, 1) := by decide +kernel
theorem dX7_init_36 : decode cX7_init 36 = .ok (.getfield 7, 3) := by decide +kernel
theorem dX7_init_39 : decode cX7_init 39 = .ok (.iconst 1, 1) := by decide +kernel
theorem dX7_init_40 : decode cX7_init 40 = .ok (.iconst 4, 1) := by decide +kernel
theorem dX7_init_41 : decode cX7_init 41 = .ok (.iastore, 1) := by decide +kernel
theorem dX7_init_42 : decode cX7_init 42 = .ok (.aload_n 0, 1) := by decide +kernel
theorem dX7_init_43 : decode cX7_init 43 = .ok (.getfield 7, 3) := by decide +kernel
theorem dX7_init_46 : decode cX7_init 46 = .ok (.iconst 2, 1) := by decide +kernel
theorem dX7_init_47 : decode cX7_init 47 = .ok (.iconst 5, 1) := by decide +kernel
theorem dX7_init_48 : decode cX7_init 48 = .ok (.iastore, 1) := by decide +kernel
theorem dX7_init_49 : decode cX7_init 49 = .ok (.aload_n 0, 1) := by decide +kernel
theorem dX7_init_50 : decode cX7_init 50 = .ok (.getfield 7, 3) := by decide +kernel
theorem dX7_init_53 : decode cX7_init 53 = .ok (.iconst 3, 1) := by decide +kernel
theorem dX7_init_54 : decode cX7_init 54 = .ok (.bipush 14, 2) := by decide +kernel
theorem dX7_init_56 : decode cX7_init 56 = .ok (.iastore, 1) := by decide +kernel
theorem dX7_init_57 : decode cX7_init 57 = .ok (.return_, 1) := by decide +kernel
theorem dX7_in_0 : decode cX7_in 0 = .ok (.lload_n 0, 1) := by decide +kernel
theorem dX7_in_1 : decode cX7_in 1 = .ok (.lload_n 2, 1) := by decide +kernel
theorem dX7_in_2 : decode cX7_in 2 = .ok (.lcmp, 1) := by decide +kernel
theorem dX7_in_3 : decode cX7_in 3 = .ok (.ifCond .lt 14, 3) := by decide +kernel
theorem dX7_in_6 : decode cX7_in 6 = .ok (.lload_n 0, 1) := by decide +kernel
theorem dX7_in_7 : decode cX7_in 7 = .ok (.lload 4, 2) := by decide +kernel
theorem dX7_in_9 : decode cX7_in 9 = .ok (.lcmp, 1) := by decide +kernel
theorem dX7_in_10 : decode cX7_in 10 = .ok (.ifCond .gt 7, 3) := by decide +kernel
theorem dX7_in_13 : decode cX7_in 13 = .ok (.iconst 1, 1) := by decide +kernel
theorem dX7_in_14 : decode cX7_in 14 = .ok (.goto 4, 3) := by decide +kernel
theorem dX7_in_17 : decode cX7_in 17 = .ok (.iconst 0, 1) := by decide +kernel
theorem dX7_in_18 : decode cX7_in 18 = .ok (.ireturn, 1) := by decide +kernel
theorem dX7_copies_0 : decode cX7_copies 0 = .ok (.iconst 0, 1) := by decide +kernel
theorem dX7_copies_1 : decode cX7_copies 1 = .ok (.istore_n 3, 1) := by decide +kernel
theorem dX7_copies_2 : decode cX7_copies 2 = .ok (.iload_n 3, 1) := by decide +kernel
theorem dX7_copies_3 : decode cX7_copies 3 = .ok (.sipush 340, 3) := by decide +kernel
theorem dX7_copies_6 : decode cX7_copies 6 = .ok (.if_icmp .ge 33, 3) := by decide +kernel
theorem dX7_copies_9 : decode cX7_copies 9 = .ok (.aload_n 0, 1) := by decide +kernel
theorem dX7_copies_10 : decode cX7_copies 10 = .ok (.getfield 7, 3) := by decide +kernel
theorem dX7_copies_13 : decode cX7_copies 13 = .ok (.sipush 340, 3) := by decide +kernel
theorem dX7_copies_16 : decode cX7_copies 16 = .ok (.iload_n 2, 1) := by decide +kernel
theorem dX7_copies_17 : decode cX7_copies 17 = .ok (.imul, 1) := by decide +kernel
theorem dX7_copies_18 : decode cX7_copies 18 = .ok (.iload_n 3, 1) := by decide +kernel
theorem dX7_copies_19 : decode cX7_copies 19 = .ok (.iadd, 1) := by decide +kernel
theorem dX7_copies_20 : decode cX7_copies 20 = .ok (.aload_n 0, 1) := by decide +kernel
theorem dX7_copies_21 : decode cX7_copies 21 = .ok (.getfield 7, 3) := by decide +kernel
theorem dX7_copies_24 : decode cX7_copies 24 = .ok (.sipush 340, 3) := by decide +kernel
theorem dX7_copies_27 : decode cX7_copies 27 = .ok (.iload_n 1, 1) := by decide +kernel
theorem dX7_copies_28 : decode cX7_copies 28 = .ok (.imul, 1) := by decide +kernel
theorem dX7_copies_29 : decode cX7_copies 29 = .ok (.iload_n 3, 1) := by decide +kernel
theorem dX7_copies_30 : decode cX7_copies 30 = .ok (.iadd, 1) := by decide +kernel
theorem dX7_copies_31 : decode cX7_copies 31 = .ok (.iaload, 1) := by decide +kernel
theorem dX7_copies_32 : decode cX7_copies 32 = .ok (.iastore, 1) := by decide +kernel
theorem dX7_copies_33 : decode cX7_copies 33 = .ok (.iinc 3 1, 3) := by decide +kernel
theorem dX7_copies_36 : decode cX7_copies 36 = .ok (.goto (-34), 3) := by decide +kernel
theorem dX7_copies_39 : decode cX7_copies 39 = .ok (.return_, 1) := by decide +kernel
theorem dX7_changes_0 : decode cX7_changes 0 = .ok (.aload_n 0, 1) := by decide +kernel
theorem dX7_changes_1 : decode cX7_changes 1 = .ok (.getfield 20, 3) := by decide +kernel
theorem dX7_changes_4 : decode cX7_changes 4 = .ok (.bipush 6, 2) := by decide +kernel
theorem dX7_changes_6 : decode cX7_changes 6 = .ok (.if_icmp .ne 35, 3) := by decide +kernel
theorem dX7_changes_9 : decode cX7_changes 9 = .ok (.iconst 1, 1) := by decide +kernel
theorem dX7_changes_10 : decode cX7_changes 10 = .ok (.istore_n 1, 1) := by decide +kernel
theorem dX7_changes_11 : decode cX7_changes 11 = .ok (.iload_n 1, 1) := by decide +kernel
theorem dX7_changes_12 : decode cX7_changes 12 = .ok (.bipush 6, 2) := by decide +kernel
theorem dX7_changes_14 : decode cX7_changes 14 = .ok (.if_icmp .ge 17, 3) := by decide +kernel
theorem dX7_changes_17 : decode cX7_changes 17 = .ok (.aload_n 0, 1) := by decide +kernel
theorem dX7_changes_18 : decode cX7_changes 18 = .ok (.iload_n 1, 1) := by decide +kernel
theorem dX7_changes_19 : decode cX7_changes 19 = .ok (.iconst 1, 1) := by decide +kernel
theorem dX7_changes_20 : decode cX7_changes 20 = .ok (.iadd, 1) := by decide +kernel
theorem dX7_changes_21 : decode cX7_changes 21 = .ok (.iload_n 1, 1) := by decide +kernel
theorem dX7_changes_22 : decode cX7_changes 22 = .ok (.invokevirtual 24, 3) := by decide +kernel
theorem dX7_changes_25 : decode cX7_changes 25 = .ok (.iinc 1 1, 3) := by decide +kernel
theorem dX7_changes_28 : decode cX7_changes 28 = .ok (.goto (-17), 3) := by decide +kernel
theorem dX7_changes_31 : decode cX7_changes 31 = .ok (.aload_n 0, 1) := by decide +kernel
theorem dX7_changes_32 : decode cX7_changes 32 = .ok (.dup, 1) := by decide +kernel
theorem dX7_changes_33 : decode cX7_changes 33 = .ok (.getfield 20, 3) := by decide +kernel
theorem dX7_changes_36 : decode cX7_changes 36 = .ok (.iconst 1, 1) := by decide +kernel
theorem dX7_changes_37 : decode cX7_changes 37 = .ok (.isub, 1) := by decide +kernel
theorem dX7_changes_38 : decode cX7_changes 38 = .ok (.putfield 20, 3) := by decide +kernel
theorem dX7_changes_41 : decode cX7_changes 41 = .ok (.aload_n 0, 1) := by decide +kernel
theorem dX7_changes_42 : decode cX7_changes 42 = .ok (.dup, 1) := by decide +kernel
theorem dX7_changes_43 : decode cX7_changes 43 = .ok (.getfield 20, 3) := by decide +kernel
theorem dX7_changes_46 : decode cX7_changes 46 = .ok (.iconst 1, 1) := by decide +kernel
theorem dX7_changes_47 : decode cX7_changes 47 = .ok (.iadd, 1) := by decide +kernel
theorem dX7_changes_48 : decode cX7_changes 48 = .ok (.putfield 20, 3) := by decide +kernel
theorem dX7_changes_51 : decode cX7_changes 51 = .ok (.aload_n 0, 1) := by decide +kernel
theorem dX7_changes_52 : decode cX7_changes 52 = .ok (.iconst 0, 1) := by decide +kernel
theorem dX7_changes_53 : decode cX7_changes 53 = .ok (.aload_n 0, 1) := by decide +kernel
theorem dX7_changes_54 : decode cX7_changes 54 = .ok (.getfield 20, 3) := by decide +kernel
theorem dX7_changes_57 : decode cX7_changes 57 = .ok (.invokevirtual 24, 3) := by decide +kernel
theorem dX7_changes_60 : decode cX7_changes 60 = .ok (.return_, 1) := by decide +kernel
theorem dX7_size_0 : decode cX7_size 0 = .ok (.iload_n 0, 1) := by decide +kernel
theorem dX7_size_1 : decode cX7_size 1 = .ok (.ifCond .ge 8, 3) := by decide +kernel
theorem dX7_size_4 : decode cX7_size 4 = .ok (.iload_n 0, 1) := by decide +kernel
theorem dX7_size_5 : decode cX7_size 5 = .ok (.ineg, 1) := by decide +kernel
theorem dX7_size_6 : decode cX7_size 6 = .ok (.goto 4, 3) := by decide +kernel
theorem dX7_size_9 : decode cX7_size 9 = .ok (.iload_n 0, 1) := by decide +kernel
theorem dX7_size_10 : decode cX7_size 10 = .ok (.ireturn, 1) := by decide +kernel
theorem dX7_kittenAt_0 : decode cX7_kittenAt 0 = .ok (.iload_n 0, 1) := by decide +kernel
theorem dX7_kittenAt_1 : decode cX7_kittenAt 1 = .ok (.bipush 10, 2) := by decide +kernel
theorem dX7_kittenAt_3 : decode cX7_kittenAt 3 = .ok (.iadd, 1) := by decide +kernel
theorem dX7_kittenAt_4 : decode cX7_kittenAt 4 = .ok (.bipush 7, 2) := by decide +kernel
theorem dX7_kittenAt_6 : decode cX7_kittenAt 6 = .ok (.iload_n 1, 1) := by decide +kernel
theorem dX7_kittenAt_7 : decode cX7_kittenAt 7 = .ok (.imul, 1) := by decide +kernel
theorem dX7_kittenAt_8 : decode cX7_kittenAt 8 = .ok (.iadd, 1) := by decide +kernel
theorem dX7_kittenAt_9 : decode cX7_kittenAt 9 = .ok (.ireturn, 1) := by decide +kernel
theorem dX7_planAt_0 : decode cX7_planAt 0 = .ok (.iload_n 0, 1) := by decide +kernel
theorem dX7_planAt_1 : decode cX7_planAt 1 = .ok (.bipush 52, 2) := by decide +kernel
theorem dX7_planAt_3 : decode cX7_planAt 3 = .ok (.iadd, 1) := by decide +kernel
theorem dX7_planAt_4 : decode cX7_planAt 4 = .ok (.iconst 3, 1) := by decide +kernel
theorem dX7_planAt_5 : decode cX7_planAt 5 = .ok (.iload_n 1, 1) := by decide +kernel
theorem dX7_planAt_6 : decode cX7_planAt 6 = .ok (.imul, 1) := by decide +kernel
theorem dX7_planAt_7 : decode cX7_planAt 7 = .ok (.iadd, 1) := by decide +kernel
theorem dX7_planAt_8 : decode cX7_planAt 8 = .ok (.ireturn, 1) := by decide +kernel
theorem dX7_naps_0 : decode cX7_naps 0 = .ok (.aload_n 0, 1) := by decide +kernel
theorem dX7_naps_1 : decode cX7_naps 1 = .ok (.getfield 7, 3) := by decide +kernel
theorem dX7_naps_4 : decode cX7_naps 4 = .ok (.iload_n 1, 1) := by decide +kernel
theorem dX7_naps_5 : decode cX7_naps 5 = .ok (.iload_n 2, 1) := by decide +kernel
theorem dX7_naps_6 : decode cX7_naps 6 = .ok (.invokestatic 28, 3) := by decide +kernel
theorem dX7_naps_9 : decode cX7_naps 9 = .ok (.iconst 2, 1) := by decide +kernel
theorem dX7_naps_10 : decode cX7_naps 10 = .ok (.iadd, 1) := by decide +kernel
theorem dX7_naps_11 : decode cX7_naps 11 = .ok (.iaload, 1) := by decide +kernel
theorem dX7_naps_12 : decode cX7_naps 12 = .ok (.bipush (-6), 2) := by decide +kernel
theorem dX7_naps_14 : decode cX7_naps 14 = .ok (.if_icmp .eq 7, 3) := by decide +kernel
theorem dX7_naps_17 : decode cX7_naps 17 = .ok (.iconst 1, 1) := by decide +kernel
theorem dX7_naps_18 : decode cX7_naps 18 = .ok (.goto 4, 3) := by decide +kernel
theorem dX7_naps_21 : decode cX7_naps 21 = .ok (.iconst 0, 1) := by decide +kernel
theorem dX7_naps_22 : decode cX7_naps 22 = .ok (.ireturn, 1) := by decide +kernel
theorem dX7_ownerAt_0 : decode cX7_ownerAt 0 = .ok (.aload_n 0, 1) := by decide +kernel
theorem dX7_ownerAt_1 : decode cX7_ownerAt 1 = .ok (.getfield 7, 3) := by decide +kernel
theorem dX7_ownerAt_4 : decode cX7_ownerAt 4 = .ok (.iload_n 1, 1) := by decide +kernel
theorem dX7_ownerAt_5 : decode cX7_ownerAt 5 = .ok (.bipush 100, 2) := by decide +kernel
theorem dX7_ownerAt_7 : decode cX7_ownerAt 7 = .ok (.iadd, 1) := by decide +kernel
theorem dX7_ownerAt_8 : decode cX7_ownerAt 8 = .ok (.iload_n 2, 1) := by decide +kernel
theorem dX7_ownerAt_9 : decode cX7_ownerAt 9 = .ok (.iadd, 1) := by decide +kernel
theorem dX7_ownerAt_10 : decode cX7_ownerAt 10 = .ok (.iaload, 1) := by decide +kernel
theorem dX7_ownerAt_11 : decode cX7_ownerAt 11 = .ok (.istore 4, 2) := by decide +kernel
theorem dX7_ownerAt_13 : decode cX7_ownerAt 13 = .ok (.iload 4, 2) := by decide +kernel
theorem dX7_ownerAt_15 : decode cX7_ownerAt 15 = .ok (.bipush 16, 2) := by decide +kernel
theorem dX7_ownerAt_17 : decode cX7_ownerAt 17 = .ok (.irem, 1) := by decide +kernel
theorem dX7_ownerAt_18 : decode cX7_ownerAt 18 = .ok (.iload_n 3, 1) := by decide +kernel
theorem dX7_ownerAt_19 : decode cX7_ownerAt 19 = .ok (.if_icmp .ne 11, 3) := by decide +kernel
theorem dX7_ownerAt_22 : decode cX7_ownerAt 22 = .ok (.iload 4, 2) := by decide +kernel
theorem dX7_ownerAt_24 : decode cX7_ownerAt 24 = .ok (.bipush 16, 2) := by decide +kernel
theorem dX7_ownerAt_26 : decode cX7_ownerAt 26 = .ok (.idiv, 1) := by decide +kernel
theorem dX7_ownerAt_27 : decode cX7_ownerAt 27 = .ok (.goto 5, 3) := by decide +kernel
theorem dX7_ownerAt_30 : decode cX7_ownerAt 30 = .ok (.bipush (-6), 2) := by decide +kernel
theorem dX7_ownerAt_32 : decode cX7_ownerAt 32 = .ok (.ireturn, 1) := by decide +kernel
theorem dX7_top_0 : decode cX7_top 0 = .ok (.bipush (-6), 2) := by decide +kernel
theorem dX7_top_2 : decode cX7_top 2 = .ok (.istore_n 3, 1) := by decide +kernel
theorem dX7_top_3 : decode cX7_top 3 = .ok (.iconst 0, 1) := by decide +kernel
theorem dX7_top_4 : decode cX7_top 4 = .ok (.istore 4, 2) := by decide +kernel
theorem dX7_top_6 : decode cX7_top 6 = .ok (.iload 4, 2) := by decide +kernel
theorem dX7_top_8 : decode cX7_top 8 = .ok (.aload_n 0, 1) := by decide +kernel
theorem dX7_top_9 : decode cX7_top 9 = .ok (.getfield 7, 3) := by decide +kernel
theorem dX7_top_12 : decode cX7_top 12 = .ok (.iload_n 1, 1) := by decide +kernel
theorem dX7_top_13 : decode cX7_top 13 = .ok (.bipush 8, 2) := by decide +kernel
theorem dX7_top_15 : decode cX7_top 15 = .ok (.iadd, 1) := by decide +kernel
theorem dX7_top_16 : decode cX7_top 16 = .ok (.iaload, 1) := by decide +kernel
theorem dX7_top_17 : decode cX7_top 17 = .ok (.if_icmp .ge 29, 3) := by decide +kernel
theorem dX7_top_20 : decode cX7_top 20 = .ok (.aload_n 0, 1) := by decide +kernel
theorem dX7_top_21 : decode cX7_top 21 = .ok (.iload_n 1, 1) := by decide +kernel
theorem dX7_top_22 : decode cX7_top 22 = .ok (.iload 4, 2) := by decide +kernel
theorem dX7_top_24 : decode cX7_top 24 = .ok (.iload_n 2, 1) := by decide +kernel
theorem dX7_top_25 : decode cX7_top 25 = .ok (.invokevirtual 32, 3) := by decide +kernel
theorem dX7_top_28 : decode cX7_top 28 = .ok (.bipush (-6), 2) := by decide +kernel
theorem dX7_top_30 : decode cX7_top 30 = .ok (.if_icmp .ne 7, 3) := by decide +kernel
theorem dX7_top_33 : decode cX7_top 33 = .ok (.iload_n 3, 1) := by decide +kernel
theorem dX7_top_34 : decode cX7_top 34 = .ok (.goto 5, 3) := by decide +kernel
theorem dX7_top_37 : decode cX7_top 37 = .ok (.iload 4, 2) := by decide +kernel
theorem dX7_top_39 : decode cX7_top 39 = .ok (.istore_n 3, 1) := by decide +kernel
theorem dX7_top_40 : decode cX7_top 40 = .ok (.iinc 4 1, 3) := by decide +kernel
theorem dX7_top_43 : decode cX7_top 43 = .ok (.goto (-37), 3) := by decide +kernel
theorem dX7_top_46 : decode cX7_top 46 = .ok (.iload_n 3, 1) := by decide +kernel
theorem dX7_top_47 : decode cX7_top 47 = .ok (.ireturn, 1) := by decide +kernel
theorem dX7_removesStrand_0 : decode cX7_removesStrand 0 = .ok (.aload_n 0, 1) := by decide +kernel
theorem dX7_removesStrand_1 : decode cX7_removesStrand 1 = .ok (.getfield 7, 3) := by decide +kernel
theorem dX7_removesStrand_4 : decode cX7_removesStrand 4 = .ok (.iload_n 1, 1) := by decide +kernel
theorem dX7_removesStrand_5 : decode cX7_removesStrand 5 = .ok (.bipush 8, 2) := by decide +kernel
theorem dX7_removesStrand_7 : decode cX7_removesStrand 7 = .ok (.iadd, 1) := by decide +kernel
theorem dX7_removesStrand_8 : decode cX7_removesStrand 8 = .ok (.dup2, 1) := by decide +kernel
theorem dX7_removesStrand_9 : decode cX7_removesStrand 9 = .ok (.iaload, 1) := by decide +kernel
theorem dX7_removesStrand_10 : decode cX7_removesStrand 10 = .ok (.iconst 1, 1) := by decide +kernel
theorem dX7_removesStrand_11 : decode cX7_removesStrand 11 = .ok (.isub, 1) := by decide +kernel
theorem dX7_removesStrand_12 : decode cX7_removesStrand 12 = .ok (.iastore, 1) := by decide +kernel
theorem dX7_removesStrand_13 : decode cX7_removesStrand 13 = .ok (.iload_n 2, 1) := by decide +kernel
theorem dX7_removesStrand_14 : decode cX7_removesStrand 14 = .ok (.istore_n 3, 1) := by decide +kernel
theorem dX7_removesStrand_15 : decode cX7_removesStrand 15 = .ok (.iload_n 3, 1) := by decide +kernel
theorem dX7_removesStrand_16 : decode cX7_removesStrand 16 = .ok (.aload_n 0, 1) := by decide +kernel
theorem dX7_removesStrand_17 : decode cX7_removesStrand 17 = .ok (.getfield 7, 3) := by decide +kernel
theorem dX7_removesStrand_20 : decode cX7_removesStrand 20 = .ok (.iload_n 1, 1) := by decide +kernel
theorem dX7_removesStrand_21 : decode cX7_removesStrand 21 = .ok (.bipush 8, 2) := by decide +kernel
theorem dX7_removesStrand_23 : decode cX7_removesStrand 23 = .ok (.iadd, 1) := by decide +kernel
theorem dX7_removesStrand_24 : decode cX7_removesStrand 24 = .ok (.iaload, 1) := by decide +kernel
theorem dX7_removesStrand_25 : decode cX7_removesStrand 25 = .ok (.if_icmp .ge 33, 3) := by decide +kernel
theorem dX7_removesStrand_28 : decode cX7_removesStrand 28 = .ok (.aload_n 0, 1) := by decide +kernel
theorem dX7_removesStrand_29 : decode cX7_removesStrand 29 = .ok (.getfield 7, 3) := by decide +kernel
theorem dX7_removesStrand_32 : decode cX7_removesStrand 32 = .ok (.iload_n 1, 1) := by decide +kernel
theorem dX7_removesStrand_33 : decode cX7_removesStrand 33 = .ok (.bipush 100, 2) := by decide +kernel
theorem dX7_removesStrand_35 : decode cX7_removesStrand 35 = .ok (.iadd, 1) := by decide +kernel
theorem dX7_removesStrand_36 : decode cX7_removesStrand 36 = .ok (.iload_n 3, 1) := by decide +kernel
theorem dX7_removesStrand_37 : decode cX7_removesStrand 37 = .ok (.iadd, 1) := by decide +kernel
theorem dX7_removesStrand_38 : decode cX7_removesStrand 38 = .ok (.aload_n 0, 1) := by decide +kernel
theorem dX7_removesStrand_39 : decode cX7_removesStrand 39 = .ok (.getfield 7, 3) := by decide +kernel
theorem dX7_removesStrand_42 : decode cX7_removesStrand 42 = .ok (.iload_n 1, 1) := by decide +kernel
theorem dX7_removesStrand_43 : decode cX7_removesStrand 43 = .ok (.bipush 100, 2) := by decide +kernel
theorem dX7_removesStrand_45 : decode cX7_removesStrand 45 = .ok (.iadd, 1) := by decide +kernel
theorem dX7_removesStrand_46 : decode cX7_removesStrand 46 = .ok (.iload_n 3, 1) := by decide +kernel
theorem dX7_removesStrand_47 : decode cX7_removesStrand 47 = .ok (.iadd, 1) := by decide +kernel
theorem dX7_removesStrand_48 : decode cX7_removesStrand 48 = .ok (.iconst 1, 1) := by decide +kernel
theorem dX7_removesStrand_49 : decode cX7_removesStrand 49 = .ok (.iadd, 1) := by decide +kernel
theorem dX7_removesStrand_50 : decode cX7_removesStrand 50 = .ok (.iaload, 1) := by decide +kernel
theorem dX7_removesStrand_51 : decode cX7_removesStrand 51 = .ok (.iastore, 1) := by decide +kernel
theorem dX7_removesStrand_52 : decode cX7_removesStrand 52 = .ok (.iinc 3 1, 3) := by decide +kernel
theorem dX7_removesStrand_55 : decode cX7_removesStrand 55 = .ok (.goto (-40), 3) := by decide +kernel
theorem dX7_removesStrand_58 : decode cX7_removesStrand 58 = .ok (.return_, 1) := by decide +kernel
theorem dX7_windsBack_0 : decode cX7_windsBack 0 = .ok (.aload_n 0, 1) := by decide +kernel
theorem dX7_windsBack_1 : decode cX7_windsBack 1 = .ok (.iload_n 1, 1) := by decide +kernel
theorem dX7_windsBack_2 : decode cX7_windsBack 2 = .ok (.iload_n 3, 1) := by decide +kernel
theorem dX7_windsBack_3 : decode cX7_windsBack 3 = .ok (.invokevirtual 36, 3) := by decide +kernel
theorem dX7_windsBack_6 : decode cX7_windsBack 6 = .ok (.istore 4, 2) := by decide +kernel
theorem dX7_windsBack_8 : decode cX7_windsBack 8 = .ok (.iload 4, 2) := by decide +kernel
theorem dX7_windsBack_10 : decode cX7_windsBack 10 = .ok (.bipush (-6), 2) := by decide +kernel
theorem dX7_windsBack_12 : decode cX7_windsBack 12 = .ok (.if_icmp .eq 19, 3) := by decide +kernel
theorem dX7_windsBack_15 : decode cX7_windsBack 15 = .ok (.aload_n 0, 1) := by decide +kernel
theorem dX7_windsBack_16 : decode cX7_windsBack 16 = .ok (.iload_n 1, 1) := by decide +kernel
theorem dX7_windsBack_17 : decode cX7_windsBack 17 = .ok (.iload 4, 2) := by decide +kernel
theorem dX7_windsBack_19 : decode cX7_windsBack 19 = .ok (.iload_n 3, 1) := by decide +kernel
theorem dX7_windsBack_20 : decode cX7_windsBack 20 = .ok (.invokevirtual 32, 3) := by decide +kernel
theorem dX7_windsBack_23 : decode cX7_windsBack 23 = .ok (.iload_n 2, 1) := by decide +kernel
theorem dX7_windsBack_24 : decode cX7_windsBack 24 = .ok (.if_icmp .ne 7, 3) := by decide +kernel
theorem dX7_windsBack_27 : decode cX7_windsBack 27 = .ok (.iconst 1, 1) := by decide +kernel
theorem dX7_windsBack_28 : decode cX7_windsBack 28 = .ok (.goto 4, 3) := by decide +kernel
theorem dX7_windsBack_31 : decode cX7_windsBack 31 = .ok (.iconst 0, 1) := by decide +kernel
theorem dX7_windsBack_32 : decode cX7_windsBack 32 = .ok (.ireturn, 1) := by decide +kernel
theorem dX7_crosses_0 : decode cX7_crosses 0 = .ok (.iload_n 1, 1) := by decide +kernel
theorem dX7_crosses_1 : decode cX7_crosses 1 = .ok (.iload_n 2, 1) := by decide +kernel
theorem dX7_crosses_2 : decode cX7_crosses 2 = .ok (.invokestatic 28, 3) := by decide +kernel
theorem dX7_crosses_5 : decode cX7_crosses 5 = .ok (.istore 4, 2) := by decide +kernel
theorem dX7_crosses_7 : decode cX7_crosses 7 = .ok (.aload_n 0, 1) := by decide +kernel
theorem dX7_crosses_8 : decode cX7_crosses 8 = .ok (.iload_n 1, 1) := by decide +kernel
theorem dX7_crosses_9 : decode cX7_crosses 9 = .ok (.iload_n 2, 1) := by decide +kernel
theorem dX7_crosses_10 : decode cX7_crosses 10 = .ok (.iload_n 3, 1) := by decide +kernel
theorem dX7_crosses_11 : decode cX7_crosses 11 = .ok (.invokevirtual 39, 3) := by decide +kernel
theorem dX7_crosses_14 : decode cX7_crosses 14 = .ok (.ifCond .eq 41, 3) := by decide +kernel
theorem dX7_crosses_17 : decode cX7_crosses 17 = .ok (.aload_n 0, 1) := by decide +kernel
theorem dX7_crosses_18 : decode cX7_crosses 18 = .ok (.iload_n 1, 1) := by decide +kernel
theorem dX7_crosses_19 : decode cX7_crosses 19 = .ok (.aload_n 0, 1) := by decide +kernel
theorem dX7_crosses_20 : decode cX7_crosses 20 = .ok (.iload_n 1, 1) := by decide +kernel
theorem dX7_crosses_21 : decode cX7_crosses 21 = .ok (.iload_n 3, 1) := by decide +kernel
theorem dX7_crosses_22 : decode cX7_crosses 22 = .ok (.invokevirtual 36, 3) := by decide +kernel
theorem dX7_crosses_25 : decode cX7_crosses 25 = .ok (.invokevirtual 43, 3) := by decide +kernel
theorem dX7_crosses_28 : decode cX7_crosses 28 = .ok (.aload_n 0, 1) := by decide +kernel
theorem dX7_crosses_29 : decode cX7_crosses 29 = .ok (.getfield 7, 3) := by decide +kernel
theorem dX7_crosses_32 : decode cX7_crosses 32 = .ok (.iload 4, 2) := by decide +kernel
theorem dX7_crosses_34 : decode cX7_crosses 34 = .ok (.iconst 3, 1) := by decide +kernel
theorem dX7_crosses_35 : decode cX7_crosses 35 = .ok (.iadd, 1) := by decide +kernel
theorem dX7_crosses_36 : decode cX7_crosses 36 = .ok (.dup2, 1) := by decide +kernel
theorem dX7_crosses_37 : decode cX7_crosses 37 = .ok (.iaload, 1) := by decide +kernel
theorem dX7_crosses_38 : decode cX7_crosses 38 = .ok (.iconst 1, 1) := by decide +kernel
theorem dX7_crosses_39 : decode cX7_crosses 39 = .ok (.iadd, 1) := by decide +kernel
theorem dX7_crosses_40 : decode cX7_crosses 40 = .ok (.iastore, 1) := by decide +kernel
theorem dX7_crosses_41 : decode cX7_crosses 41 = .ok (.aload_n 0, 1) := by decide +kernel
theorem dX7_crosses_42 : decode cX7_crosses 42 = .ok (.getfield 7, 3) := by decide +kernel
theorem dX7_crosses_45 : decode cX7_crosses 45 = .ok (.iload 4, 2) := by decide +kernel
theorem dX7_crosses_47 : decode cX7_crosses 47 = .ok (.iconst 5, 1) := by decide +kernel
theorem dX7_crosses_48 : decode cX7_crosses 48 = .ok (.iadd, 1) := by decide +kernel
theorem dX7_crosses_49 : decode cX7_crosses 49 = .ok (.dup2, 1) := by decide +kernel
theorem dX7_crosses_50 : decode cX7_crosses 50 = .ok (.iaload, 1) := by decide +kernel
theorem dX7_crosses_51 : decode cX7_crosses 51 = .ok (.iconst 1, 1) := by decide +kernel
theorem dX7_crosses_52 : decode cX7_crosses 52 = .ok (.iadd, 1) := by decide +kernel
theorem dX7_crosses_53 : decode cX7_crosses 53 = .ok (.iastore, 1) := by decide +kernel
theorem dX7_crosses_54 : decode cX7_crosses 54 = .ok (.return_, 1) := by decide +kernel
theorem dX7_crosses_55 : decode cX7_crosses 55 = .ok (.aload_n 0, 1) := by decide +kernel
theorem dX7_crosses_56 : decode cX7_crosses 56 = .ok (.getfield 7, 3) := by decide +kernel
theorem dX7_crosses_59 : decode cX7_crosses 59 = .ok (.iload_n 1, 1) := by decide +kernel
theorem dX7_crosses_60 : decode cX7_crosses 60 = .ok (.bipush 100, 2) := by decide +kernel
theorem dX7_crosses_62 : decode cX7_crosses 62 = .ok (.iadd, 1) := by decide +kernel
theorem dX7_crosses_63 : decode cX7_crosses 63 = .ok (.aload_n 0, 1) := by decide +kernel
theorem dX7_crosses_64 : decode cX7_crosses 64 = .ok (.getfield 7, 3) := by decide +kernel
theorem dX7_crosses_67 : decode cX7_crosses 67 = .ok (.iload_n 1, 1) := by decide +kernel
theorem dX7_crosses_68 : decode cX7_crosses 68 = .ok (.bipush 8, 2) := by decide +kernel
theorem dX7_crosses_70 : decode cX7_crosses 70 = .ok (.iadd, 1) := by decide +kernel
theorem dX7_crosses_71 : decode cX7_crosses 71 = .ok (.iaload, 1) := by decide +kernel
theorem dX7_crosses_72 : decode cX7_crosses 72 = .ok (.iadd, 1) := by decide +kernel
theorem dX7_crosses_73 : decode cX7_crosses 73 = .ok (.bipush 16, 2) := by decide +kernel
theorem dX7_crosses_75 : decode cX7_crosses 75 = .ok (.iload_n 2, 1) := by decide +kernel
theorem dX7_crosses_76 : decode cX7_crosses 76 = .ok (.imul, 1) := by decide +kernel
theorem dX7_crosses_77 : decode cX7_crosses 77 = .ok (.iload_n 3, 1) := by decide +kernel
theorem dX7_crosses_78 : decode cX7_crosses 78 = .ok (.iadd, 1) := by decide +kernel
theorem dX7_crosses_79 : decode cX7_crosses 79 = .ok (.iastore, 1) := by decide +kernel
theorem dX7_crosses_80 : decode cX7_crosses 80 = .ok (.aload_n 0, 1) := by decide +kernel
theorem dX7_crosses_81 : decode cX7_crosses 81 = .ok (.getfield 7, 3) := by decide +kernel
theorem dX7_crosses_84 : decode cX7_crosses 84 = .ok (.iload_n 1, 1) := by decide +kernel
theorem dX7_crosses_85 : decode cX7_crosses 85 = .ok (.bipush 8, 2) := by decide +kernel
theorem dX7_crosses_87 : decode cX7_crosses 87 = .ok (.iadd, 1) := by decide +kernel
theorem dX7_crosses_88 : decode cX7_crosses 88 = .ok (.dup2, 1) := by decide +kernel
theorem dX7_crosses_89 : decode cX7_crosses 89 = .ok (.iaload, 1) := by decide +kernel
theorem dX7_crosses_90 : decode cX7_crosses 90 = .ok (.iconst 1, 1) := by decide +kernel
theorem dX7_crosses_91 : decode cX7_crosses 91 = .ok (.iadd, 1) := by decide +kernel
theorem dX7_crosses_92 : decode cX7_crosses 92 = .ok (.iastore, 1) := by decide +kernel
theorem dX7_crosses_93 : decode cX7_crosses 93 = .ok (.aload_n 0, 1) := by decide +kernel
theorem dX7_crosses_94 : decode cX7_crosses 94 = .ok (.getfield 7, 3) := by decide +kernel
theorem dX7_crosses_97 : decode cX7_crosses 97 = .ok (.iload 4, 2) := by decide +kernel
theorem dX7_crosses_99 : decode cX7_crosses 99 = .ok (.iconst 3, 1) := by decide +kernel
theorem dX7_crosses_100 : decode cX7_crosses 100 = .ok (.iadd, 1) := by decide +kernel
theorem dX7_crosses_101 : decode cX7_crosses 101 = .ok (.dup2, 1) := by decide +kernel
theorem dX7_crosses_102 : decode cX7_crosses 102 = .ok (.iaload, 1) := by decide +kernel
theorem dX7_crosses_103 : decode cX7_crosses 103 = .ok (.iconst 1, 1) := by decide +kernel
theorem dX7_crosses_104 : decode cX7_crosses 104 = .ok (.isub, 1) := by decide +kernel
theorem dX7_crosses_105 : decode cX7_crosses 105 = .ok (.iastore, 1) := by decide +kernel
theorem dX7_crosses_106 : decode cX7_crosses 106 = .ok (.aload_n 0, 1) := by decide +kernel
theorem dX7_crosses_107 : decode cX7_crosses 107 = .ok (.getfield 7, 3) := by decide +kernel
theorem dX7_crosses_110 : decode cX7_crosses 110 = .ok (.iload 4, 2) := by decide +kernel
theorem dX7_crosses_112 : decode cX7_crosses 112 = .ok (.iconst 4, 1) := by decide +kernel
theorem dX7_crosses_113 : decode cX7_crosses 113 = .ok (.iadd, 1) := by decide +kernel
theorem dX7_crosses_114 : decode cX7_crosses 114 = .ok (.dup2, 1) := by decide +kernel
theorem dX7_crosses_115 : decode cX7_crosses 115 = .ok (.iaload, 1) := by decide +kernel
theorem dX7_crosses_116 : decode cX7_crosses 116 = .ok (.iconst 1, 1) := by decide +kernel
theorem dX7_crosses_117 : decode cX7_crosses 117 = .ok (.iadd, 1) := by decide +kernel
theorem dX7_crosses_118 : decode cX7_crosses 118 = .ok (.iastore, 1) := by decide +kernel
theorem dX7_crosses_119 : decode cX7_crosses 119 = .ok (.return_, 1) := by decide +kernel
theorem dX7_areBoundAt_0 : decode cX7_areBoundAt 0 = .ok (.bipush (-6), 2) := by decide +kernel
theorem dX7_areBoundAt_2 : decode cX7_areBoundAt 2 = .ok (.istore 5, 2) := by decide +kernel
theorem dX7_areBoundAt_4 : decode cX7_areBoundAt 4 = .ok (.iconst 0, 1) := by decide +kernel
theorem dX7_areBoundAt_5 : decode cX7_areBoundAt 5 = .ok (.istore 6, 2) := by decide +kernel
theorem dX7_areBoundAt_7 : decode cX7_areBoundAt 7 = .ok (.iconst 0, 1) := by decide +kernel
theorem dX7_areBoundAt_8 : decode cX7_areBoundAt 8 = .ok (.istore 7, 2) := by decide +kernel
theorem dX7_areBoundAt_10 : decode cX7_areBoundAt 10 = .ok (.iload 7, 2) := by decide +kernel
theorem dX7_areBoundAt_12 : decode cX7_areBoundAt 12 = .ok (.aload_n 0, 1) := by decide +kernel
theorem dX7_areBoundAt_13 : decode cX7_areBoundAt 13 = .ok (.getfield 7, 3) := by decide +kernel
theorem dX7_areBoundAt_16 : decode cX7_areBoundAt 16 = .ok (.iload_n 1, 1) := by decide +kernel
theorem dX7_areBoundAt_17 : decode cX7_areBoundAt 17 = .ok (.bipush 8, 2) := by decide +kernel
theorem dX7_areBoundAt_19 : decode cX7_areBoundAt 19 = .ok (.iadd, 1) := by decide +kernel
theorem dX7_areBoundAt_20 : decode cX7_areBoundAt 20 = .ok (.iaload, 1) := by decide +kernel
theorem dX7_areBoundAt_21 : decode cX7_areBoundAt 21 = .ok (.if_icmp .ge 53, 3) := by decide +kernel
theorem dX7_areBoundAt_24 : decode cX7_areBoundAt 24 = .ok (.aload_n 0, 1) := by decide +kernel
theorem dX7_areBoundAt_25 : decode cX7_areBoundAt 25 = .ok (.iload_n 1, 1) := by decide +kernel
theorem dX7_areBoundAt_26 : decode cX7_areBoundAt 26 = .ok (.iload 7, 2) := by decide +kernel
theorem dX7_areBoundAt_28 : decode cX7_areBoundAt 28 = .ok (.iload_n 2, 1) := by decide +kernel
theorem dX7_areBoundAt_29 : decode cX7_areBoundAt 29 = .ok (.invokevirtual 32, 3) := by decide +kernel
theorem dX7_areBoundAt_32 : decode cX7_areBoundAt 32 = .ok (.istore 8, 2) := by decide +kernel
theorem dX7_areBoundAt_34 : decode cX7_areBoundAt 34 = .ok (.iload 8, 2) := by decide +kernel
theorem dX7_areBoundAt_36 : decode cX7_areBoundAt 36 = .ok (.iload_n 3, 1) := by decide +kernel
theorem dX7_areBoundAt_37 : decode cX7_areBoundAt 37 = .ok (.if_icmp .eq 10, 3) := by decide +kernel
theorem dX7_areBoundAt_40 : decode cX7_areBoundAt 40 = .ok (.iload 8, 2) := by decide +kernel
theorem dX7_areBoundAt_42 : decode cX7_areBoundAt 42 = .ok (.iload 4, 2) := by decide +kernel
theorem dX7_areBoundAt_44 : decode cX7_areBoundAt 44 = .ok (.if_icmp .ne 24, 3) := by decide +kernel
theorem dX7_areBoundAt_47 : decode cX7_areBoundAt 47 = .ok (.iload 6, 2) := by decide +kernel
theorem dX7_areBoundAt_49 : decode cX7_areBoundAt 49 = .ok (.iload 8, 2) := by decide +kernel
theorem dX7_areBoundAt_51 : decode cX7_areBoundAt 51 = .ok (.iload 5, 2) := by decide +kernel
theorem dX7_areBoundAt_53 : decode cX7_areBoundAt 53 = .ok (.if_icmp .ne 7, 3) := by decide +kernel
theorem dX7_areBoundAt_56 : decode cX7_areBoundAt 56 = .ok (.iconst 0, 1) := by decide +kernel
theorem dX7_areBoundAt_57 : decode cX7_areBoundAt 57 = .ok (.goto 4, 3) := by decide +kernel
theorem dX7_areBoundAt_60 : decode cX7_areBoundAt 60 = .ok (.iconst 1, 1) := by decide +kernel
theorem dX7_areBoundAt_61 : decode cX7_areBoundAt 61 = .ok (.iadd, 1) := by decide +kernel
theorem dX7_areBoundAt_62 : decode cX7_areBoundAt 62 = .ok (.istore 6, 2) := by decide +kernel
theorem dX7_areBoundAt_64 : decode cX7_areBoundAt 64 = .ok (.iload 8, 2) := by decide +kernel
theorem dX7_areBoundAt_66 : decode cX7_areBoundAt 66 = .ok (.istore 5, 2) := by decide +kernel
theorem dX7_areBoundAt_68 : decode cX7_areBoundAt 68 = .ok (.iinc 7 1, 3) := by decide +kernel
theorem dX7_areBoundAt_71 : decode cX7_areBoundAt 71 = .ok (.goto (-61), 3) := by decide +kernel
theorem dX7_areBoundAt_74 : decode cX7_areBoundAt 74 = .ok (.iload 6, 2) := by decide +kernel
theorem dX7_areBoundAt_76 : decode cX7_areBoundAt 76 = .ok (.iconst 2, 1) := by decide +kernel
theorem dX7_areBoundAt_77 : decode cX7_areBoundAt 77 = .ok (.if_icmp .le 7, 3) := by decide +kernel
theorem dX7_areBoundAt_80 : decode cX7_areBoundAt 80 = .ok (.iconst 1, 1) := by decide +kernel
theorem dX7_areBoundAt_81 : decode cX7_areBoundAt 81 = .ok (.goto 4, 3) := by decide +kernel
theorem dX7_areBoundAt_84 : decode cX7_areBoundAt 84 = .ok (.iconst 0, 1) := by decide +kernel
theorem dX7_areBoundAt_85 : decode cX7_areBoundAt 85 = .ok (.ireturn, 1) := by decide +kernel
theorem dX7_boundEdges_0 : decode cX7_boundEdges 0 = .ok (.iconst 0, 1) := by decide +kernel
theorem dX7_boundEdges_1 : decode cX7_boundEdges 1 = .ok (.istore 4, 2) := by decide +kernel
theorem dX7_boundEdges_3 : decode cX7_boundEdges 3 = .ok (.iconst 0, 1) := by decide +kernel
theorem dX7_boundEdges_4 : decode cX7_boundEdges 4 = .ok (.istore 5, 2) := by decide +kernel
theorem dX7_boundEdges_6 : decode cX7_boundEdges 6 = .ok (.iload 5, 2) := by decide +kernel
theorem dX7_boundEdges_8 : decode cX7_boundEdges 8 = .ok (.bipush 15, 2) := by decide +kernel
theorem dX7_boundEdges_10 : decode cX7_boundEdges 10 = .ok (.if_icmp .ge 34, 3) := by decide +kernel
theorem dX7_boundEdges_13 : decode cX7_boundEdges 13 = .ok (.iload 4, 2) := by decide +kernel
theorem dX7_boundEdges_15 : decode cX7_boundEdges 15 = .ok (.aload_n 0, 1) := by decide +kernel
theorem dX7_boundEdges_16 : decode cX7_boundEdges 16 = .ok (.iload_n 1, 1) := by decide +kernel
theorem dX7_boundEdges_17 : decode cX7_boundEdges 17 = .ok (.iload 5, 2) := by decide +kernel
theorem dX7_boundEdges_19 : decode cX7_boundEdges 19 = .ok (.iload_n 2, 1) := by decide +kernel
theorem dX7_boundEdges_20 : decode cX7_boundEdges 20 = .ok (.iload_n 3, 1) := by decide +kernel
theorem dX7_boundEdges_21 : decode cX7_boundEdges 21 = .ok (.invokevirtual 46, 3) := by decide +kernel
theorem dX7_boundEdges_24 : decode cX7_boundEdges 24 = .ok (.ifCond .eq 10, 3) := by decide +kernel
theorem dX7_boundEdges_27 : decode cX7_boundEdges 27 = .ok (.iconst 1, 1) := by decide +kernel
theorem dX7_boundEdges_28 : decode cX7_boundEdges 28 = .ok (.iload 5, 2) := by decide +kernel
theorem dX7_boundEdges_30 : decode cX7_boundEdges 30 = .ok (.ishl, 1) := by decide +kernel
theorem dX7_boundEdges_31 : decode cX7_boundEdges 31 = .ok (.goto 4, 3) := by decide +kernel
theorem dX7_boundEdges_34 : decode cX7_boundEdges 34 = .ok (.iconst 0, 1) := by decide +kernel
theorem dX7_boundEdges_35 : decode cX7_boundEdges 35 = .ok (.ior, 1) := by decide +kernel
theorem dX7_boundEdges_36 : decode cX7_boundEdges 36 = .ok (.istore 4, 2) := by decide +kernel
theorem dX7_boundEdges_38 : decode cX7_boundEdges 38 = .ok (.iinc 5 1, 3) := by decide +kernel
theorem dX7_boundEdges_41 : decode cX7_boundEdges 41 = .ok (.goto (-35), 3) := by decide +kernel
theorem dX7_boundEdges_44 : decode cX7_boundEdges 44 = .ok (.iload 4, 2) := by decide +kernel
theorem dX7_boundEdges_46 : decode cX7_boundEdges 46 = .ok (.ireturn, 1) := by decide +kernel
theorem dX7_boundTo_0 : decode cX7_boundTo 0 = .ok (.iconst 0, 1) := by decide +kernel
theorem dX7_boundTo_1 : decode cX7_boundTo 1 = .ok (.istore_n 3, 1) := by decide +kernel
theorem dX7_boundTo_2 : decode cX7_boundTo 2 = .ok (.iconst 0, 1) := by decide +kernel
theorem dX7_boundTo_3 : decode cX7_boundTo 3 = .ok (.istore 4, 2) := by decide +kernel
theorem dX7_boundTo_5 : decode cX7_boundTo 5 = .ok (.iload 4, 2) := by decide +kernel
theorem dX7_boundTo_7 : decode cX7_boundTo 7 = .ok (.aload_n 0, 1) := by decide +kernel
theorem dX7_boundTo_8 : decode cX7_boundTo 8 = .ok (.getfield 7, 3) := by decide +kernel
theorem dX7_boundTo_11 : decode cX7_boundTo 11 = .ok (.iload_n 1, 1) := by decide +kernel
theorem dX7_boundTo_12 : decode cX7_boundTo 12 = .ok (.iconst 5, 1) := by decide +kernel
theorem dX7_boundTo_13 : decode cX7_boundTo 13 = .ok (.iadd, 1) := by decide +kernel
theorem dX7_boundTo_14 : decode cX7_boundTo 14 = .ok (.iaload, 1) := by decide +kernel
theorem dX7_boundTo_15 : decode cX7_boundTo 15 = .ok (.if_icmp .ge 37, 3) := by decide +kernel
theorem dX7_boundTo_18 : decode cX7_boundTo 18 = .ok (.iload_n 3, 1) := by decide +kernel
theorem dX7_boundTo_19 : decode cX7_boundTo 19 = .ok (.iload 4, 2) := by decide +kernel
theorem dX7_boundTo_21 : decode cX7_boundTo 21 = .ok (.iload_n 2, 1) := by decide +kernel
theorem dX7_boundTo_22 : decode cX7_boundTo 22 = .ok (.if_icmp .eq 21, 3) := by decide +kernel
theorem dX7_boundTo_25 : decode cX7_boundTo 25 = .ok (.aload_n 0, 1) := by decide +kernel
theorem dX7_boundTo_26 : decode cX7_boundTo 26 = .ok (.iload_n 1, 1) := by decide +kernel
theorem dX7_boundTo_27 : decode cX7_boundTo 27 = .ok (.iload_n 2, 1) := by decide +kernel
theorem dX7_boundTo_28 : decode cX7_boundTo 28 = .ok (.iload 4, 2) := by decide +kernel
theorem dX7_boundTo_30 : decode cX7_boundTo 30 = .ok (.invokevirtual 50, 3) := by decide +kernel
theorem dX7_boundTo_33 : decode cX7_boundTo 33 = .ok (.ifCond .eq 10, 3) := by decide +kernel
theorem dX7_boundTo_36 : decode cX7_boundTo 36 = .ok (.iconst 1, 1) := by decide +kernel
theorem dX7_boundTo_37 : decode cX7_boundTo 37 = .ok (.iload 4, 2) := by decide +kernel
theorem dX7_boundTo_39 : decode cX7_boundTo 39 = .ok (.ishl, 1) := by decide +kernel
theorem dX7_boundTo_40 : decode cX7_boundTo 40 = .ok (.goto 4, 3) := by decide +kernel
theorem dX7_boundTo_43 : decode cX7_boundTo 43 = .ok (.iconst 0, 1) := by decide +kernel
theorem dX7_boundTo_44 : decode cX7_boundTo 44 = .ok (.ior, 1) := by decide +kernel
theorem dX7_boundTo_45 : decode cX7_boundTo 45 = .ok (.istore_n 3, 1) := by decide +kernel
theorem dX7_boundTo_46 : decode cX7_boundTo 46 = .ok (.iinc 4 1, 3) := by decide +kernel
theorem dX7_boundTo_49 : decode cX7_boundTo 49 = .ok (.goto (-44), 3) := by decide +kernel
theorem dX7_boundTo_52 : decode cX7_boundTo 52 = .ok (.iload_n 3, 1) := by decide +kernel
theorem dX7_boundTo_53 : decode cX7_boundTo 53 = .ok (.ireturn, 1) := by decide +kernel
theorem dX7_edgeOf_0 : decode cX7_edgeOf 0 = .ok (.aload_n 0, 1) := by decide +kernel
theorem dX7_edgeOf_1 : decode cX7_edgeOf 1 = .ok (.getfield 7, 3) := by decide +kernel
theorem dX7_edgeOf_4 : decode cX7_edgeOf 4 = .ok (.iload_n 1, 1) := by decide +kernel
theorem dX7_edgeOf_5 : decode cX7_edgeOf 5 = .ok (.iload_n 2, 1) := by decide +kernel
theorem dX7_edgeOf_6 : decode cX7_edgeOf 6 = .ok (.invokestatic 28, 3) := by decide +kernel
theorem dX7_edgeOf_9 : decode cX7_edgeOf 9 = .ok (.iaload, 1) := by decide +kernel
theorem dX7_edgeOf_10 : decode cX7_edgeOf 10 = .ok (.istore 5, 2) := by decide +kernel
theorem dX7_edgeOf_12 : decode cX7_edgeOf 12 = .ok (.iload_n 3, 1) := by decide +kernel
theorem dX7_edgeOf_13 : decode cX7_edgeOf 13 = .ok (.ifCond .le 11, 3) := by decide +kernel
theorem dX7_edgeOf_16 : decode cX7_edgeOf 16 = .ok (.iload 5, 2) := by decide +kernel
theorem dX7_edgeOf_18 : decode cX7_edgeOf 18 = .ok (.iload 4, 2) := by decide +kernel
theorem dX7_edgeOf_20 : decode cX7_edgeOf 20 = .ok (.iadd, 1) := by decide +kernel
theorem dX7_edgeOf_21 : decode cX7_edgeOf 21 = .ok (.goto 10, 3) := by decide +kernel
theorem dX7_edgeOf_24 : decode cX7_edgeOf 24 = .ok (.iload 5, 2) := by decide +kernel
theorem dX7_edgeOf_26 : decode cX7_edgeOf 26 = .ok (.iconst 1, 1) := by decide +kernel
theorem dX7_edgeOf_27 : decode cX7_edgeOf 27 = .ok (.isub, 1) := by decide +kernel
theorem dX7_edgeOf_28 : decode cX7_edgeOf 28 = .ok (.iload 4, 2) := by decide +kernel
theorem dX7_edgeOf_30 : decode cX7_edgeOf 30 = .ok (.isub, 1) := by decide +kernel
theorem dX7_edgeOf_31 : decode cX7_edgeOf 31 = .ok (.ireturn, 1) := by decide +kernel
theorem dX7_cost_0 : decode cX7_cost 0 = .ok (.iload_n 0, 1) := by decide +kernel
theorem dX7_cost_1 : decode cX7_cost 1 = .ok (.ifCond .le 9, 3) := by decide +kernel
theorem dX7_cost_4 : decode cX7_cost 4 = .ok (.iconst 2, 1) := by decide +kernel
theorem dX7_cost_5 : decode cX7_cost 5 = .ok (.iload_n 0, 1) := by decide +kernel
theorem dX7_cost_6 : decode cX7_cost 6 = .ok (.imul, 1) := by decide +kernel
theorem dX7_cost_7 : decode cX7_cost 7 = .ok (.goto 5, 3) := by decide +kernel
theorem dX7_cost_10 : decode cX7_cost 10 = .ok (.iload_n 0, 1) := by decide +kernel
theorem dX7_cost_11 : decode cX7_cost 11 = .ok (.ineg, 1) := by decide +kernel
theorem dX7_cost_12 : decode cX7_cost 12 = .ok (.ireturn, 1) := by decide +kernel
theorem dX7_isHeldBack_0 : decode cX7_isHeldBack 0 = .ok (.aload_n 0, 1) := by decide +kernel
theorem dX7_isHeldBack_1 : decode cX7_isHeldBack 1 = .ok (.iload_n 1, 1) := by decide +kernel
theorem dX7_isHeldBack_2 : decode cX7_isHeldBack 2 = .ok (.iload_n 2, 1) := by decide +kernel
theorem dX7_isHeldBack_3 : decode cX7_isHeldBack 3 = .ok (.invokevirtual 53, 3) := by decide +kernel
theorem dX7_isHeldBack_6 : decode cX7_isHeldBack 6 = .ok (.istore 4, 2) := by decide +kernel
theorem dX7_isHeldBack_8 : decode cX7_isHeldBack 8 = .ok (.aload_n 0, 1) := by decide +kernel
theorem dX7_isHeldBack_9 : decode cX7_isHeldBack 9 = .ok (.getfield 7, 3) := by decide +kernel
theorem dX7_isHeldBack_12 : decode cX7_isHeldBack 12 = .ok (.iload_n 1, 1) := by decide +kernel
theorem dX7_isHeldBack_13 : decode cX7_isHeldBack 13 = .ok (.iload_n 2, 1) := by decide +kernel
theorem dX7_isHeldBack_14 : decode cX7_isHeldBack 14 = .ok (.invokestatic 28, 3) := by decide +kernel
theorem dX7_isHeldBack_17 : decode cX7_isHeldBack 17 = .ok (.iaload, 1) := by decide +kernel
theorem dX7_isHeldBack_18 : decode cX7_isHeldBack 18 = .ok (.istore 5, 2) := by decide +kernel
theorem dX7_isHeldBack_20 : decode cX7_isHeldBack 20 = .ok (.iconst 0, 1) := by decide +kernel
theorem dX7_isHeldBack_21 : decode cX7_isHeldBack 21 = .ok (.istore 6, 2) := by decide +kernel
theorem dX7_isHeldBack_23 : decode cX7_isHeldBack 23 = .ok (.iconst 0, 1) := by decide +kernel
theorem dX7_isHeldBack_24 : decode cX7_isHeldBack 24 = .ok (.istore 7, 2) := by decide +kernel
theorem dX7_isHeldBack_26 : decode cX7_isHeldBack 26 = .ok (.iload 7, 2) := by decide +kernel
theorem dX7_isHeldBack_28 : decode cX7_isHeldBack 28 = .ok (.aload_n 0, 1) := by decide +kernel
theorem dX7_isHeldBack_29 : decode cX7_isHeldBack 29 = .ok (.getfield 7, 3) := by decide +kernel
theorem dX7_isHeldBack_32 : decode cX7_isHeldBack 32 = .ok (.iload_n 1, 1) := by decide +kernel
theorem dX7_isHeldBack_33 : decode cX7_isHeldBack 33 = .ok (.iconst 5, 1) := by decide +kernel
theorem dX7_isHeldBack_34 : decode cX7_isHeldBack 34 = .ok (.iadd, 1) := by decide +kernel
theorem dX7_isHeldBack_35 : decode cX7_isHeldBack 35 = .ok (.iaload, 1) := by decide +kernel
theorem dX7_isHeldBack_36 : decode cX7_isHeldBack 36 = .ok (.if_icmp .ge 92, 3) := by decide +kernel
theorem dX7_isHeldBack_39 : decode cX7_isHeldBack 39 = .ok (.iload 5, 2) := by decide +kernel
theorem dX7_isHeldBack_41 : decode cX7_isHeldBack 41 = .ok (.aload_n 0, 1) := by decide +kernel
theorem dX7_isHeldBack_42 : decode cX7_isHeldBack 42 = .ok (.getfield 7, 3) := by decide +kernel
theorem dX7_isHeldBack_45 : decode cX7_isHeldBack 45 = .ok (.iload_n 1, 1) := by decide +kernel
theorem dX7_isHeldBack_46 : decode cX7_isHeldBack 46 = .ok (.iload 7, 2) := by decide +kernel
theorem dX7_isHeldBack_48 : decode cX7_isHeldBack 48 = .ok (.invokestatic 28, 3) := by decide +kernel
theorem dX7_isHeldBack_51 : decode cX7_isHeldBack 51 = .ok (.iaload, 1) := by decide +kernel
theorem dX7_isHeldBack_52 : decode cX7_isHeldBack 52 = .ok (.isub, 1) := by decide +kernel
theorem dX7_isHeldBack_53 : decode cX7_isHeldBack 53 = .ok (.invokestatic 56, 3) := by decide +kernel
theorem dX7_isHeldBack_56 : decode cX7_isHeldBack 56 = .ok (.istore 8, 2) := by decide +kernel
theorem dX7_isHeldBack_58 : decode cX7_isHeldBack 58 = .ok (.iload 5, 2) := by decide +kernel
theorem dX7_isHeldBack_60 : decode cX7_isHeldBack 60 = .ok (.iload_n 3, 1) := by decide +kernel
theorem dX7_isHeldBack_61 : decode cX7_isHeldBack 61 = .ok (.iadd, 1) := by decide +kernel
theorem dX7_isHeldBack_62 : decode cX7_isHeldBack 62 = .ok (.aload_n 0, 1) := by decide +kernel
theorem dX7_isHeldBack_63 : decode cX7_isHeldBack 63 = .ok (.getfield 7, 3) := by decide +kernel
theorem dX7_isHeldBack_66 : decode cX7_isHeldBack 66 = .ok (.iload_n 1, 1) := by decide +kernel
theorem dX7_isHeldBack_67 : decode cX7_isHeldBack 67 = .ok (.iload 7, 2) := by decide +kernel
theorem dX7_isHeldBack_69 : decode cX7_isHeldBack 69 = .ok (.invokestatic 28, 3) := by decide +kernel
theorem dX7_isHeldBack_72 : decode cX7_isHeldBack 72 = .ok (.iaload, 1) := by decide +kernel
theorem dX7_isHeldBack_73 : decode cX7_isHeldBack 73 = .ok (.isub, 1) := by decide +kernel
theorem dX7_isHeldBack_74 : decode cX7_isHeldBack 74 = .ok (.invokestatic 56, 3) := by decide +kernel
theorem dX7_isHeldBack_77 : decode cX7_isHeldBack 77 = .ok (.istore 9, 2) := by decide +kernel
theorem dX7_isHeldBack_79 : decode cX7_isHeldBack 79 = .ok (.iload 6, 2) := by decide +kernel
theorem dX7_isHeldBack_81 : decode cX7_isHeldBack 81 = .ok (.ifCond .ne 34, 3) := by decide +kernel
theorem dX7_isHeldBack_84 : decode cX7_isHeldBack 84 = .ok (.iload 4, 2) := by decide +kernel
theorem dX7_isHeldBack_86 : decode cX7_isHeldBack 86 = .ok (.iload 7, 2) := by decide +kernel
theorem dX7_isHeldBack_88 : decode cX7_isHeldBack 88 = .ok (.ishr, 1) := by decide +kernel
theorem dX7_isHeldBack_89 : decode cX7_isHeldBack 89 = .ok (.iconst 1, 1) := by decide +kernel
theorem dX7_isHeldBack_90 : decode cX7_isHeldBack 90 = .ok (.iand, 1) := by decide +kernel
theorem dX7_isHeldBack_91 : decode cX7_isHeldBack 91 = .ok (.iconst 1, 1) := by decide +kernel
theorem dX7_isHeldBack_92 : decode cX7_isHeldBack 92 = .ok (.if_icmp .ne 27, 3) := by decide +kernel
theorem dX7_isHeldBack_95 : decode cX7_isHeldBack 95 = .ok (.iload 9, 2) := by decide +kernel
theorem dX7_isHeldBack_97 : decode cX7_isHeldBack 97 = .ok (.aload_n 0, 1) := by decide +kernel
theorem dX7_isHeldBack_98 : decode cX7_isHeldBack 98 = .ok (.getfield 7, 3) := by decide +kernel
theorem dX7_isHeldBack_101 : decode cX7_isHeldBack 101 = .ok (.iload_n 1, 1) := by decide +kernel
theorem dX7_isHeldBack_102 : decode cX7_isHeldBack 102 = .ok (.iconst 1, 1) := by decide +kernel
theorem dX7_isHeldBack_103 : decode cX7_isHeldBack 103 = .ok (.iadd, 1) := by decide +kernel
theorem dX7_isHeldBack_104 : decode cX7_isHeldBack 104 = .ok (.iaload, 1) := by decide +kernel
theorem dX7_isHeldBack_105 : decode cX7_isHeldBack 105 = .ok (.if_icmp .le 14, 3) := by decide +kernel
theorem dX7_isHeldBack_108 : decode cX7_isHeldBack 108 = .ok (.iload 9, 2) := by decide +kernel
theorem dX7_isHeldBack_110 : decode cX7_isHeldBack 110 = .ok (.iload 8, 2) := by decide +kernel
theorem dX7_isHeldBack_112 : decode cX7_isHeldBack 112 = .ok (.if_icmp .le 7, 3) := by decide +kernel
theorem dX7_isHeldBack_115 : decode cX7_isHeldBack 115 = .ok (.iconst 1, 1) := by decide +kernel
theorem dX7_isHeldBack_116 : decode cX7_isHeldBack 116 = .ok (.goto 4, 3) := by decide +kernel
theorem dX7_isHeldBack_119 : decode cX7_isHeldBack 119 = .ok (.iconst 0, 1) := by decide +kernel
theorem dX7_isHeldBack_120 : decode cX7_isHeldBack 120 = .ok (.istore 6, 2) := by decide +kernel
theorem dX7_isHeldBack_122 : decode cX7_isHeldBack 122 = .ok (.iinc 7 1, 3) := by decide +kernel
theorem dX7_isHeldBack_125 : decode cX7_isHeldBack 125 = .ok (.goto (-99), 3) := by decide +kernel
theorem dX7_isHeldBack_128 : decode cX7_isHeldBack 128 = .ok (.iload 6, 2) := by decide +kernel
theorem dX7_isHeldBack_130 : decode cX7_isHeldBack 130 = .ok (.ireturn, 1) := by decide +kernel
theorem dX7_isTooShort_0 : decode cX7_isTooShort 0 = .ok (.aload_n 0, 1) := by decide +kernel
theorem dX7_isTooShort_1 : decode cX7_isTooShort 1 = .ok (.getfield 7, 3) := by decide +kernel
theorem dX7_isTooShort_4 : decode cX7_isTooShort 4 = .ok (.iload_n 1, 1) := by decide +kernel
theorem dX7_isTooShort_5 : decode cX7_isTooShort 5 = .ok (.iload_n 2, 1) := by decide +kernel
theorem dX7_isTooShort_6 : decode cX7_isTooShort 6 = .ok (.invokestatic 28, 3) := by decide +kernel
theorem dX7_isTooShort_9 : decode cX7_isTooShort 9 = .ok (.iconst 3, 1) := by decide +kernel
theorem dX7_isTooShort_10 : decode cX7_isTooShort 10 = .ok (.iadd, 1) := by decide +kernel
theorem dX7_isTooShort_11 : decode cX7_isTooShort 11 = .ok (.iaload, 1) := by decide +kernel
theorem dX7_isTooShort_12 : decode cX7_isTooShort 12 = .ok (.istore 4, 2) := by decide +kernel
theorem dX7_isTooShort_14 : decode cX7_isTooShort 14 = .ok (.iconst 0, 1) := by decide +kernel
theorem dX7_isTooShort_15 : decode cX7_isTooShort 15 = .ok (.istore 5, 2) := by decide +kernel
theorem dX7_isTooShort_17 : decode cX7_isTooShort 17 = .ok (.iconst 0, 1) := by decide +kernel
theorem dX7_isTooShort_18 : decode cX7_isTooShort 18 = .ok (.istore 6, 2) := by decide +kernel
theorem dX7_isTooShort_20 : decode cX7_isTooShort 20 = .ok (.iload 6, 2) := by decide +kernel
theorem dX7_isTooShort_22 : decode cX7_isTooShort 22 = .ok (.iload_n 3, 1) := by decide +kernel
theorem dX7_isTooShort_23 : decode cX7_isTooShort 23 = .ok (.invokestatic 56, 3) := by decide +kernel
theorem dX7_isTooShort_26 : decode cX7_isTooShort 26 = .ok (.if_icmp .ge 54, 3) := by decide +kernel
theorem dX7_isTooShort_29 : decode cX7_isTooShort 29 = .ok (.iload 4, 2) := by decide +kernel
theorem dX7_isTooShort_31 : decode cX7_isTooShort 31 = .ok (.aload_n 0, 1) := by decide +kernel
theorem dX7_isTooShort_32 : decode cX7_isTooShort 32 = .ok (.iload_n 1, 1) := by decide +kernel
theorem dX7_isTooShort_33 : decode cX7_isTooShort 33 = .ok (.iload_n 2, 1) := by decide +kernel
theorem dX7_isTooShort_34 : decode cX7_isTooShort 34 = .ok (.aload_n 0, 1) := by decide +kernel
theorem dX7_isTooShort_35 : decode cX7_isTooShort 35 = .ok (.iload_n 1, 1) := by decide +kernel
theorem dX7_isTooShort_36 : decode cX7_isTooShort 36 = .ok (.iload_n 2, 1) := by decide +kernel
theorem dX7_isTooShort_37 : decode cX7_isTooShort 37 = .ok (.iload_n 3, 1) := by decide +kernel
theorem dX7_isTooShort_38 : decode cX7_isTooShort 38 = .ok (.iload 6, 2) := by decide +kernel
theorem dX7_isTooShort_40 : decode cX7_isTooShort 40 = .ok (.invokevirtual 60, 3) := by decide +kernel
theorem dX7_isTooShort_43 : decode cX7_isTooShort 43 = .ok (.invokevirtual 39, 3) := by decide +kernel
theorem dX7_isTooShort_46 : decode cX7_isTooShort 46 = .ok (.ifCond .eq 7, 3) := by decide +kernel
theorem dX7_isTooShort_49 : decode cX7_isTooShort 49 = .ok (.iconst 1, 1) := by decide +kernel
theorem dX7_isTooShort_50 : decode cX7_isTooShort 50 = .ok (.goto 4, 3) := by decide +kernel
theorem dX7_isTooShort_53 : decode cX7_isTooShort 53 = .ok (.iconst (-1), 1) := by decide +kernel
theorem dX7_isTooShort_54 : decode cX7_isTooShort 54 = .ok (.iadd, 1) := by decide +kernel
theorem dX7_isTooShort_55 : decode cX7_isTooShort 55 = .ok (.istore 4, 2) := by decide +kernel
theorem dX7_isTooShort_57 : decode cX7_isTooShort 57 = .ok (.iload 5, 2) := by decide +kernel
theorem dX7_isTooShort_59 : decode cX7_isTooShort 59 = .ok (.ifCond .ne 8, 3) := by decide +kernel
theorem dX7_isTooShort_62 : decode cX7_isTooShort 62 = .ok (.iload 4, 2) := by decide +kernel
theorem dX7_isTooShort_64 : decode cX7_isTooShort 64 = .ok (.ifCond .ge 7, 3) := by decide +kernel
theorem dX7_isTooShort_67 : decode cX7_isTooShort 67 = .ok (.iconst 1, 1) := by decide +kernel
theorem dX7_isTooShort_68 : decode cX7_isTooShort 68 = .ok (.goto 4, 3) := by decide +kernel
theorem dX7_isTooShort_71 : decode cX7_isTooShort 71 = .ok (.iconst 0, 1) := by decide +kernel
theorem dX7_isTooShort_72 : decode cX7_isTooShort 72 = .ok (.istore 5, 2) := by decide +kernel
theorem dX7_isTooShort_74 : decode cX7_isTooShort 74 = .ok (.iinc 6 1, 3) := by decide +kernel
theorem dX7_isTooShort_77 : decode cX7_isTooShort 77 = .ok (.goto (-57), 3) := by decide +kernel
theorem dX7_isTooShort_80 : decode cX7_isTooShort 80 = .ok (.iload 5, 2) := by decide +kernel
theorem dX7_isTooShort_82 : decode cX7_isTooShort 82 = .ok (.ireturn, 1) := by decide +kernel
theorem dX7_reason_0 : decode cX7_reason 0 = .ok (.iload_n 1, 1) := by decide +kernel
theorem dX7_reason_1 : decode cX7_reason 1 = .ok (.iload_n 2, 1) := by decide +kernel
theorem dX7_reason_2 : decode cX7_reason 2 = .ok (.invokestatic 28, 3) := by decide +kernel
theorem dX7_reason_5 : decode cX7_reason 5 = .ok (.istore 4, 2) := by decide +kernel
theorem dX7_reason_7 : decode cX7_reason 7 = .ok (.aload_n 0, 1) := by decide +kernel
theorem dX7_reason_8 : decode cX7_reason 8 = .ok (.iload_n 1, 1) := by decide +kernel
theorem dX7_reason_9 : decode cX7_reason 9 = .ok (.iload_n 2, 1) := by decide +kernel
theorem dX7_reason_10 : decode cX7_reason 10 = .ok (.invokevirtual 64, 3) := by decide +kernel
theorem dX7_reason_13 : decode cX7_reason 13 = .ok (.ifCond .eq 5, 3) := by decide +kernel
theorem dX7_reason_16 : decode cX7_reason 16 = .ok (.iconst 1, 1) := by decide +kernel
theorem dX7_reason_17 : decode cX7_reason 17 = .ok (.ireturn, 1) := by decide +kernel
theorem dX7_reason_18 : decode cX7_reason 18 = .ok (.aload_n 0, 1) := by decide +kernel
theorem dX7_reason_19 : decode cX7_reason 19 = .ok (.getfield 7, 3) := by decide +kernel
theorem dX7_reason_22 : decode cX7_reason 22 = .ok (.iload 4, 2) := by decide +kernel
theorem dX7_reason_24 : decode cX7_reason 24 = .ok (.iaload, 1) := by decide +kernel
theorem dX7_reason_25 : decode cX7_reason 25 = .ok (.iload_n 3, 1) := by decide +kernel
theorem dX7_reason_26 : decode cX7_reason 26 = .ok (.iadd, 1) := by decide +kernel
theorem dX7_reason_27 : decode cX7_reason 27 = .ok (.i2l, 1) := by decide +kernel
theorem dX7_reason_28 : decode cX7_reason 28 = .ok (.lconst 0, 1) := by decide +kernel
theorem dX7_reason_29 : decode cX7_reason 29 = .ok (.ldc2_w 68, 3) := by decide +kernel
theorem dX7_reason_32 : decode cX7_reason 32 = .ok (.invokestatic 70, 3) := by decide +kernel
theorem dX7_reason_35 : decode cX7_reason 35 = .ok (.ifCond .ne 5, 3) := by decide +kernel
theorem dX7_reason_38 : decode cX7_reason 38 = .ok (.iconst 2, 1) := by decide +kernel
theorem dX7_reason_39 : decode cX7_reason 39 = .ok (.ireturn, 1) := by decide +kernel
theorem dX7_reason_40 : decode cX7_reason 40 = .ok (.iload_n 3, 1) := by decide +kernel
theorem dX7_reason_41 : decode cX7_reason 41 = .ok (.aload_n 0, 1) := by decide +kernel
theorem dX7_reason_42 : decode cX7_reason 42 = .ok (.getfield 7, 3) := by decide +kernel
theorem dX7_reason_45 : decode cX7_reason 45 = .ok (.iload_n 1, 1) := by decide +kernel
theorem dX7_reason_46 : decode cX7_reason 46 = .ok (.iconst 0, 1) := by decide +kernel
theorem dX7_reason_47 : decode cX7_reason 47 = .ok (.iadd, 1) := by decide +kernel
theorem dX7_reason_48 : decode cX7_reason 48 = .ok (.iaload, 1) := by decide +kernel
theorem dX7_reason_49 : decode cX7_reason 49 = .ok (.if_icmp .gt 18, 3) := by decide +kernel
theorem dX7_reason_52 : decode cX7_reason 52 = .ok (.iload_n 3, 1) := by decide +kernel
theorem dX7_reason_53 : decode cX7_reason 53 = .ok (.ineg, 1) := by decide +kernel
theorem dX7_reason_54 : decode cX7_reason 54 = .ok (.iconst 2, 1) := by decide +kernel
theorem dX7_reason_55 : decode cX7_reason 55 = .ok (.aload_n 0, 1) := by decide +kernel
theorem dX7_reason_56 : decode cX7_reason 56 = .ok (.getfield 7, 3) := by decide +kernel
theorem dX7_reason_59 : decode cX7_reason 59 = .ok (.iload_n 1, 1) := by decide +kernel
theorem dX7_reason_60 : decode cX7_reason 60 = .ok (.iconst 0, 1) := by decide +kernel
theorem dX7_reason_61 : decode cX7_reason 61 = .ok (.iadd, 1) := by decide +kernel
theorem dX7_reason_62 : decode cX7_reason 62 = .ok (.iaload, 1) := by decide +kernel
theorem dX7_reason_63 : decode cX7_reason 63 = .ok (.imul, 1) := by decide +kernel
theorem dX7_reason_64 : decode cX7_reason 64 = .ok (.if_icmp .le 5, 3) := by decide +kernel
theorem dX7_reason_67 : decode cX7_reason 67 = .ok (.iconst 3, 1) := by decide +kernel
theorem dX7_reason_68 : decode cX7_reason 68 = .ok (.ireturn, 1) := by decide +kernel
theorem dX7_reason_69 : decode cX7_reason 69 = .ok (.aload_n 0, 1) := by decide +kernel
theorem dX7_reason_70 : decode cX7_reason 70 = .ok (.getfield 7, 3) := by decide +kernel
theorem dX7_reason_73 : decode cX7_reason 73 = .ok (.iload 4, 2) := by decide +kernel
theorem dX7_reason_75 : decode cX7_reason 75 = .ok (.iconst 1, 1) := by decide +kernel
theorem dX7_reason_76 : decode cX7_reason 76 = .ok (.iadd, 1) := by decide +kernel
theorem dX7_reason_77 : decode cX7_reason 77 = .ok (.iaload, 1) := by decide +kernel
theorem dX7_reason_78 : decode cX7_reason 78 = .ok (.iload_n 3, 1) := by decide +kernel
theorem dX7_reason_79 : decode cX7_reason 79 = .ok (.invokestatic 74, 3) := by decide +kernel
theorem dX7_reason_82 : decode cX7_reason 82 = .ok (.if_icmp .ge 5, 3) := by decide +kernel
theorem dX7_reason_85 : decode cX7_reason 85 = .ok (.iconst 4, 1) := by decide +kernel
theorem dX7_reason_86 : decode cX7_reason 86 = .ok (.ireturn, 1) := by decide +kernel
theorem dX7_reason_87 : decode cX7_reason 87 = .ok (.aload_n 0, 1) := by decide +kernel
theorem dX7_reason_88 : decode cX7_reason 88 = .ok (.iload_n 1, 1) := by decide +kernel
theorem dX7_reason_89 : decode cX7_reason 89 = .ok (.iload_n 2, 1) := by decide +kernel
theorem dX7_reason_90 : decode cX7_reason 90 = .ok (.iload_n 3, 1) := by decide +kernel
theorem dX7_reason_91 : decode cX7_reason 91 = .ok (.invokevirtual 77, 3) := by decide +kernel
theorem dX7_reason_94 : decode cX7_reason 94 = .ok (.ifCond .eq 5, 3) := by decide +kernel
theorem dX7_reason_97 : decode cX7_reason 97 = .ok (.iconst 5, 1) := by decide +kernel
theorem dX7_reason_98 : decode cX7_reason 98 = .ok (.ireturn, 1) := by decide +kernel
theorem dX7_reason_99 : decode cX7_reason 99 = .ok (.aload_n 0, 1) := by decide +kernel
theorem dX7_reason_100 : decode cX7_reason 100 = .ok (.iload_n 1, 1) := by decide +kernel
theorem dX7_reason_101 : decode cX7_reason 101 = .ok (.iload_n 2, 1) := by decide +kernel
theorem dX7_reason_102 : decode cX7_reason 102 = .ok (.iload_n 3, 1) := by decide +kernel
theorem dX7_reason_103 : decode cX7_reason 103 = .ok (.invokevirtual 80, 3) := by decide +kernel
theorem dX7_reason_106 : decode cX7_reason 106 = .ok (.ifCond .eq 8, 3) := by decide +kernel
theorem dX7_reason_109 : decode cX7_reason 109 = .ok (.bipush 6, 2) := by decide +kernel
theorem dX7_reason_111 : decode cX7_reason 111 = .ok (.goto 4, 3) := by decide +kernel
theorem dX7_reason_114 : decode cX7_reason 114 = .ok (.iconst 0, 1) := by decide +kernel
theorem dX7_reason_115 : decode cX7_reason 115 = .ok (.ireturn, 1) := by decide +kernel
theorem dX7_leaps_0 : decode cX7_leaps 0 = .ok (.iload_n 1, 1) := by decide +kernel
theorem dX7_leaps_1 : decode cX7_leaps 1 = .ok (.iload_n 2, 1) := by decide +kernel
theorem dX7_leaps_2 : decode cX7_leaps 2 = .ok (.invokestatic 28, 3) := by decide +kernel
theorem dX7_leaps_5 : decode cX7_leaps 5 = .ok (.istore 4, 2) := by decide +kernel
theorem dX7_leaps_7 : decode cX7_leaps 7 = .ok (.aload_n 0, 1) := by decide +kernel
theorem dX7_leaps_8 : decode cX7_leaps 8 = .ok (.getfield 7, 3) := by decide +kernel
theorem dX7_leaps_11 : decode cX7_leaps 11 = .ok (.iload 4, 2) := by decide +kernel
theorem dX7_leaps_13 : decode cX7_leaps 13 = .ok (.iaload, 1) := by decide +kernel
theorem dX7_leaps_14 : decode cX7_leaps 14 = .ok (.istore 5, 2) := by decide +kernel
theorem dX7_leaps_16 : decode cX7_leaps 16 = .ok (.iconst 0, 1) := by decide +kernel
theorem dX7_leaps_17 : decode cX7_leaps 17 = .ok (.istore 6, 2) := by decide +kernel
theorem dX7_leaps_19 : decode cX7_leaps 19 = .ok (.iload 6, 2) := by decide +kernel
theorem dX7_leaps_21 : decode cX7_leaps 21 = .ok (.iload_n 3, 1) := by decide +kernel
theorem dX7_leaps_22 : decode cX7_leaps 22 = .ok (.invokestatic 56, 3) := by decide +kernel
theorem dX7_leaps_25 : decode cX7_leaps 25 = .ok (.if_icmp .ge 34, 3) := by decide +kernel
theorem dX7_leaps_28 : decode cX7_leaps 28 = .ok (.aload_n 0, 1) := by decide +kernel
theorem dX7_leaps_29 : decode cX7_leaps 29 = .ok (.iload_n 1, 1) := by decide +kernel
theorem dX7_leaps_30 : decode cX7_leaps 30 = .ok (.iload_n 2, 1) := by decide +kernel
theorem dX7_leaps_31 : decode cX7_leaps 31 = .ok (.iload_n 3, 1) := by decide +kernel
theorem dX7_leaps_32 : decode cX7_leaps 32 = .ok (.ifCond .le 11, 3) := by decide +kernel
theorem dX7_leaps_35 : decode cX7_leaps 35 = .ok (.iload 5, 2) := by decide +kernel
theorem dX7_leaps_37 : decode cX7_leaps 37 = .ok (.iload 6, 2) := by decide +kernel
theorem dX7_leaps_39 : decode cX7_leaps 39 = .ok (.iadd, 1) := by decide +kernel
theorem dX7_leaps_40 : decode cX7_leaps 40 = .ok (.goto 10, 3) := by decide +kernel
theorem dX7_leaps_43 : decode cX7_leaps 43 = .ok (.iload 5, 2) := by decide +kernel
theorem dX7_leaps_45 : decode cX7_leaps 45 = .ok (.iconst 1, 1) := by decide +kernel
theorem dX7_leaps_46 : decode cX7_leaps 46 = .ok (.isub, 1) := by decide +kernel
theorem dX7_leaps_47 : decode cX7_leaps 47 = .ok (.iload 6, 2) := by decide +kernel
theorem dX7_leaps_49 : decode cX7_leaps 49 = .ok (.isub, 1) := by decide +kernel
theorem dX7_leaps_50 : decode cX7_leaps 50 = .ok (.invokevirtual 83, 3) := by decide +kernel
theorem dX7_leaps_53 : decode cX7_leaps 53 = .ok (.iinc 6 1, 3) := by decide +kernel
theorem dX7_leaps_56 : decode cX7_leaps 56 = .ok (.goto (-37), 3) := by decide +kernel
theorem dX7_leaps_59 : decode cX7_leaps 59 = .ok (.aload_n 0, 1) := by decide +kernel
theorem dX7_leaps_60 : decode cX7_leaps 60 = .ok (.getfield 7, 3) := by decide +kernel
theorem dX7_leaps_63 : decode cX7_leaps 63 = .ok (.iload 4, 2) := by decide +kernel
theorem dX7_leaps_65 : decode cX7_leaps 65 = .ok (.iload 5, 2) := by decide +kernel
theorem dX7_leaps_67 : decode cX7_leaps 67 = .ok (.iload_n 3, 1) := by decide +kernel
theorem dX7_leaps_68 : decode cX7_leaps 68 = .ok (.iadd, 1) := by decide +kernel
theorem dX7_leaps_69 : decode cX7_leaps 69 = .ok (.iastore, 1) := by decide +kernel
theorem dX7_leaps_70 : decode cX7_leaps 70 = .ok (.aload_n 0, 1) := by decide +kernel
theorem dX7_leaps_71 : decode cX7_leaps 71 = .ok (.getfield 7, 3) := by decide +kernel
theorem dX7_leaps_74 : decode cX7_leaps 74 = .ok (.iload 4, 2) := by decide +kernel
theorem dX7_leaps_76 : decode cX7_leaps 76 = .ok (.iconst 1, 1) := by decide +kernel
theorem dX7_leaps_77 : decode cX7_leaps 77 = .ok (.iadd, 1) := by decide +kernel
theorem dX7_leaps_78 : decode cX7_leaps 78 = .ok (.dup2, 1) := by decide +kernel
theorem dX7_leaps_79 : decode cX7_leaps 79 = .ok (.iaload, 1) := by decide +kernel
theorem dX7_leaps_80 : decode cX7_leaps 80 = .ok (.iload_n 3, 1) := by decide +kernel
theorem dX7_leaps_81 : decode cX7_leaps 81 = .ok (.invokestatic 74, 3) := by decide +kernel
theorem dX7_leaps_84 : decode cX7_leaps 84 = .ok (.isub, 1) := by decide +kernel
theorem dX7_leaps_85 : decode cX7_leaps 85 = .ok (.iastore, 1) := by decide +kernel
theorem dX7_leaps_86 : decode cX7_leaps 86 = .ok (.aload_n 0, 1) := by decide +kernel
theorem dX7_leaps_87 : decode cX7_leaps 87 = .ok (.getfield 7, 3) := by decide +kernel
theorem dX7_leaps_90 : decode cX7_leaps 90 = .ok (.iload_n 1, 1) := by decide +kernel
theorem dX7_leaps_91 : decode cX7_leaps 91 = .ok (.bipush 6, 2) := by decide +kernel
theorem dX7_leaps_93 : decode cX7_leaps 93 = .ok (.iadd, 1) := by decide +kernel
theorem dX7_leaps_94 : decode cX7_leaps 94 = .ok (.dup2, 1) := by decide +kernel
theorem dX7_leaps_95 : decode cX7_leaps 95 = .ok (.iaload, 1) := by decide +kernel
theorem dX7_leaps_96 : decode cX7_leaps 96 = .ok (.iconst 1, 1) := by decide +kernel
theorem dX7_leaps_97 : decode cX7_leaps 97 = .ok (.iadd, 1) := by decide +kernel
theorem dX7_leaps_98 : decode cX7_leaps 98 = .ok (.iastore, 1) := by decide +kernel
theorem dX7_leaps_99 : decode cX7_leaps 99 = .ok (.aload_n 0, 1) := by decide +kernel
theorem dX7_leaps_100 : decode cX7_leaps 100 = .ok (.getfield 7, 3) := by decide +kernel
theorem dX7_leaps_103 : decode cX7_leaps 103 = .ok (.iload 4, 2) := by decide +kernel
theorem dX7_leaps_105 : decode cX7_leaps 105 = .ok (.iaload, 1) := by decide +kernel
theorem dX7_leaps_106 : decode cX7_leaps 106 = .ok (.ireturn, 1) := by decide +kernel
theorem dX7_turn_0 : decode cX7_turn 0 = .ok (.aload_n 0, 1) := by decide +kernel
theorem dX7_turn_1 : decode cX7_turn 1 = .ok (.getfield 7, 3) := by decide +kernel
theorem dX7_turn_4 : decode cX7_turn 4 = .ok (.iload_n 1, 1) := by decide +kernel
theorem dX7_turn_5 : decode cX7_turn 5 = .ok (.iconst 4, 1) := by decide +kernel
theorem dX7_turn_6 : decode cX7_turn 6 = .ok (.iadd, 1) := by decide +kernel
theorem dX7_turn_7 : decode cX7_turn 7 = .ok (.dup2, 1) := by decide +kernel
theorem dX7_turn_8 : decode cX7_turn 8 = .ok (.iaload, 1) := by decide +kernel
theorem dX7_turn_9 : decode cX7_turn 9 = .ok (.iconst 1, 1) := by decide +kernel
theorem dX7_turn_10 : decode cX7_turn 10 = .ok (.iadd, 1) := by decide +kernel
theorem dX7_turn_11 : decode cX7_turn 11 = .ok (.iastore, 1) := by decide +kernel
theorem dX7_turn_12 : decode cX7_turn 12 = .ok (.iconst 0, 1) := by decide +kernel
theorem dX7_turn_13 : decode cX7_turn 13 = .ok (.istore_n 2, 1) := by decide +kernel
theorem dX7_turn_14 : decode cX7_turn 14 = .ok (.iload_n 2, 1) := by decide +kernel
theorem dX7_turn_15 : decode cX7_turn 15 = .ok (.aload_n 0, 1) := by decide +kernel
theorem dX7_turn_16 : decode cX7_turn 16 = .ok (.getfield 7, 3) := by decide +kernel
theorem dX7_turn_19 : decode cX7_turn 19 = .ok (.iload_n 1, 1) := by decide +kernel
theorem dX7_turn_20 : decode cX7_turn 20 = .ok (.iconst 5, 1) := by decide +kernel
theorem dX7_turn_21 : decode cX7_turn 21 = .ok (.iadd, 1) := by decide +kernel
theorem dX7_turn_22 : decode cX7_turn 22 = .ok (.iaload, 1) := by decide +kernel
theorem dX7_turn_23 : decode cX7_turn 23 = .ok (.if_icmp .ge 60, 3) := by decide +kernel
theorem dX7_turn_26 : decode cX7_turn 26 = .ok (.iload_n 1, 1) := by decide +kernel
theorem dX7_turn_27 : decode cX7_turn 27 = .ok (.iload_n 2, 1) := by decide +kernel
theorem dX7_turn_28 : decode cX7_turn 28 = .ok (.invokestatic 28, 3) := by decide +kernel
theorem dX7_turn_31 : decode cX7_turn 31 = .ok (.istore_n 3, 1) := by decide +kernel
theorem dX7_turn_32 : decode cX7_turn 32 = .ok (.aload_n 0, 1) := by decide +kernel
theorem dX7_turn_33 : decode cX7_turn 33 = .ok (.getfield 7, 3) := by decide +kernel
theorem dX7_turn_36 : decode cX7_turn 36 = .ok (.iload_n 3, 1) := by decide +kernel
theorem dX7_turn_37 : decode cX7_turn 37 = .ok (.iconst 2, 1) := by decide +kernel
theorem dX7_turn_38 : decode cX7_turn 38 = .ok (.iadd, 1) := by decide +kernel
theorem dX7_turn_39 : decode cX7_turn 39 = .ok (.iaload, 1) := by decide +kernel
theorem dX7_turn_40 : decode cX7_turn 40 = .ok (.aload_n 0, 1) := by decide +kernel
theorem dX7_turn_41 : decode cX7_turn 41 = .ok (.getfield 7, 3) := by decide +kernel
theorem dX7_turn_44 : decode cX7_turn 44 = .ok (.iload_n 1, 1) := by decide +kernel
theorem dX7_turn_45 : decode cX7_turn 45 = .ok (.iconst 4, 1) := by decide +kernel
theorem dX7_turn_46 : decode cX7_turn 46 = .ok (.iadd, 1) := by decide +kernel
theorem dX7_turn_47 : decode cX7_turn 47 = .ok (.iaload, 1) := by decide +kernel
theorem dX7_turn_48 : decode cX7_turn 48 = .ok (.if_icmp .ne 29, 3) := by decide +kernel
theorem dX7_turn_51 : decode cX7_turn 51 = .ok (.aload_n 0, 1) := by decide +kernel
theorem dX7_turn_52 : decode cX7_turn 52 = .ok (.getfield 7, 3) := by decide +kernel
theorem dX7_turn_55 : decode cX7_turn 55 = .ok (.iload_n 3, 1) := by decide +kernel
theorem dX7_turn_56 : decode cX7_turn 56 = .ok (.iconst 2, 1) := by decide +kernel
theorem dX7_turn_57 : decode cX7_turn 57 = .ok (.iadd, 1) := by decide +kernel
theorem dX7_turn_58 : decode cX7_turn 58 = .ok (.bipush (-6), 2) := by decide +kernel
theorem dX7_turn_60 : decode cX7_turn 60 = .ok (.iastore, 1) := by decide +kernel
theorem dX7_turn_61 : decode cX7_turn 61 = .ok (.aload_n 0, 1) := by decide +kernel
theorem dX7_turn_62 : decode cX7_turn 62 = .ok (.getfield 7, 3) := by decide +kernel
theorem dX7_turn_65 : decode cX7_turn 65 = .ok (.iload_n 3, 1) := by decide +kernel
theorem dX7_turn_66 : decode cX7_turn 66 = .ok (.iconst 1, 1) := by decide +kernel
theorem dX7_turn_67 : decode cX7_turn 67 = .ok (.iadd, 1) := by decide +kernel
theorem dX7_turn_68 : decode cX7_turn 68 = .ok (.aload_n 0, 1) := by decide +kernel
theorem dX7_turn_69 : decode cX7_turn 69 = .ok (.getfield 7, 3) := by decide +kernel
theorem dX7_turn_72 : decode cX7_turn 72 = .ok (.iload_n 1, 1) := by decide +kernel
theorem dX7_turn_73 : decode cX7_turn 73 = .ok (.iconst 3, 1) := by decide +kernel
theorem dX7_turn_74 : decode cX7_turn 74 = .ok (.iadd, 1) := by decide +kernel
theorem dX7_turn_75 : decode cX7_turn 75 = .ok (.iaload, 1) := by decide +kernel
theorem dX7_turn_76 : decode cX7_turn 76 = .ok (.iastore, 1) := by decide +kernel
theorem dX7_turn_77 : decode cX7_turn 77 = .ok (.iinc 2 1, 3) := by decide +kernel
theorem dX7_turn_80 : decode cX7_turn 80 = .ok (.goto (-66), 3) := by decide +kernel
theorem dX7_turn_83 : decode cX7_turn 83 = .ok (.iconst 0, 1) := by decide +kernel
theorem dX7_turn_84 : decode cX7_turn 84 = .ok (.istore_n 2, 1) := by decide +kernel
theorem dX7_turn_85 : decode cX7_turn 85 = .ok (.aload_n 0, 1) := by decide +kernel
theorem dX7_turn_86 : decode cX7_turn 86 = .ok (.getfield 7, 3) := by decide +kernel
theorem dX7_turn_89 : decode cX7_turn 89 = .ok (.iload_n 1, 1) := by decide +kernel
theorem dX7_turn_90 : decode cX7_turn 90 = .ok (.bipush 9, 2) := by decide +kernel
theorem dX7_turn_92 : decode cX7_turn 92 = .ok (.iadd, 1) := by decide +kernel
theorem dX7_turn_93 : decode cX7_turn 93 = .ok (.iaload, 1) := by decide +kernel
theorem dX7_turn_94 : decode cX7_turn 94 = .ok (.ifCond .le 187, 3) := by decide +kernel
theorem dX7_turn_97 : decode cX7_turn 97 = .ok (.aload_n 0, 1) := by decide +kernel
theorem dX7_turn_98 : decode cX7_turn 98 = .ok (.getfield 7, 3) := by decide +kernel
theorem dX7_turn_101 : decode cX7_turn 101 = .ok (.iload_n 1, 1) := by decide +kernel
theorem dX7_turn_102 : decode cX7_turn 102 = .ok (.iconst 0, 1) := by decide +kernel
theorem dX7_turn_103 : decode cX7_turn 103 = .ok (.invokestatic 87, 3) := by decide +kernel
theorem dX7_turn_106 : decode cX7_turn 106 = .ok (.iaload, 1) := by decide +kernel
theorem dX7_turn_107 : decode cX7_turn 107 = .ok (.aload_n 0, 1) := by decide +kernel
theorem dX7_turn_108 : decode cX7_turn 108 = .ok (.getfield 7, 3) := by decide +kernel
theorem dX7_turn_111 : decode cX7_turn 111 = .ok (.iload_n 1, 1) := by decide +kernel
theorem dX7_turn_112 : decode cX7_turn 112 = .ok (.iconst 4, 1) := by decide +kernel
theorem dX7_turn_113 : decode cX7_turn 113 = .ok (.iadd, 1) := by decide +kernel
theorem dX7_turn_114 : decode cX7_turn 114 = .ok (.iaload, 1) := by decide +kernel
theorem dX7_turn_115 : decode cX7_turn 115 = .ok (.if_icmp .ne 166, 3) := by decide +kernel
theorem dX7_turn_118 : decode cX7_turn 118 = .ok (.aload_n 0, 1) := by decide +kernel
theorem dX7_turn_119 : decode cX7_turn 119 = .ok (.getfield 7, 3) := by decide +kernel
theorem dX7_turn_122 : decode cX7_turn 122 = .ok (.iload_n 1, 1) := by decide +kernel
theorem dX7_turn_123 : decode cX7_turn 123 = .ok (.iconst 0, 1) := by decide +kernel
theorem dX7_turn_124 : decode cX7_turn 124 = .ok (.invokestatic 87, 3) := by decide +kernel
theorem dX7_turn_127 : decode cX7_turn 127 = .ok (.iconst 1, 1) := by decide +kernel
theorem dX7_turn_128 : decode cX7_turn 128 = .ok (.iadd, 1) := by decide +kernel
theorem dX7_turn_129 : decode cX7_turn 129 = .ok (.iaload, 1) := by decide +kernel
theorem dX7_turn_130 : decode cX7_turn 130 = .ok (.istore_n 3, 1) := by decide +kernel
theorem dX7_turn_131 : decode cX7_turn 131 = .ok (.aload_n 0, 1) := by decide +kernel
theorem dX7_turn_132 : decode cX7_turn 132 = .ok (.getfield 7, 3) := by decide +kernel
theorem dX7_turn_135 : decode cX7_turn 135 = .ok (.iload_n 1, 1) := by decide +kernel
theorem dX7_turn_136 : decode cX7_turn 136 = .ok (.iconst 0, 1) := by decide +kernel
theorem dX7_turn_137 : decode cX7_turn 137 = .ok (.invokestatic 87, 3) := by decide +kernel
theorem dX7_turn_140 : decode cX7_turn 140 = .ok (.iconst 2, 1) := by decide +kernel
theorem dX7_turn_141 : decode cX7_turn 141 = .ok (.iadd, 1) := by decide +kernel
theorem dX7_turn_142 : decode cX7_turn 142 = .ok (.iaload, 1) := by decide +kernel
theorem dX7_turn_143 : decode cX7_turn 143 = .ok (.istore 4, 2) := by decide +kernel
theorem dX7_turn_145 : decode cX7_turn 145 = .ok (.aload_n 0, 1) := by decide +kernel
theorem dX7_turn_146 : decode cX7_turn 146 = .ok (.iload_n 1, 1) := by decide +kernel
theorem dX7_turn_147 : decode cX7_turn 147 = .ok (.iload_n 3, 1) := by decide +kernel
theorem dX7_turn_148 : decode cX7_turn 148 = .ok (.iload 4, 2) := by decide +kernel
theorem dX7_turn_150 : decode cX7_turn 150 = .ok (.invokevirtual 90, 3) := by decide +kernel
theorem dX7_turn_153 : decode cX7_turn 153 = .ok (.ifCond .ne 7, 3) := by decide +kernel
theorem dX7_turn_156 : decode cX7_turn 156 = .ok (.iconst 1, 1) := by decide +kernel
theorem dX7_turn_157 : decode cX7_turn 157 = .ok (.goto 4, 3) := by decide +kernel
theorem dX7_turn_160 : decode cX7_turn 160 = .ok (.iconst 0, 1) := by decide +kernel
theorem dX7_turn_161 : decode cX7_turn 161 = .ok (.istore 5, 2) := by decide +kernel
theorem dX7_turn_163 : decode cX7_turn 163 = .ok (.iload 5, 2) := by decide +kernel
theorem dX7_turn_165 : decode cX7_turn 165 = .ok (.ifCond .eq 14, 3) := by decide +kernel
theorem dX7_turn_168 : decode cX7_turn 168 = .ok (.aload_n 0, 1) := by decide +kernel
theorem dX7_turn_169 : decode cX7_turn 169 = .ok (.iload_n 1, 1) := by decide +kernel
theorem dX7_turn_170 : decode cX7_turn 170 = .ok (.iload_n 3, 1) := by decide +kernel
theorem dX7_turn_171 : decode cX7_turn 171 = .ok (.iload 4, 2) := by decide +kernel
theorem dX7_turn_173 : decode cX7_turn 173 = .ok (.invokevirtual 93, 3) := by decide +kernel
theorem dX7_turn_176 : decode cX7_turn 176 = .ok (.goto 5, 3) := by decide +kernel
theorem dX7_turn_179 : decode cX7_turn 179 = .ok (.bipush (-6), 2) := by decide +kernel
theorem dX7_turn_181 : decode cX7_turn 181 = .ok (.istore 6, 2) := by decide +kernel
theorem dX7_turn_183 : decode cX7_turn 183 = .ok (.iload_n 2, 1) := by decide +kernel
theorem dX7_turn_184 : decode cX7_turn 184 = .ok (.iload 5, 2) := by decide +kernel
theorem dX7_turn_186 : decode cX7_turn 186 = .ok (.ifCond .eq 7, 3) := by decide +kernel
theorem dX7_turn_189 : decode cX7_turn 189 = .ok (.iconst 1, 1) := by decide +kernel
theorem dX7_turn_190 : decode cX7_turn 190 = .ok (.goto 4, 3) := by decide +kernel
theorem dX7_turn_193 : decode cX7_turn 193 = .ok (.iconst 0, 1) := by decide +kernel
theorem dX7_turn_194 : decode cX7_turn 194 = .ok (.iadd, 1) := by decide +kernel
theorem dX7_turn_195 : decode cX7_turn 195 = .ok (.istore_n 2, 1) := by decide +kernel
theorem dX7_turn_196 : decode cX7_turn 196 = .ok (.aload_n 0, 1) := by decide +kernel
theorem dX7_turn_197 : decode cX7_turn 197 = .ok (.getfield 7, 3) := by decide +kernel
theorem dX7_turn_200 : decode cX7_turn 200 = .ok (.iload_n 1, 1) := by decide +kernel
theorem dX7_turn_201 : decode cX7_turn 201 = .ok (.bipush 7, 2) := by decide +kernel
theorem dX7_turn_203 : decode cX7_turn 203 = .ok (.iadd, 1) := by decide +kernel
theorem dX7_turn_204 : decode cX7_turn 204 = .ok (.dup2, 1) := by decide +kernel
theorem dX7_turn_205 : decode cX7_turn 205 = .ok (.iaload, 1) := by decide +kernel
theorem dX7_turn_206 : decode cX7_turn 206 = .ok (.iload 5, 2) := by decide +kernel
theorem dX7_turn_208 : decode cX7_turn 208 = .ok (.ifCond .eq 7, 3) := by decide +kernel
theorem dX7_turn_211 : decode cX7_turn 211 = .ok (.iconst 0, 1) := by decide +kernel
theorem dX7_turn_212 : decode cX7_turn 212 = .ok (.goto 4, 3) := by decide +kernel
theorem dX7_turn_215 : decode cX7_turn 215 = .ok (.iconst 1, 1) := by decide +kernel
theorem dX7_turn_216 : decode cX7_turn 216 = .ok (.iadd, 1) := by decide +kernel
theorem dX7_turn_217 : decode cX7_turn 217 = .ok (.iastore, 1) := by decide +kernel
theorem dX7_turn_218 : decode cX7_turn 218 = .ok (.aload_n 0, 1) := by decide +kernel
theorem dX7_turn_219 : decode cX7_turn 219 = .ok (.getfield 7, 3) := by decide +kernel
theorem dX7_turn_222 : decode cX7_turn 222 = .ok (.iload_n 1, 1) := by decide +kernel
theorem dX7_turn_223 : decode cX7_turn 223 = .ok (.bipush 9, 2) := by decide +kernel
theorem dX7_turn_225 : decode cX7_turn 225 = .ok (.iadd, 1) := by decide +kernel
theorem dX7_turn_226 : decode cX7_turn 226 = .ok (.dup2, 1) := by decide +kernel
theorem dX7_turn_227 : decode cX7_turn 227 = .ok (.iaload, 1) := by decide +kernel
theorem dX7_turn_228 : decode cX7_turn 228 = .ok (.iconst 1, 1) := by decide +kernel
theorem dX7_turn_229 : decode cX7_turn 229 = .ok (.isub, 1) := by decide +kernel
theorem dX7_turn_230 : decode cX7_turn 230 = .ok (.iastore, 1) := by decide +kernel
theorem dX7_turn_231 : decode cX7_turn 231 = .ok (.iload_n 1, 1) := by decide +kernel
theorem dX7_turn_232 : decode cX7_turn 232 = .ok (.iconst 0, 1) := by decide +kernel
theorem dX7_turn_233 : decode cX7_turn 233 = .ok (.invokestatic 87, 3) := by decide +kernel
theorem dX7_turn_236 : decode cX7_turn 236 = .ok (.istore 7, 2) := by decide +kernel
theorem dX7_turn_238 : decode cX7_turn 238 = .ok (.iload 7, 2) := by decide +kernel
theorem dX7_turn_240 : decode cX7_turn 240 = .ok (.iload_n 1, 1) := by decide +kernel
theorem dX7_turn_241 : decode cX7_turn 241 = .ok (.aload_n 0, 1) := by decide +kernel
theorem dX7_turn_242 : decode cX7_turn 242 = .ok (.getfield 7, 3) := by decide +kernel
theorem dX7_turn_245 : decode cX7_turn 245 = .ok (.iload_n 1, 1) := by decide +kernel
theorem dX7_turn_246 : decode cX7_turn 246 = .ok (.bipush 9, 2) := by decide +kernel
theorem dX7_turn_248 : decode cX7_turn 248 = .ok (.iadd, 1) := by decide +kernel
theorem dX7_turn_249 : decode cX7_turn 249 = .ok (.iaload, 1) := by decide +kernel
theorem dX7_turn_250 : decode cX7_turn 250 = .ok (.invokestatic 87, 3) := by decide +kernel
theorem dX7_turn_253 : decode cX7_turn 253 = .ok (.if_icmp .ge 25, 3) := by decide +kernel
theorem dX7_turn_256 : decode cX7_turn 256 = .ok (.aload_n 0, 1) := by decide +kernel
theorem dX7_turn_257 : decode cX7_turn 257 = .ok (.getfield 7, 3) := by decide +kernel
theorem dX7_turn_260 : decode cX7_turn 260 = .ok (.iload 7, 2) := by decide +kernel
theorem dX7_turn_262 : decode cX7_turn 262 = .ok (.aload_n 0, 1) := by decide +kernel
theorem dX7_turn_263 : decode cX7_turn 263 = .ok (.getfield 7, 3) := by decide +kernel
theorem dX7_turn_266 : decode cX7_turn 266 = .ok (.iload 7, 2) := by decide +kernel
theorem dX7_turn_268 : decode cX7_turn 268 = .ok (.iconst 3, 1) := by decide +kernel
theorem dX7_turn_269 : decode cX7_turn 269 = .ok (.iadd, 1) := by decide +kernel
theorem dX7_turn_270 : decode cX7_turn 270 = .ok (.iaload, 1) := by decide +kernel
theorem dX7_turn_271 : decode cX7_turn 271 = .ok (.iastore, 1) := by decide +kernel
theorem dX7_turn_272 : decode cX7_turn 272 = .ok (.iinc 7 1, 3) := by decide +kernel
theorem dX7_turn_275 : decode cX7_turn 275 = .ok (.goto (-37), 3) := by decide +kernel
theorem dX7_turn_278 : decode cX7_turn 278 = .ok (.goto (-193), 3) := by decide +kernel
theorem dX7_turn_281 : decode cX7_turn 281 = .ok (.iconst 0, 1) := by decide +kernel
theorem dX7_turn_282 : decode cX7_turn 282 = .ok (.istore_n 3, 1) := by decide +kernel
theorem dX7_turn_283 : decode cX7_turn 283 = .ok (.iload_n 3, 1) := by decide +kernel
theorem dX7_turn_284 : decode cX7_turn 284 = .ok (.aload_n 0, 1) := by decide +kernel
theorem dX7_turn_285 : decode cX7_turn 285 = .ok (.getfield 7, 3) := by decide +kernel
theorem dX7_turn_288 : decode cX7_turn 288 = .ok (.iload_n 1, 1) := by decide +kernel
theorem dX7_turn_289 : decode cX7_turn 289 = .ok (.iconst 5, 1) := by decide +kernel
theorem dX7_turn_290 : decode cX7_turn 290 = .ok (.iadd, 1) := by decide +kernel
theorem dX7_turn_291 : decode cX7_turn 291 = .ok (.iaload, 1) := by decide +kernel
theorem dX7_turn_292 : decode cX7_turn 292 = .ok (.if_icmp .ge 62, 3) := by decide +kernel
theorem dX7_turn_295 : decode cX7_turn 295 = .ok (.iload_n 1, 1) := by decide +kernel
theorem dX7_turn_296 : decode cX7_turn 296 = .ok (.iload_n 3, 1) := by decide +kernel
theorem dX7_turn_297 : decode cX7_turn 297 = .ok (.invokestatic 28, 3) := by decide +kernel
theorem dX7_turn_300 : decode cX7_turn 300 = .ok (.istore 4, 2) := by decide +kernel
theorem dX7_turn_302 : decode cX7_turn 302 = .ok (.aload_n 0, 1) := by decide +kernel
theorem dX7_turn_303 : decode cX7_turn 303 = .ok (.getfield 7, 3) := by decide +kernel
theorem dX7_turn_306 : decode cX7_turn 306 = .ok (.iload 4, 2) := by decide +kernel
theorem dX7_turn_308 : decode cX7_turn 308 = .ok (.iconst 1, 1) := by decide +kernel
theorem dX7_turn_309 : decode cX7_turn 309 = .ok (.iadd, 1) := by decide +kernel
theorem dX7_turn_310 : decode cX7_turn 310 = .ok (.dup2, 1) := by decide +kernel
theorem dX7_turn_311 : decode cX7_turn 311 = .ok (.iaload, 1) := by decide +kernel
theorem dX7_turn_312 : decode cX7_turn 312 = .ok (.aload_n 0, 1) := by decide +kernel
theorem dX7_turn_313 : decode cX7_turn 313 = .ok (.iload_n 1, 1) := by decide +kernel
theorem dX7_turn_314 : decode cX7_turn 314 = .ok (.iload_n 3, 1) := by decide +kernel
theorem dX7_turn_315 : decode cX7_turn 315 = .ok (.invokevirtual 64, 3) := by decide +kernel
theorem dX7_turn_318 : decode cX7_turn 318 = .ok (.ifCond .ne 27, 3) := by decide +kernel
theorem dX7_turn_321 : decode cX7_turn 321 = .ok (.aload_n 0, 1) := by decide +kernel
theorem dX7_turn_322 : decode cX7_turn 322 = .ok (.getfield 7, 3) := by decide +kernel
theorem dX7_turn_325 : decode cX7_turn 325 = .ok (.iload 4, 2) := by decide +kernel
theorem dX7_turn_327 : decode cX7_turn 327 = .ok (.iconst 1, 1) := by decide +kernel
theorem dX7_turn_328 : decode cX7_turn 328 = .ok (.iadd, 1) := by decide +kernel
theorem dX7_turn_329 : decode cX7_turn 329 = .ok (.iaload, 1) := by decide +kernel
theorem dX7_turn_330 : decode cX7_turn 330 = .ok (.aload_n 0, 1) := by decide +kernel
theorem dX7_turn_331 : decode cX7_turn 331 = .ok (.getfield 7, 3) := by decide +kernel
theorem dX7_turn_334 : decode cX7_turn 334 = .ok (.iload_n 1, 1) := by decide +kernel
theorem dX7_turn_335 : decode cX7_turn 335 = .ok (.iconst 3, 1) := by decide +kernel
theorem dX7_turn_336 : decode cX7_turn 336 = .ok (.iadd, 1) := by decide +kernel
theorem dX7_turn_337 : decode cX7_turn 337 = .ok (.iaload, 1) := by decide +kernel
theorem dX7_turn_338 : decode cX7_turn 338 = .ok (.if_icmp .ge 7, 3) := by decide +kernel
theorem dX7_turn_341 : decode cX7_turn 341 = .ok (.iconst 1, 1) := by decide +kernel
theorem dX7_turn_342 : decode cX7_turn 342 = .ok (.goto 4, 3) := by decide +kernel
theorem dX7_turn_345 : decode cX7_turn 345 = .ok (.iconst 0, 1) := by decide +kernel
theorem dX7_turn_346 : decode cX7_turn 346 = .ok (.iadd, 1) := by decide +kernel
theorem dX7_turn_347 : decode cX7_turn 347 = .ok (.iastore, 1) := by decide +kernel
theorem dX7_turn_348 : decode cX7_turn 348 = .ok (.iinc 3 1, 3) := by decide +kernel
theorem dX7_turn_351 : decode cX7_turn 351 = .ok (.goto (-68), 3) := by decide +kernel
theorem dX7_turn_354 : decode cX7_turn 354 = .ok (.iload_n 2, 1) := by decide +kernel
theorem dX7_turn_355 : decode cX7_turn 355 = .ok (.ireturn, 1) := by decide +kernel
theorem dX7_turns_0 : decode cX7_turns 0 = .ok (.iconst 0, 1) := by decide +kernel
theorem dX7_turns_1 : decode cX7_turns 1 = .ok (.istore_n 3, 1) := by decide +kernel
theorem dX7_turns_2 : decode cX7_turns 2 = .ok (.iconst 0, 1) := by decide +kernel
theorem dX7_turns_3 : decode cX7_turns 3 = .ok (.istore 4, 2) := by decide +kernel
theorem dX7_turns_5 : decode cX7_turns 5 = .ok (.iload 4, 2) := by decide +kernel
theorem dX7_turns_7 : decode cX7_turns 7 = .ok (.iload_n 2, 1) := by decide +kernel
theorem dX7_turns_8 : decode cX7_turns 8 = .ok (.if_icmp .ge 17, 3) := by decide +kernel
theorem dX7_turns_11 : decode cX7_turns 11 = .ok (.iload_n 3, 1) := by decide +kernel
theorem dX7_turns_12 : decode cX7_turns 12 = .ok (.aload_n 0, 1) := by decide +kernel
theorem dX7_turns_13 : decode cX7_turns 13 = .ok (.iload_n 1, 1) := by decide +kernel
theorem dX7_turns_14 : decode cX7_turns 14 = .ok (.invokevirtual 96, 3) := by decide +kernel
theorem dX7_turns_17 : decode cX7_turns 17 = .ok (.iadd, 1) := by decide +kernel
theorem dX7_turns_18 : decode cX7_turns 18 = .ok (.istore_n 3, 1) := by decide +kernel
theorem dX7_turns_19 : decode cX7_turns 19 = .ok (.iinc 4 1, 3) := by decide +kernel
theorem dX7_turns_22 : decode cX7_turns 22 = .ok (.goto (-17), 3) := by decide +kernel
theorem dX7_turns_25 : decode cX7_turns 25 = .ok (.iload_n 3, 1) := by decide +kernel
theorem dX7_turns_26 : decode cX7_turns 26 = .ok (.ireturn, 1) := by decide +kernel
theorem dX7_isKitten_0 : decode cX7_isKitten 0 = .ok (.iload_n 1, 1) := by decide +kernel
theorem dX7_isKitten_1 : decode cX7_isKitten 1 = .ok (.i2l, 1) := by decide +kernel
theorem dX7_isKitten_2 : decode cX7_isKitten 2 = .ok (.lconst 0, 1) := by decide +kernel
theorem dX7_isKitten_3 : decode cX7_isKitten 3 = .ok (.aload_n 0, 1) := by decide +kernel
theorem dX7_isKitten_4 : decode cX7_isKitten 4 = .ok (.getfield 7, 3) := by decide +kernel
theorem dX7_isKitten_7 : decode cX7_isKitten 7 = .ok (.iconst 5, 1) := by decide +kernel
theorem dX7_isKitten_8 : decode cX7_isKitten 8 = .ok (.iaload, 1) := by decide +kernel
theorem dX7_isKitten_9 : decode cX7_isKitten 9 = .ok (.iconst 1, 1) := by decide +kernel
theorem dX7_isKitten_10 : decode cX7_isKitten 10 = .ok (.isub, 1) := by decide +kernel
theorem dX7_isKitten_11 : decode cX7_isKitten 11 = .ok (.i2l, 1) := by decide +kernel
theorem dX7_isKitten_12 : decode cX7_isKitten 12 = .ok (.invokestatic 70, 3) := by decide +kernel
theorem dX7_isKitten_15 : decode cX7_isKitten 15 = .ok (.ireturn, 1) := by decide +kernel
theorem dX7_isEdge_0 : decode cX7_isEdge 0 = .ok (.iload_n 0, 1) := by decide +kernel
theorem dX7_isEdge_1 : decode cX7_isEdge 1 = .ok (.i2l, 1) := by decide +kernel
theorem dX7_isEdge_2 : decode cX7_isEdge 2 = .ok (.lconst 0, 1) := by decide +kernel
theorem dX7_isEdge_3 : decode cX7_isEdge 3 = .ok (.ldc2_w 99, 3) := by decide +kernel
theorem dX7_isEdge_6 : decode cX7_isEdge 6 = .ok (.invokestatic 70, 3) := by decide +kernel
theorem dX7_isEdge_9 : decode cX7_isEdge 9 = .ok (.ireturn, 1) := by decide +kernel
theorem dX7_areSteps_0 : decode cX7_areSteps 0 = .ok (.iload_n 0, 1) := by decide +kernel
theorem dX7_areSteps_1 : decode cX7_areSteps 1 = .ok (.ifCond .eq 21, 3) := by decide +kernel
theorem dX7_areSteps_4 : decode cX7_areSteps 4 = .ok (.iload_n 0, 1) := by decide +kernel
theorem dX7_areSteps_5 : decode cX7_areSteps 5 = .ok (.i2l, 1) := by decide +kernel
theorem dX7_areSteps_6 : decode cX7_areSteps 6 = .ok (.ldc2_w 101, 3) := by decide +kernel
theorem dX7_areSteps_9 : decode cX7_areSteps 9 = .ok (.ldc2_w 68, 3) := by decide +kernel
theorem dX7_areSteps_12 : decode cX7_areSteps 12 = .ok (.invokestatic 70, 3) := by decide +kernel
theorem dX7_areSteps_15 : decode cX7_areSteps 15 = .ok (.ifCond .eq 7, 3) := by decide +kernel
theorem dX7_areSteps_18 : decode cX7_areSteps 18 = .ok (.iconst 1, 1) := by decide +kernel
theorem dX7_areSteps_19 : decode cX7_areSteps 19 = .ok (.goto 4, 3) := by decide +kernel
theorem dX7_areSteps_22 : decode cX7_areSteps 22 = .ok (.iconst 0, 1) := by decide +kernel
theorem dX7_areSteps_23 : decode cX7_areSteps 23 = .ok (.ireturn, 1) := by decide +kernel
theorem dX7_kittenError_0 : decode cX7_kittenError 0 = .ok (.iload_n 1, 1) := by decide +kernel
theorem dX7_kittenError_1 : decode cX7_kittenError 1 = .ok (.i2l, 1) := by decide +kernel
theorem dX7_kittenError_2 : decode cX7_kittenError 2 = .ok (.lconst 0, 1) := by decide +kernel
theorem dX7_kittenError_3 : decode cX7_kittenError 3 = .ok (.ldc2_w 68, 3) := by decide +kernel
theorem dX7_kittenError_6 : decode cX7_kittenError 6 = .ok (.invokestatic 70, 3) := by decide +kernel
theorem dX7_kittenError_9 : decode cX7_kittenError 9 = .ok (.ifCond .ne 7, 3) := by decide +kernel
theorem dX7_kittenError_12 : decode cX7_kittenError 12 = .ok (.iconst (-1), 1) := by decide +kernel
theorem dX7_kittenError_13 : decode cX7_kittenError 13 = .ok (.goto 20, 3) := by decide +kernel
theorem dX7_kittenError_16 : decode cX7_kittenError 16 = .ok (.aload_n 0, 1) := by decide +kernel
theorem dX7_kittenError_17 : decode cX7_kittenError 17 = .ok (.getfield 7, 3) := by decide +kernel
theorem dX7_kittenError_20 : decode cX7_kittenError 20 = .ok (.iconst 5, 1) := by decide +kernel
theorem dX7_kittenError_21 : decode cX7_kittenError 21 = .ok (.iaload, 1) := by decide +kernel
theorem dX7_kittenError_22 : decode cX7_kittenError 22 = .ok (.bipush 6, 2) := by decide +kernel
theorem dX7_kittenError_24 : decode cX7_kittenError 24 = .ok (.if_icmp .ne 8, 3) := by decide +kernel
theorem dX7_kittenError_27 : decode cX7_kittenError 27 = .ok (.bipush (-4), 2) := by decide +kernel
theorem dX7_kittenError_29 : decode cX7_kittenError 29 = .ok (.goto 4, 3) := by decide +kernel
theorem dX7_kittenError_32 : decode cX7_kittenError 32 = .ok (.iconst 0, 1) := by decide +kernel
theorem dX7_kittenError_33 : decode cX7_kittenError 33 = .ok (.ireturn, 1) := by decide +kernel
theorem dX7_leapError_0 : decode cX7_leapError 0 = .ok (.aload_n 0, 1) := by decide +kernel
theorem dX7_leapError_1 : decode cX7_leapError 1 = .ok (.iload_n 1, 1) := by decide +kernel
theorem dX7_leapError_2 : decode cX7_leapError 2 = .ok (.invokevirtual 103, 3) := by decide +kernel
theorem dX7_leapError_5 : decode cX7_leapError 5 = .ok (.ifCond .ne 7, 3) := by decide +kernel
theorem dX7_leapError_8 : decode cX7_leapError 8 = .ok (.iconst (-1), 1) := by decide +kernel
theorem dX7_leapError_9 : decode cX7_leapError 9 = .ok (.goto 31, 3) := by decide +kernel
theorem dX7_leapError_12 : decode cX7_leapError 12 = .ok (.iload_n 2, 1) := by decide +kernel
theorem dX7_leapError_13 : decode cX7_leapError 13 = .ok (.invokestatic 107, 3) := by decide +kernel
theorem dX7_leapError_16 : decode cX7_leapError 16 = .ok (.ifCond .ne 8, 3) := by decide +kernel
theorem dX7_leapError_19 : decode cX7_leapError 19 = .ok (.bipush (-2), 2) := by decide +kernel
theorem dX7_leapError_21 : decode cX7_leapError 21 = .ok (.goto 19, 3) := by decide +kernel
theorem dX7_leapError_24 : decode cX7_leapError 24 = .ok (.aload_n 0, 1) := by decide +kernel
theorem dX7_leapError_25 : decode cX7_leapError 25 = .ok (.iconst 0, 1) := by decide +kernel
theorem dX7_leapError_26 : decode cX7_leapError 26 = .ok (.iload_n 1, 1) := by decide +kernel
theorem dX7_leapError_27 : decode cX7_leapError 27 = .ok (.iload_n 2, 1) := by decide +kernel
theorem dX7_leapError_28 : decode cX7_leapError 28 = .ok (.invokevirtual 90, 3) := by decide +kernel
theorem dX7_leapError_31 : decode cX7_leapError 31 = .ok (.ifCond .eq 8, 3) := by decide +kernel
theorem dX7_leapError_34 : decode cX7_leapError 34 = .ok (.bipush (-5), 2) := by decide +kernel
theorem dX7_leapError_36 : decode cX7_leapError 36 = .ok (.goto 4, 3) := by decide +kernel
theorem dX7_leapError_39 : decode cX7_leapError 39 = .ok (.iconst 0, 1) := by decide +kernel
theorem dX7_leapError_40 : decode cX7_leapError 40 = .ok (.ireturn, 1) := by decide +kernel
theorem dX7_napError_0 : decode cX7_napError 0 = .ok (.aload_n 0, 1) := by decide +kernel
theorem dX7_napError_1 : decode cX7_napError 1 = .ok (.iload_n 1, 1) := by decide +kernel
theorem dX7_napError_2 : decode cX7_napError 2 = .ok (.invokevirtual 103, 3) := by decide +kernel
theorem dX7_napError_5 : decode cX7_napError 5 = .ok (.ifCond .ne 7, 3) := by decide +kernel
theorem dX7_napError_8 : decode cX7_napError 8 = .ok (.iconst (-1), 1) := by decide +kernel
theorem dX7_napError_9 : decode cX7_napError 9 = .ok (.goto 18, 3) := by decide +kernel
theorem dX7_napError_12 : decode cX7_napError 12 = .ok (.aload_n 0, 1) := by decide +kernel
theorem dX7_napError_13 : decode cX7_napError 13 = .ok (.iconst 0, 1) := by decide +kernel
theorem dX7_napError_14 : decode cX7_napError 14 = .ok (.iload_n 1, 1) := by decide +kernel
theorem dX7_napError_15 : decode cX7_napError 15 = .ok (.invokevirtual 64, 3) := by decide +kernel
theorem dX7_napError_18 : decode cX7_napError 18 = .ok (.ifCond .eq 8, 3) := by decide +kernel
theorem dX7_napError_21 : decode cX7_napError 21 = .ok (.bipush (-5), 2) := by decide +kernel
theorem dX7_napError_23 : decode cX7_napError 23 = .ok (.goto 4, 3) := by decide +kernel
theorem dX7_napError_26 : decode cX7_napError 26 = .ok (.iconst 0, 1) := by decide +kernel
theorem dX7_napError_27 : decode cX7_napError 27 = .ok (.ireturn, 1) := by decide +kernel
theorem dX7_strandsAt_0 : decode cX7_strandsAt 0 = .ok (.iconst 0, 1) := by decide +kernel
theorem dX7_strandsAt_1 : decode cX7_strandsAt 1 = .ok (.istore_n 3, 1) := by decide +kernel
theorem dX7_strandsAt_2 : decode cX7_strandsAt 2 = .ok (.iconst 0, 1) := by decide +kernel
theorem dX7_strandsAt_3 : decode cX7_strandsAt 3 = .ok (.istore 4, 2) := by decide +kernel
theorem dX7_strandsAt_5 : decode cX7_strandsAt 5 = .ok (.iload 4, 2) := by decide +kernel
theorem dX7_strandsAt_7 : decode cX7_strandsAt 7 = .ok (.aload_n 0, 1) := by decide +kernel
theorem dX7_strandsAt_8 : decode cX7_strandsAt 8 = .ok (.getfield 7, 3) := by decide +kernel
theorem dX7_strandsAt_11 : decode cX7_strandsAt 11 = .ok (.bipush 8, 2) := by decide +kernel
theorem dX7_strandsAt_13 : decode cX7_strandsAt 13 = .ok (.iaload, 1) := by decide +kernel
theorem dX7_strandsAt_14 : decode cX7_strandsAt 14 = .ok (.if_icmp .ge 29, 3) := by decide +kernel
theorem dX7_strandsAt_17 : decode cX7_strandsAt 17 = .ok (.iload_n 3, 1) := by decide +kernel
theorem dX7_strandsAt_18 : decode cX7_strandsAt 18 = .ok (.aload_n 0, 1) := by decide +kernel
theorem dX7_strandsAt_19 : decode cX7_strandsAt 19 = .ok (.iconst 0, 1) := by decide +kernel
theorem dX7_strandsAt_20 : decode cX7_strandsAt 20 = .ok (.iload 4, 2) := by decide +kernel
theorem dX7_strandsAt_22 : decode cX7_strandsAt 22 = .ok (.iload_n 1, 1) := by decide +kernel
theorem dX7_strandsAt_23 : decode cX7_strandsAt 23 = .ok (.invokevirtual 32, 3) := by decide +kernel
theorem dX7_strandsAt_26 : decode cX7_strandsAt 26 = .ok (.iload_n 2, 1) := by decide +kernel
theorem dX7_strandsAt_27 : decode cX7_strandsAt 27 = .ok (.if_icmp .ne 7, 3) := by decide +kernel
theorem dX7_strandsAt_30 : decode cX7_strandsAt 30 = .ok (.iconst 1, 1) := by decide +kernel
theorem dX7_strandsAt_31 : decode cX7_strandsAt 31 = .ok (.goto 4, 3) := by decide +kernel
theorem dX7_strandsAt_34 : decode cX7_strandsAt 34 = .ok (.iconst 0, 1) := by decide +kernel
theorem dX7_strandsAt_35 : decode cX7_strandsAt 35 = .ok (.iadd, 1) := by decide +kernel
theorem dX7_strandsAt_36 : decode cX7_strandsAt 36 = .ok (.istore_n 3, 1) := by decide +kernel
theorem dX7_strandsAt_37 : decode cX7_strandsAt 37 = .ok (.iinc 4 1, 3) := by decide +kernel
theorem dX7_strandsAt_40 : decode cX7_strandsAt 40 = .ok (.goto (-35), 3) := by decide +kernel
theorem dX7_strandsAt_43 : decode cX7_strandsAt 43 = .ok (.iload_n 3, 1) := by decide +kernel
theorem dX7_strandsAt_44 : decode cX7_strandsAt 44 = .ok (.ireturn, 1) := by decide +kernel
theorem dX7_snipError_0 : decode cX7_snipError 0 = .ok (.iload_n 1, 1) := by decide +kernel
theorem dX7_snipError_1 : decode cX7_snipError 1 = .ok (.invokestatic 110, 3) := by decide +kernel
theorem dX7_snipError_4 : decode cX7_snipError 4 = .ok (.ifCond .eq 11, 3) := by decide +kernel
theorem dX7_snipError_7 : decode cX7_snipError 7 = .ok (.aload_n 0, 1) := by decide +kernel
theorem dX7_snipError_8 : decode cX7_snipError 8 = .ok (.iload_n 2, 1) := by decide +kernel
theorem dX7_snipError_9 : decode cX7_snipError 9 = .ok (.invokevirtual 103, 3) := by decide +kernel
theorem dX7_snipError_12 : decode cX7_snipError 12 = .ok (.ifCond .ne 7, 3) := by decide +kernel
theorem dX7_snipError_15 : decode cX7_snipError 15 = .ok (.iconst (-1), 1) := by decide +kernel
theorem dX7_snipError_16 : decode cX7_snipError 16 = .ok (.goto 18, 3) := by decide +kernel
theorem dX7_snipError_19 : decode cX7_snipError 19 = .ok (.aload_n 0, 1) := by decide +kernel
theorem dX7_snipError_20 : decode cX7_snipError 20 = .ok (.iload_n 1, 1) := by decide +kernel
theorem dX7_snipError_21 : decode cX7_snipError 21 = .ok (.iload_n 2, 1) := by decide +kernel
theorem dX7_snipError_22 : decode cX7_snipError 22 = .ok (.invokevirtual 113, 3) := by decide +kernel
theorem dX7_snipError_25 : decode cX7_snipError 25 = .ok (.ifCond .ne 8, 3) := by decide +kernel
theorem dX7_snipError_28 : decode cX7_snipError 28 = .ok (.bipush (-5), 2) := by decide +kernel
theorem dX7_snipError_30 : decode cX7_snipError 30 = .ok (.goto 4, 3) := by decide +kernel
theorem dX7_snipError_33 : decode cX7_snipError 33 = .ok (.iconst 0, 1) := by decide +kernel
theorem dX7_snipError_34 : decode cX7_snipError 34 = .ok (.ireturn, 1) := by decide +kernel
theorem dX7_planError_0 : decode cX7_planError 0 = .ok (.aload_n 0, 1) := by decide +kernel
theorem dX7_planError_1 : decode cX7_planError 1 = .ok (.iload_n 2, 1) := by decide +kernel
theorem dX7_planError_2 : decode cX7_planError 2 = .ok (.invokevirtual 103, 3) := by decide +kernel
theorem dX7_planError_5 : decode cX7_planError 5 = .ok (.ifCond .ne 7, 3) := by decide +kernel
theorem dX7_planError_8 : decode cX7_planError 8 = .ok (.iconst (-1), 1) := by decide +kernel
theorem dX7_planError_9 : decode cX7_planError 9 = .ok (.goto 45, 3) := by decide +kernel
theorem dX7_planError_12 : decode cX7_planError 12 = .ok (.iload_n 1, 1) := by decide +kernel
theorem dX7_planError_13 : decode cX7_planError 13 = .ok (.i2l, 1) := by decide +kernel
theorem dX7_planError_14 : decode cX7_planError 14 = .ok (.lconst 1, 1) := by decide +kernel
theorem dX7_planError_15 : decode cX7_planError 15 = .ok (.ldc2_w 116, 3) := by decide +kernel
theorem dX7_planError_18 : decode cX7_planError 18 = .ok (.invokestatic 70, 3) := by decide +kernel
theorem dX7_planError_21 : decode cX7_planError 21 = .ok (.ifCond .eq 10, 3) := by decide +kernel
theorem dX7_planError_24 : decode cX7_planError 24 = .ok (.iload_n 3, 1) := by decide +kernel
theorem dX7_planError_25 : decode cX7_planError 25 = .ok (.invokestatic 107, 3) := by decide +kernel
theorem dX7_planError_28 : decode cX7_planError 28 = .ok (.ifCond .ne 8, 3) := by decide +kernel
theorem dX7_planError_31 : decode cX7_planError 31 = .ok (.bipush (-2), 2) := by decide +kernel
theorem dX7_planError_33 : decode cX7_planError 33 = .ok (.goto 21, 3) := by decide +kernel
theorem dX7_planError_36 : decode cX7_planError 36 = .ok (.aload_n 0, 1) := by decide +kernel
theorem dX7_planError_37 : decode cX7_planError 37 = .ok (.getfield 7, 3) := by decide +kernel
theorem dX7_planError_40 : decode cX7_planError 40 = .ok (.bipush 9, 2) := by decide +kernel
theorem dX7_planError_42 : decode cX7_planError 42 = .ok (.iaload, 1) := by decide +kernel
theorem dX7_planError_43 : decode cX7_planError 43 = .ok (.bipush 16, 2) := by decide +kernel
theorem dX7_planError_45 : decode cX7_planError 45 = .ok (.if_icmp .ne 8, 3) := by decide +kernel
theorem dX7_planError_48 : decode cX7_planError 48 = .ok (.bipush (-4), 2) := by decide +kernel
theorem dX7_planError_50 : decode cX7_planError 50 = .ok (.goto 4, 3) := by decide +kernel
theorem dX7_planError_53 : decode cX7_planError 53 = .ok (.iconst 0, 1) := by decide +kernel
theorem dX7_planError_54 : decode cX7_planError 54 = .ok (.ireturn, 1) := by decide +kernel
theorem dX7_passError_0 : decode cX7_passError 0 = .ok (.iload_n 1, 1) := by decide +kernel
theorem dX7_passError_1 : decode cX7_passError 1 = .ok (.i2l, 1) := by decide +kernel
theorem dX7_passError_2 : decode cX7_passError 2 = .ok (.lconst 1, 1) := by decide +kernel
theorem dX7_passError_3 : decode cX7_passError 3 = .ok (.ldc2_w 116, 3) := by decide +kernel
theorem dX7_passError_6 : decode cX7_passError 6 = .ok (.invokestatic 70, 3) := by decide +kernel
theorem dX7_passError_9 : decode cX7_passError 9 = .ok (.ifCond .ne 8, 3) := by decide +kernel
theorem dX7_passError_12 : decode cX7_passError 12 = .ok (.bipush (-2), 2) := by decide +kernel
theorem dX7_passError_14 : decode cX7_passError 14 = .ok (.goto 23, 3) := by decide +kernel
theorem dX7_passError_17 : decode cX7_passError 17 = .ok (.aload_n 0, 1) := by decide +kernel
theorem dX7_passError_18 : decode cX7_passError 18 = .ok (.getfield 7, 3) := by decide +kernel
theorem dX7_passError_21 : decode cX7_passError 21 = .ok (.iconst 4, 1) := by decide +kernel
theorem dX7_passError_22 : decode cX7_passError 22 = .ok (.iaload, 1) := by decide +kernel
theorem dX7_passError_23 : decode cX7_passError 23 = .ok (.iload_n 1, 1) := by decide +kernel
theorem dX7_passError_24 : decode cX7_passError 24 = .ok (.iadd, 1) := by decide +kernel
theorem dX7_passError_25 : decode cX7_passError 25 = .ok (.sipush 9999, 3) := by decide +kernel
theorem dX7_passError_28 : decode cX7_passError 28 = .ok (.if_icmp .le 8, 3) := by decide +kernel
theorem dX7_passError_31 : decode cX7_passError 31 = .ok (.bipush (-5), 2) := by decide +kernel
theorem dX7_passError_33 : decode cX7_passError 33 = .ok (.goto 4, 3) := by decide +kernel
theorem dX7_passError_36 : decode cX7_passError 36 = .ok (.iconst 0, 1) := by decide +kernel
theorem dX7_passError_37 : decode cX7_passError 37 = .ok (.ireturn, 1) := by decide +kernel
theorem dX7_comes_0 : decode cX7_comes 0 = .ok (.iconst 0, 1) := by decide +kernel
theorem dX7_comes_1 : decode cX7_comes 1 = .ok (.aload_n 0, 1) := by decide +kernel
theorem dX7_comes_2 : decode cX7_comes 2 = .ok (.getfield 7, 3) := by decide +kernel
theorem dX7_comes_5 : decode cX7_comes 5 = .ok (.iconst 5, 1) := by decide +kernel
theorem dX7_comes_6 : decode cX7_comes 6 = .ok (.iaload, 1) := by decide +kernel
theorem dX7_comes_7 : decode cX7_comes 7 = .ok (.invokestatic 28, 3) := by decide +kernel
theorem dX7_comes_10 : decode cX7_comes 10 = .ok (.istore_n 2, 1) := by decide +kernel
theorem dX7_comes_11 : decode cX7_comes 11 = .ok (.iconst 0, 1) := by decide +kernel
theorem dX7_comes_12 : decode cX7_comes 12 = .ok (.istore_n 3, 1) := by decide +kernel
theorem dX7_comes_13 : decode cX7_comes 13 = .ok (.iload_n 3, 1) := by decide +kernel
theorem dX7_comes_14 : decode cX7_comes 14 = .ok (.bipush 7, 2) := by decide +kernel
theorem dX7_comes_16 : decode cX7_comes 16 = .ok (.if_icmp .ge 18, 3) := by decide +kernel
theorem dX7_comes_19 : decode cX7_comes 19 = .ok (.aload_n 0, 1) := by decide +kernel
theorem dX7_comes_20 : decode cX7_comes 20 = .ok (.getfield 7, 3) := by decide +kernel
theorem dX7_comes_23 : decode cX7_comes 23 = .ok (.iload_n 2, 1) := by decide +kernel
theorem dX7_comes_24 : decode cX7_comes 24 = .ok (.iload_n 3, 1) := by decide +kernel
theorem dX7_comes_25 : decode cX7_comes 25 = .ok (.iadd, 1) := by decide +kernel
theorem dX7_comes_26 : decode cX7_comes 26 = .ok (.iconst 0, 1) := by decide +kernel
theorem dX7_comes_27 : decode cX7_comes 27 = .ok (.iastore, 1) := by decide +kernel
theorem dX7_comes_28 : decode cX7_comes 28 = .ok (.iinc 3 1, 3) := by decide +kernel
theorem dX7_comes_31 : decode cX7_comes 31 = .ok (.goto (-18), 3) := by decide +kernel
theorem dX7_comes_34 : decode cX7_comes 34 = .ok (.aload_n 0, 1) := by decide +kernel
theorem dX7_comes_35 : decode cX7_comes 35 = .ok (.getfield 7, 3) := by decide +kernel
theorem dX7_comes_38 : decode cX7_comes 38 = .ok (.iload_n 2, 1) := by decide +kernel
theorem dX7_comes_39 : decode cX7_comes 39 = .ok (.iload_n 1, 1) := by decide +kernel
theorem dX7_comes_40 : decode cX7_comes 40 = .ok (.iastore, 1) := by decide +kernel
theorem dX7_comes_41 : decode cX7_comes 41 = .ok (.aload_n 0, 1) := by decide +kernel
theorem dX7_comes_42 : decode cX7_comes 42 = .ok (.getfield 7, 3) := by decide +kernel
theorem dX7_comes_45 : decode cX7_comes 45 = .ok (.iload_n 2, 1) := by decide +kernel
theorem dX7_comes_46 : decode cX7_comes 46 = .ok (.iconst 1, 1) := by decide +kernel
theorem dX7_comes_47 : decode cX7_comes 47 = .ok (.iadd, 1) := by decide +kernel
theorem dX7_comes_48 : decode cX7_comes 48 = .ok (.aload_n 0, 1) := by decide +kernel
theorem dX7_comes_49 : decode cX7_comes 49 = .ok (.getfield 7, 3) := by decide +kernel
theorem dX7_comes_52 : decode cX7_comes 52 = .ok (.iconst 3, 1) := by decide +kernel
theorem dX7_comes_53 : decode cX7_comes 53 = .ok (.iaload, 1) := by decide +kernel
theorem dX7_comes_54 : decode cX7_comes 54 = .ok (.iastore, 1) := by decide +kernel
theorem dX7_comes_55 : decode cX7_comes 55 = .ok (.aload_n 0, 1) := by decide +kernel
theorem dX7_comes_56 : decode cX7_comes 56 = .ok (.getfield 7, 3) := by decide +kernel
theorem dX7_comes_59 : decode cX7_comes 59 = .ok (.iload_n 2, 1) := by decide +kernel
theorem dX7_comes_60 : decode cX7_comes 60 = .ok (.iconst 2, 1) := by decide +kernel
theorem dX7_comes_61 : decode cX7_comes 61 = .ok (.iadd, 1) := by decide +kernel
theorem dX7_comes_62 : decode cX7_comes 62 = .ok (.bipush (-6), 2) := by decide +kernel
theorem dX7_comes_64 : decode cX7_comes 64 = .ok (.iastore, 1) := by decide +kernel
theorem dX7_comes_65 : decode cX7_comes 65 = .ok (.aload_n 0, 1) := by decide +kernel
theorem dX7_comes_66 : decode cX7_comes 66 = .ok (.getfield 7, 3) := by decide +kernel
theorem dX7_comes_69 : decode cX7_comes 69 = .ok (.iload_n 2, 1) := by decide +kernel
theorem dX7_comes_70 : decode cX7_comes 70 = .ok (.iconst 3, 1) := by decide +kernel
theorem dX7_comes_71 : decode cX7_comes 71 = .ok (.iadd, 1) := by decide +kernel
theorem dX7_comes_72 : decode cX7_comes 72 = .ok (.bipush 40, 2) := by decide +kernel
theorem dX7_comes_74 : decode cX7_comes 74 = .ok (.iastore, 1) := by decide +kernel
theorem dX7_comes_75 : decode cX7_comes 75 = .ok (.aload_n 0, 1) := by decide +kernel
theorem dX7_comes_76 : decode cX7_comes 76 = .ok (.getfield 7, 3) := by decide +kernel
theorem dX7_comes_79 : decode cX7_comes 79 = .ok (.iconst 5, 1) := by decide +kernel
theorem dX7_comes_80 : decode cX7_comes 80 = .ok (.dup2, 1) := by decide +kernel
theorem dX7_comes_81 : decode cX7_comes 81 = .ok (.iaload, 1) := by decide +kernel
theorem dX7_comes_82 : decode cX7_comes 82 = .ok (.iconst 1, 1) := by decide +kernel
theorem dX7_comes_83 : decode cX7_comes 83 = .ok (.iadd, 1) := by decide +kernel
theorem dX7_comes_84 : decode cX7_comes 84 = .ok (.iastore, 1) := by decide +kernel
theorem dX7_comes_85 : decode cX7_comes 85 = .ok (.aload_n 0, 1) := by decide +kernel
theorem dX7_comes_86 : decode cX7_comes 86 = .ok (.getfield 7, 3) := by decide +kernel
theorem dX7_comes_89 : decode cX7_comes 89 = .ok (.iconst 5, 1) := by decide +kernel
theorem dX7_comes_90 : decode cX7_comes 90 = .ok (.iaload, 1) := by decide +kernel
theorem dX7_comes_91 : decode cX7_comes 91 = .ok (.iconst 1, 1) := by decide +kernel
theorem dX7_comes_92 : decode cX7_comes 92 = .ok (.isub, 1) := by decide +kernel
theorem dX7_comes_93 : decode cX7_comes 93 = .ok (.ireturn, 1) := by decide +kernel
theorem dX7_sleeps_0 : decode cX7_sleeps 0 = .ok (.aload_n 0, 1) := by decide +kernel
theorem dX7_sleeps_1 : decode cX7_sleeps 1 = .ok (.getfield 7, 3) := by decide +kernel
theorem dX7_sleeps_4 : decode cX7_sleeps 4 = .ok (.iconst 0, 1) := by decide +kernel
theorem dX7_sleeps_5 : decode cX7_sleeps 5 = .ok (.iload_n 1, 1) := by decide +kernel
theorem dX7_sleeps_6 : decode cX7_sleeps 6 = .ok (.invokestatic 28, 3) := by decide +kernel
theorem dX7_sleeps_9 : decode cX7_sleeps 9 = .ok (.iconst 2, 1) := by decide +kernel
theorem dX7_sleeps_10 : decode cX7_sleeps 10 = .ok (.iadd, 1) := by decide +kernel
theorem dX7_sleeps_11 : decode cX7_sleeps 11 = .ok (.aload_n 0, 1) := by decide +kernel
theorem dX7_sleeps_12 : decode cX7_sleeps 12 = .ok (.getfield 7, 3) := by decide +kernel
theorem dX7_sleeps_15 : decode cX7_sleeps 15 = .ok (.iconst 4, 1) := by decide +kernel
theorem dX7_sleeps_16 : decode cX7_sleeps 16 = .ok (.iaload, 1) := by decide +kernel
theorem dX7_sleeps_17 : decode cX7_sleeps 17 = .ok (.aload_n 0, 1) := by decide +kernel
theorem dX7_sleeps_18 : decode cX7_sleeps 18 = .ok (.getfield 7, 3) := by decide +kernel
theorem dX7_sleeps_21 : decode cX7_sleeps 21 = .ok (.iconst 2, 1) := by decide +kernel
theorem dX7_sleeps_22 : decode cX7_sleeps 22 = .ok (.iaload, 1) := by decide +kernel
theorem dX7_sleeps_23 : decode cX7_sleeps 23 = .ok (.iadd, 1) := by decide +kernel
theorem dX7_sleeps_24 : decode cX7_sleeps 24 = .ok (.iastore, 1) := by decide +kernel
theorem dX7_sleeps_25 : decode cX7_sleeps 25 = .ok (.aload_n 0, 1) := by decide +kernel
theorem dX7_sleeps_26 : decode cX7_sleeps 26 = .ok (.getfield 7, 3) := by decide +kernel
theorem dX7_sleeps_29 : decode cX7_sleeps 29 = .ok (.iconst 4, 1) := by decide +kernel
theorem dX7_sleeps_30 : decode cX7_sleeps 30 = .ok (.iaload, 1) := by decide +kernel
theorem dX7_sleeps_31 : decode cX7_sleeps 31 = .ok (.aload_n 0, 1) := by decide +kernel
theorem dX7_sleeps_32 : decode cX7_sleeps 32 = .ok (.getfield 7, 3) := by decide +kernel
theorem dX7_sleeps_35 : decode cX7_sleeps 35 = .ok (.iconst 2, 1) := by decide +kernel
theorem dX7_sleeps_36 : decode cX7_sleeps 36 = .ok (.iaload, 1) := by decide +kernel
theorem dX7_sleeps_37 : decode cX7_sleeps 37 = .ok (.iadd, 1) := by decide +kernel
theorem dX7_sleeps_38 : decode cX7_sleeps 38 = .ok (.ireturn, 1) := by decide +kernel
theorem dX7_snips_0 : decode cX7_snips 0 = .ok (.aload_n 0, 1) := by decide +kernel
theorem dX7_snips_1 : decode cX7_snips 1 = .ok (.getfield 7, 3) := by decide +kernel
theorem dX7_snips_4 : decode cX7_snips 4 = .ok (.bipush 8, 2) := by decide +kernel
theorem dX7_snips_6 : decode cX7_snips 6 = .ok (.iaload, 1) := by decide +kernel
theorem dX7_snips_7 : decode cX7_snips 7 = .ok (.istore_n 3, 1) := by decide +kernel
theorem dX7_snips_8 : decode cX7_snips 8 = .ok (.iconst 0, 1) := by decide +kernel
theorem dX7_snips_9 : decode cX7_snips 9 = .ok (.istore 4, 2) := by decide +kernel
theorem dX7_snips_11 : decode cX7_snips 11 = .ok (.iload 4, 2) := by decide +kernel
theorem dX7_snips_13 : decode cX7_snips 13 = .ok (.aload_n 0, 1) := by decide +kernel
theorem dX7_snips_14 : decode cX7_snips 14 = .ok (.getfield 7, 3) := by decide +kernel
theorem dX7_snips_17 : decode cX7_snips 17 = .ok (.bipush 8, 2) := by decide +kernel
theorem dX7_snips_19 : decode cX7_snips 19 = .ok (.iaload, 1) := by decide +kernel
theorem dX7_snips_20 : decode cX7_snips 20 = .ok (.if_icmp .ge 31, 3) := by decide +kernel
theorem dX7_snips_23 : decode cX7_snips 23 = .ok (.aload_n 0, 1) := by decide +kernel
theorem dX7_snips_24 : decode cX7_snips 24 = .ok (.iconst 0, 1) := by decide +kernel
theorem dX7_snips_25 : decode cX7_snips 25 = .ok (.iload 4, 2) := by decide +kernel
theorem dX7_snips_27 : decode cX7_snips 27 = .ok (.iload_n 1, 1) := by decide +kernel
theorem dX7_snips_28 : decode cX7_snips 28 = .ok (.invokevirtual 32, 3) := by decide +kernel
theorem dX7_snips_31 : decode cX7_snips 31 = .ok (.iload_n 2, 1) := by decide +kernel
theorem dX7_snips_32 : decode cX7_snips 32 = .ok (.if_icmp .ne 13, 3) := by decide +kernel
theorem dX7_snips_35 : decode cX7_snips 35 = .ok (.aload_n 0, 1) := by decide +kernel
theorem dX7_snips_36 : decode cX7_snips 36 = .ok (.iconst 0, 1) := by decide +kernel
theorem dX7_snips_37 : decode cX7_snips 37 = .ok (.iload 4, 2) := by decide +kernel
theorem dX7_snips_39 : decode cX7_snips 39 = .ok (.invokevirtual 43, 3) := by decide +kernel
theorem dX7_snips_42 : decode cX7_snips 42 = .ok (.goto (-31), 3) := by decide +kernel
theorem dX7_snips_45 : decode cX7_snips 45 = .ok (.iinc 4 1, 3) := by decide +kernel
theorem dX7_snips_48 : decode cX7_snips 48 = .ok (.goto (-37), 3) := by decide +kernel
theorem dX7_snips_51 : decode cX7_snips 51 = .ok (.aload_n 0, 1) := by decide +kernel
theorem dX7_snips_52 : decode cX7_snips 52 = .ok (.getfield 7, 3) := by decide +kernel
theorem dX7_snips_55 : decode cX7_snips 55 = .ok (.iconst 0, 1) := by decide +kernel
theorem dX7_snips_56 : decode cX7_snips 56 = .ok (.iload_n 2, 1) := by decide +kernel
theorem dX7_snips_57 : decode cX7_snips 57 = .ok (.invokestatic 28, 3) := by decide +kernel
theorem dX7_snips_60 : decode cX7_snips 60 = .ok (.bipush 6, 2) := by decide +kernel
theorem dX7_snips_62 : decode cX7_snips 62 = .ok (.iadd, 1) := by decide +kernel
theorem dX7_snips_63 : decode cX7_snips 63 = .ok (.dup2, 1) := by decide +kernel
theorem dX7_snips_64 : decode cX7_snips 64 = .ok (.iaload, 1) := by decide +kernel
theorem dX7_snips_65 : decode cX7_snips 65 = .ok (.iload_n 3, 1) := by decide +kernel
theorem dX7_snips_66 : decode cX7_snips 66 = .ok (.aload_n 0, 1) := by decide +kernel
theorem dX7_snips_67 : decode cX7_snips 67 = .ok (.getfield 7, 3) := by decide +kernel
theorem dX7_snips_70 : decode cX7_snips 70 = .ok (.bipush 8, 2) := by decide +kernel
theorem dX7_snips_72 : decode cX7_snips 72 = .ok (.iaload, 1) := by decide +kernel
theorem dX7_snips_73 : decode cX7_snips 73 = .ok (.isub, 1) := by decide +kernel
theorem dX7_snips_74 : decode cX7_snips 74 = .ok (.iadd, 1) := by decide +kernel
theorem dX7_snips_75 : decode cX7_snips 75 = .ok (.iastore, 1) := by decide +kernel
theorem dX7_snips_76 : decode cX7_snips 76 = .ok (.iload_n 3, 1) := by decide +kernel
theorem dX7_snips_77 : decode cX7_snips 77 = .ok (.aload_n 0, 1) := by decide +kernel
theorem dX7_snips_78 : decode cX7_snips 78 = .ok (.getfield 7, 3) := by decide +kernel
theorem dX7_snips_81 : decode cX7_snips 81 = .ok (.bipush 8, 2) := by decide +kernel
theorem dX7_snips_83 : decode cX7_snips 83 = .ok (.iaload, 1) := by decide +kernel
theorem dX7_snips_84 : decode cX7_snips 84 = .ok (.isub, 1) := by decide +kernel
theorem dX7_snips_85 : decode cX7_snips 85 = .ok (.ireturn, 1) := by decide +kernel
theorem dX7_plans_0 : decode cX7_plans 0 = .ok (.aload_n 0, 1) := by decide +kernel
theorem dX7_plans_1 : decode cX7_plans 1 = .ok (.getfield 7, 3) := by decide +kernel
theorem dX7_plans_4 : decode cX7_plans 4 = .ok (.iconst 4, 1) := by decide +kernel
theorem dX7_plans_5 : decode cX7_plans 5 = .ok (.iaload, 1) := by decide +kernel
theorem dX7_plans_6 : decode cX7_plans 6 = .ok (.iload_n 1, 1) := by decide +kernel
theorem dX7_plans_7 : decode cX7_plans 7 = .ok (.iadd, 1) := by decide +kernel
theorem dX7_plans_8 : decode cX7_plans 8 = .ok (.istore 4, 2) := by decide +kernel
theorem dX7_plans_10 : decode cX7_plans 10 = .ok (.aload_n 0, 1) := by decide +kernel
theorem dX7_plans_11 : decode cX7_plans 11 = .ok (.getfield 7, 3) := by decide +kernel
theorem dX7_plans_14 : decode cX7_plans 14 = .ok (.bipush 9, 2) := by decide +kernel
theorem dX7_plans_16 : decode cX7_plans 16 = .ok (.iaload, 1) := by decide +kernel
theorem dX7_plans_17 : decode cX7_plans 17 = .ok (.istore 5, 2) := by decide +kernel
theorem dX7_plans_19 : decode cX7_plans 19 = .ok (.iload 5, 2) := by decide +kernel
theorem dX7_plans_21 : decode cX7_plans 21 = .ok (.ifCond .le 109, 3) := by decide +kernel
theorem dX7_plans_24 : decode cX7_plans 24 = .ok (.aload_n 0, 1) := by decide +kernel
theorem dX7_plans_25 : decode cX7_plans 25 = .ok (.getfield 7, 3) := by decide +kernel
theorem dX7_plans_28 : decode cX7_plans 28 = .ok (.iconst 0, 1) := by decide +kernel
theorem dX7_plans_29 : decode cX7_plans 29 = .ok (.iload 5, 2) := by decide +kernel
theorem dX7_plans_31 : decode cX7_plans 31 = .ok (.iconst 1, 1) := by decide +kernel
theorem dX7_plans_32 : decode cX7_plans 32 = .ok (.isub, 1) := by decide +kernel
theorem dX7_plans_33 : decode cX7_plans 33 = .ok (.invokestatic 87, 3) := by decide +kernel
theorem dX7_plans_36 : decode cX7_plans 36 = .ok (.iaload, 1) := by decide +kernel
theorem dX7_plans_37 : decode cX7_plans 37 = .ok (.iload 4, 2) := by decide +kernel
theorem dX7_plans_39 : decode cX7_plans 39 = .ok (.if_icmp .gt 40, 3) := by decide +kernel
theorem dX7_plans_42 : decode cX7_plans 42 = .ok (.aload_n 0, 1) := by decide +kernel
theorem dX7_plans_43 : decode cX7_plans 43 = .ok (.getfield 7, 3) := by decide +kernel
theorem dX7_plans_46 : decode cX7_plans 46 = .ok (.iconst 0, 1) := by decide +kernel
theorem dX7_plans_47 : decode cX7_plans 47 = .ok (.iload 5, 2) := by decide +kernel
theorem dX7_plans_49 : decode cX7_plans 49 = .ok (.iconst 1, 1) := by decide +kernel
theorem dX7_plans_50 : decode cX7_plans 50 = .ok (.isub, 1) := by decide +kernel
theorem dX7_plans_51 : decode cX7_plans 51 = .ok (.invokestatic 87, 3) := by decide +kernel
theorem dX7_plans_54 : decode cX7_plans 54 = .ok (.iaload, 1) := by decide +kernel
theorem dX7_plans_55 : decode cX7_plans 55 = .ok (.iload 4, 2) := by decide +kernel
theorem dX7_plans_57 : decode cX7_plans 57 = .ok (.if_icmp .ne 73, 3) := by decide +kernel
theorem dX7_plans_60 : decode cX7_plans 60 = .ok (.aload_n 0, 1) := by decide +kernel
theorem dX7_plans_61 : decode cX7_plans 61 = .ok (.getfield 7, 3) := by decide +kernel
theorem dX7_plans_64 : decode cX7_plans 64 = .ok (.iconst 0, 1) := by decide +kernel
theorem dX7_plans_65 : decode cX7_plans 65 = .ok (.iload 5, 2) := by decide +kernel
theorem dX7_plans_67 : decode cX7_plans 67 = .ok (.iconst 1, 1) := by decide +kernel
theorem dX7_plans_68 : decode cX7_plans 68 = .ok (.isub, 1) := by decide +kernel
theorem dX7_plans_69 : decode cX7_plans 69 = .ok (.invokestatic 87, 3) := by decide +kernel
theorem dX7_plans_72 : decode cX7_plans 72 = .ok (.iconst 1, 1) := by decide +kernel
theorem dX7_plans_73 : decode cX7_plans 73 = .ok (.iadd, 1) := by decide +kernel
theorem dX7_plans_74 : decode cX7_plans 74 = .ok (.iaload, 1) := by decide +kernel
theorem dX7_plans_75 : decode cX7_plans 75 = .ok (.iload_n 2, 1) := by decide +kernel
theorem dX7_plans_76 : decode cX7_plans 76 = .ok (.if_icmp .le 54, 3) := by decide +kernel
theorem dX7_plans_79 : decode cX7_plans 79 = .ok (.iconst 0, 1) := by decide +kernel
theorem dX7_plans_80 : decode cX7_plans 80 = .ok (.istore 6, 2) := by decide +kernel
theorem dX7_plans_82 : decode cX7_plans 82 = .ok (.iload 6, 2) := by decide +kernel
theorem dX7_plans_84 : decode cX7_plans 84 = .ok (.iconst 3, 1) := by decide +kernel
theorem dX7_plans_85 : decode cX7_plans 85 = .ok (.if_icmp .ge 39, 3) := by decide +kernel
theorem dX7_plans_88 : decode cX7_plans 88 = .ok (.aload_n 0, 1) := by decide +kernel
theorem dX7_plans_89 : decode cX7_plans 89 = .ok (.getfield 7, 3) := by decide +kernel
theorem dX7_plans_92 : decode cX7_plans 92 = .ok (.iconst 0, 1) := by decide +kernel
theorem dX7_plans_93 : decode cX7_plans 93 = .ok (.iload 5, 2) := by decide +kernel
theorem dX7_plans_95 : decode cX7_plans 95 = .ok (.invokestatic 87, 3) := by decide +kernel
theorem dX7_plans_98 : decode cX7_plans 98 = .ok (.iload 6, 2) := by decide +kernel
theorem dX7_plans_100 : decode cX7_plans 100 = .ok (.iadd, 1) := by decide +kernel
theorem dX7_plans_101 : decode cX7_plans 101 = .ok (.aload_n 0, 1) := by decide +kernel
theorem dX7_plans_102 : decode cX7_plans 102 = .ok (.getfield 7, 3) := by decide +kernel
theorem dX7_plans_105 : decode cX7_plans 105 = .ok (.iconst 0, 1) := by decide +kernel
theorem dX7_plans_106 : decode cX7_plans 106 = .ok (.iload 5, 2) := by decide +kernel
theorem dX7_plans_108 : decode cX7_plans 108 = .ok (.iconst 1, 1) := by decide +kernel
theorem dX7_plans_109 : decode cX7_plans 109 = .ok (.isub, 1) := by decide +kernel
theorem dX7_plans_110 : decode cX7_plans 110 = .ok (.invokestatic 87, 3) := by decide +kernel
theorem dX7_plans_113 : decode cX7_plans 113 = .ok (.iload 6, 2) := by decide +kernel
theorem dX7_plans_115 : decode cX7_plans 115 = .ok (.iadd, 1) := by decide +kernel
theorem dX7_plans_116 : decode cX7_plans 116 = .ok (.iaload, 1) := by decide +kernel
theorem dX7_plans_117 : decode cX7_plans 117 = .ok (.iastore, 1) := by decide +kernel
theorem dX7_plans_118 : decode cX7_plans 118 = .ok (.iinc 6 1, 3) := by decide +kernel
theorem dX7_plans_121 : decode cX7_plans 121 = .ok (.goto (-39), 3) := by decide +kernel
theorem dX7_plans_124 : decode cX7_plans 124 = .ok (.iinc 5 (-1), 3) := by decide +kernel
theorem dX7_plans_127 : decode cX7_plans 127 = .ok (.goto (-108), 3) := by decide +kernel
theorem dX7_plans_130 : decode cX7_plans 130 = .ok (.aload_n 0, 1) := by decide +kernel
theorem dX7_plans_131 : decode cX7_plans 131 = .ok (.getfield 7, 3) := by decide +kernel
theorem dX7_plans_134 : decode cX7_plans 134 = .ok (.iconst 0, 1) := by decide +kernel
theorem dX7_plans_135 : decode cX7_plans 135 = .ok (.iload 5, 2) := by decide +kernel
theorem dX7_plans_137 : decode cX7_plans 137 = .ok (.invokestatic 87, 3) := by decide +kernel
theorem dX7_plans_140 : decode cX7_plans 140 = .ok (.iload 4, 2) := by decide +kernel
theorem dX7_plans_142 : decode cX7_plans 142 = .ok (.iastore, 1) := by decide +kernel
theorem dX7_plans_143 : decode cX7_plans 143 = .ok (.aload_n 0, 1) := by decide +kernel
theorem dX7_plans_144 : decode cX7_plans 144 = .ok (.getfield 7, 3) := by decide +kernel
theorem dX7_plans_147 : decode cX7_plans 147 = .ok (.iconst 0, 1) := by decide +kernel
theorem dX7_plans_148 : decode cX7_plans 148 = .ok (.iload 5, 2) := by decide +kernel
theorem dX7_plans_150 : decode cX7_plans 150 = .ok (.invokestatic 87, 3) := by decide +kernel
theorem dX7_plans_153 : decode cX7_plans 153 = .ok (.iconst 1, 1) := by decide +kernel
theorem dX7_plans_154 : decode cX7_plans 154 = .ok (.iadd, 1) := by decide +kernel
theorem dX7_plans_155 : decode cX7_plans 155 = .ok (.iload_n 2, 1) := by decide +kernel
theorem dX7_plans_156 : decode cX7_plans 156 = .ok (.iastore, 1) := by decide +kernel
theorem dX7_plans_157 : decode cX7_plans 157 = .ok (.aload_n 0, 1) := by decide +kernel
theorem dX7_plans_158 : decode cX7_plans 158 = .ok (.getfield 7, 3) := by decide +kernel
theorem dX7_plans_161 : decode cX7_plans 161 = .ok (.iconst 0, 1) := by decide +kernel
theorem dX7_plans_162 : decode cX7_plans 162 = .ok (.iload 5, 2) := by decide +kernel
theorem dX7_plans_164 : decode cX7_plans 164 = .ok (.invokestatic 87, 3) := by decide +kernel
theorem dX7_plans_167 : decode cX7_plans 167 = .ok (.iconst 2, 1) := by decide +kernel
theorem dX7_plans_168 : decode cX7_plans 168 = .ok (.iadd, 1) := by decide +kernel
theorem dX7_plans_169 : decode cX7_plans 169 = .ok (.iload_n 3, 1) := by decide +kernel
theorem dX7_plans_170 : decode cX7_plans 170 = .ok (.iastore, 1) := by decide +kernel
theorem dX7_plans_171 : decode cX7_plans 171 = .ok (.aload_n 0, 1) := by decide +kernel
theorem dX7_plans_172 : decode cX7_plans 172 = .ok (.getfield 7, 3) := by decide +kernel
theorem dX7_plans_175 : decode cX7_plans 175 = .ok (.bipush 9, 2) := by decide +kernel
theorem dX7_plans_177 : decode cX7_plans 177 = .ok (.dup2, 1) := by decide +kernel
theorem dX7_plans_178 : decode cX7_plans 178 = .ok (.iaload, 1) := by decide +kernel
theorem dX7_plans_179 : decode cX7_plans 179 = .ok (.iconst 1, 1) := by decide +kernel
theorem dX7_plans_180 : decode cX7_plans 180 = .ok (.iadd, 1) := by decide +kernel
theorem dX7_plans_181 : decode cX7_plans 181 = .ok (.iastore, 1) := by decide +kernel
theorem dX7_plans_182 : decode cX7_plans 182 = .ok (.aload_n 0, 1) := by decide +kernel
theorem dX7_plans_183 : decode cX7_plans 183 = .ok (.getfield 7, 3) := by decide +kernel
theorem dX7_plans_186 : decode cX7_plans 186 = .ok (.bipush 9, 2) := by decide +kernel
theorem dX7_plans_188 : decode cX7_plans 188 = .ok (.iaload, 1) := by decide +kernel
theorem dX7_plans_189 : decode cX7_plans 189 = .ok (.ireturn, 1) := by decide +kernel
theorem dX7_isValue_0 : decode cX7_isValue 0 = .ok (.iload_n 0, 1) := by decide +kernel
theorem dX7_isValue_1 : decode cX7_isValue 1 = .ok (.tableswitch 73 0 3 #[31, 41, 51, 61], 31) := by decide +kernel
theorem dX7_isValue_32 : decode cX7_isValue 32 = .ok (.iload_n 1, 1) := by decide +kernel
theorem dX7_isValue_33 : decode cX7_isValue 33 = .ok (.i2l, 1) := by decide +kernel
theorem dX7_isValue_34 : decode cX7_isValue 34 = .ok (.lconst 1, 1) := by decide +kernel
theorem dX7_isValue_35 : decode cX7_isValue 35 = .ok (.ldc2_w 118, 3) := by decide +kernel
theorem dX7_isValue_38 : decode cX7_isValue 38 = .ok (.invokestatic 70, 3) := by decide +kernel
theorem dX7_isValue_41 : decode cX7_isValue 41 = .ok (.ireturn, 1) := by decide +kernel
theorem dX7_isValue_42 : decode cX7_isValue 42 = .ok (.iload_n 1, 1) := by decide +kernel
theorem dX7_isValue_43 : decode cX7_isValue 43 = .ok (.i2l, 1) := by decide +kernel
theorem dX7_isValue_44 : decode cX7_isValue 44 = .ok (.lconst 0, 1) := by decide +kernel
theorem dX7_isValue_45 : decode cX7_isValue 45 = .ok (.ldc2_w 68, 3) := by decide +kernel
theorem dX7_isValue_48 : decode cX7_isValue 48 = .ok (.invokestatic 70, 3) := by decide +kernel
theorem dX7_isValue_51 : decode cX7_isValue 51 = .ok (.ireturn, 1) := by decide +kernel
theorem dX7_isValue_52 : decode cX7_isValue 52 = .ok (.iload_n 1, 1) := by decide +kernel
theorem dX7_isValue_53 : decode cX7_isValue 53 = .ok (.i2l, 1) := by decide +kernel
theorem dX7_isValue_54 : decode cX7_isValue 54 = .ok (.lconst 1, 1) := by decide +kernel
theorem dX7_isValue_55 : decode cX7_isValue 55 = .ok (.ldc2_w 120, 3) := by decide +kernel
theorem dX7_isValue_58 : decode cX7_isValue 58 = .ok (.invokestatic 70, 3) := by decide +kernel
theorem dX7_isValue_61 : decode cX7_isValue 61 = .ok (.ireturn, 1) := by decide +kernel
theorem dX7_isValue_62 : decode cX7_isValue 62 = .ok (.iload_n 1, 1) := by decide +kernel
theorem dX7_isValue_63 : decode cX7_isValue 63 = .ok (.i2l, 1) := by decide +kernel
theorem dX7_isValue_64 : decode cX7_isValue 64 = .ok (.ldc2_w 122, 3) := by decide +kernel
theorem dX7_isValue_67 : decode cX7_isValue 67 = .ok (.ldc2_w 124, 3) := by decide +kernel
theorem dX7_isValue_70 : decode cX7_isValue 70 = .ok (.invokestatic 70, 3) := by decide +kernel
theorem dX7_isValue_73 : decode cX7_isValue 73 = .ok (.ireturn, 1) := by decide +kernel
theorem dX7_isValue_74 : decode cX7_isValue 74 = .ok (.iconst 0, 1) := by decide +kernel
theorem dX7_isValue_75 : decode cX7_isValue 75 = .ok (.ireturn, 1) := by decide +kernel
theorem dX7_set_0 : decode cX7_set 0 = .ok (.iload_n 1, 1) := by decide +kernel
theorem dX7_set_1 : decode cX7_set 1 = .ok (.iload_n 2, 1) := by decide +kernel
theorem dX7_set_2 : decode cX7_set 2 = .ok (.invokestatic 126, 3) := by decide +kernel
theorem dX7_set_5 : decode cX7_set 5 = .ok (.ifCond .ne 6, 3) := by decide +kernel
theorem dX7_set_8 : decode cX7_set 8 = .ok (.bipush (-2), 2) := by decide +kernel
theorem dX7_set_10 : decode cX7_set 10 = .ok (.ireturn, 1) := by decide +kernel
theorem dX7_set_11 : decode cX7_set 11 = .ok (.aload_n 0, 1) := by decide +kernel
theorem dX7_set_12 : decode cX7_set 12 = .ok (.invokevirtual 129, 3) := by decide +kernel
theorem dX7_set_15 : decode cX7_set 15 = .ok (.aload_n 0, 1) := by decide +kernel
theorem dX7_set_16 : decode cX7_set 16 = .ok (.getfield 7, 3) := by decide +kernel
theorem dX7_set_19 : decode cX7_set 19 = .ok (.iload_n 1, 1) := by decide +kernel
theorem dX7_set_20 : decode cX7_set 20 = .ok (.iaload, 1) := by decide +kernel
theorem dX7_set_21 : decode cX7_set 21 = .ok (.istore_n 3, 1) := by decide +kernel
theorem dX7_set_22 : decode cX7_set 22 = .ok (.aload_n 0, 1) := by decide +kernel
theorem dX7_set_23 : decode cX7_set 23 = .ok (.getfield 7, 3) := by decide +kernel
theorem dX7_set_26 : decode cX7_set 26 = .ok (.iload_n 1, 1) := by decide +kernel
theorem dX7_set_27 : decode cX7_set 27 = .ok (.iload_n 2, 1) := by decide +kernel
theorem dX7_set_28 : decode cX7_set 28 = .ok (.iastore, 1) := by decide +kernel
theorem dX7_set_29 : decode cX7_set 29 = .ok (.iload_n 3, 1) := by decide +kernel
theorem dX7_set_30 : decode cX7_set 30 = .ok (.ireturn, 1) := by decide +kernel
theorem dX7_kitten_0 : decode cX7_kitten 0 = .ok (.aload_n 0, 1) := by decide +kernel
theorem dX7_kitten_1 : decode cX7_kitten 1 = .ok (.iload_n 1, 1) := by decide +kernel
theorem dX7_kitten_2 : decode cX7_kitten 2 = .ok (.invokevirtual 132, 3) := by decide +kernel
theorem dX7_kitten_5 : decode cX7_kitten 5 = .ok (.istore_n 2, 1) := by decide +kernel
theorem dX7_kitten_6 : decode cX7_kitten 6 = .ok (.iload_n 2, 1) := by decide +kernel
theorem dX7_kitten_7 : decode cX7_kitten 7 = .ok (.ifCond .eq 5, 3) := by decide +kernel
theorem dX7_kitten_10 : decode cX7_kitten 10 = .ok (.iload_n 2, 1) := by decide +kernel
theorem dX7_kitten_11 : decode cX7_kitten 11 = .ok (.ireturn, 1) := by decide +kernel
theorem dX7_kitten_12 : decode cX7_kitten 12 = .ok (.aload_n 0, 1) := by decide +kernel
theorem dX7_kitten_13 : decode cX7_kitten 13 = .ok (.invokevirtual 129, 3) := by decide +kernel
theorem dX7_kitten_16 : decode cX7_kitten 16 = .ok (.aload_n 0, 1) := by decide +kernel
theorem dX7_kitten_17 : decode cX7_kitten 17 = .ok (.iload_n 1, 1) := by decide +kernel
theorem dX7_kitten_18 : decode cX7_kitten 18 = .ok (.invokevirtual 135, 3) := by decide +kernel
theorem dX7_kitten_21 : decode cX7_kitten 21 = .ok (.ireturn, 1) := by decide +kernel
theorem dX7_leap_0 : decode cX7_leap 0 = .ok (.aload_n 0, 1) := by decide +kernel
theorem dX7_leap_1 : decode cX7_leap 1 = .ok (.iload_n 1, 1) := by decide +kernel
theorem dX7_leap_2 : decode cX7_leap 2 = .ok (.iload_n 2, 1) := by decide +kernel
theorem dX7_leap_3 : decode cX7_leap 3 = .ok (.invokevirtual 138, 3) := by decide +kernel
theorem dX7_leap_6 : decode cX7_leap 6 = .ok (.istore_n 3, 1) := by decide +kernel
theorem dX7_leap_7 : decode cX7_leap 7 = .ok (.iload_n 3, 1) := by decide +kernel
theorem dX7_leap_8 : decode cX7_leap 8 = .ok (.ifCond .eq 5, 3) := by decide +kernel
theorem dX7_leap_11 : decode cX7_leap 11 = .ok (.iload_n 3, 1) := by decide +kernel
theorem dX7_leap_12 : decode cX7_leap 12 = .ok (.ireturn, 1) := by decide +kernel
theorem dX7_leap_13 : decode cX7_leap 13 = .ok (.aload_n 0, 1) := by decide +kernel
theorem dX7_leap_14 : decode cX7_leap 14 = .ok (.invokevirtual 129, 3) := by decide +kernel
theorem dX7_leap_17 : decode cX7_leap 17 = .ok (.aload_n 0, 1) := by decide +kernel
theorem dX7_leap_18 : decode cX7_leap 18 = .ok (.iconst 0, 1) := by decide +kernel
theorem dX7_leap_19 : decode cX7_leap 19 = .ok (.iload_n 1, 1) := by decide +kernel
theorem dX7_leap_20 : decode cX7_leap 20 = .ok (.iload_n 2, 1) := by decide +kernel
theorem dX7_leap_21 : decode cX7_leap 21 = .ok (.invokevirtual 93, 3) := by decide +kernel
theorem dX7_leap_24 : decode cX7_leap 24 = .ok (.ireturn, 1) := by decide +kernel
theorem dX7_nap_0 : decode cX7_nap 0 = .ok (.aload_n 0, 1) := by decide +kernel
theorem dX7_nap_1 : decode cX7_nap 1 = .ok (.iload_n 1, 1) := by decide +kernel
theorem dX7_nap_2 : decode cX7_nap 2 = .ok (.invokevirtual 141, 3) := by decide +kernel
theorem dX7_nap_5 : decode cX7_nap 5 = .ok (.istore_n 2, 1) := by decide +kernel
theorem dX7_nap_6 : decode cX7_nap 6 = .ok (.iload_n 2, 1) := by decide +kernel
theorem dX7_nap_7 : decode cX7_nap 7 = .ok (.ifCond .eq 5, 3) := by decide +kernel
theorem dX7_nap_10 : decode cX7_nap 10 = .ok (.iload_n 2, 1) := by decide +kernel
theorem dX7_nap_11 : decode cX7_nap 11 = .ok (.ireturn, 1) := by decide +kernel
theorem dX7_nap_12 : decode cX7_nap 12 = .ok (.aload_n 0, 1) := by decide +kernel
theorem dX7_nap_13 : decode cX7_nap 13 = .ok (.invokevirtual 129, 3) := by decide +kernel
theorem dX7_nap_16 : decode cX7_nap 16 = .ok (.aload_n 0, 1) := by decide +kernel
theorem dX7_nap_17 : decode cX7_nap 17 = .ok (.iload_n 1, 1) := by decide +kernel
theorem dX7_nap_18 : decode cX7_nap 18 = .ok (.invokevirtual 144, 3) := by decide +kernel
theorem dX7_nap_21 : decode cX7_nap 21 = .ok (.ireturn, 1) := by decide +kernel
theorem dX7_snip_0 : decode cX7_snip 0 = .ok (.aload_n 0, 1) := by decide +kernel
theorem dX7_snip_1 : decode cX7_snip 1 = .ok (.iload_n 1, 1) := by decide +kernel
theorem dX7_snip_2 : decode cX7_snip 2 = .ok (.iload_n 2, 1) := by decide +kernel
theorem dX7_snip_3 : decode cX7_snip 3 = .ok (.invokevirtual 147, 3) := by decide +kernel
theorem dX7_snip_6 : decode cX7_snip 6 = .ok (.istore_n 3, 1) := by decide +kernel
theorem dX7_snip_7 : decode cX7_snip 7 = .ok (.iload_n 3, 1) := by decide +kernel
theorem dX7_snip_8 : decode cX7_snip 8 = .ok (.ifCond .eq 5, 3) := by decide +kernel
theorem dX7_snip_11 : decode cX7_snip 11 = .ok (.iload_n 3, 1) := by decide +kernel
theorem dX7_snip_12 : decode cX7_snip 12 = .ok (.ireturn, 1) := by decide +kernel
theorem dX7_snip_13 : decode cX7_snip 13 = .ok (.aload_n 0, 1) := by decide +kernel
theorem dX7_snip_14 : decode cX7_snip 14 = .ok (.invokevirtual 129, 3) := by decide +kernel
theorem dX7_snip_17 : decode cX7_snip 17 = .ok (.aload_n 0, 1) := by decide +kernel
theorem dX7_snip_18 : decode cX7_snip 18 = .ok (.iload_n 1, 1) := by decide +kernel
theorem dX7_snip_19 : decode cX7_snip 19 = .ok (.iload_n 2, 1) := by decide +kernel
theorem dX7_snip_20 : decode cX7_snip 20 = .ok (.invokevirtual 150, 3) := by decide +kernel
theorem dX7_snip_23 : decode cX7_snip 23 = .ok (.ireturn, 1) := by decide +kernel
theorem dX7_plan_0 : decode cX7_plan 0 = .ok (.aload_n 0, 1) := by decide +kernel
theorem dX7_plan_1 : decode cX7_plan 1 = .ok (.iload_n 1, 1) := by decide +kernel
theorem dX7_plan_2 : decode cX7_plan 2 = .ok (.iload_n 2, 1) := by decide +kernel
theorem dX7_plan_3 : decode cX7_plan 3 = .ok (.iload_n 3, 1) := by decide +kernel
theorem dX7_plan_4 : decode cX7_plan 4 = .ok (.invokevirtual 153, 3) := by decide +kernel
theorem dX7_plan_7 : decode cX7_plan 7 = .ok (.istore 4, 2) := by decide +kernel
theorem dX7_plan_9 : decode cX7_plan 9 = .ok (.iload 4, 2) := by decide +kernel
theorem dX7_plan_11 : decode cX7_plan 11 = .ok (.ifCond .eq 6, 3) := by decide +kernel
theorem dX7_plan_14 : decode cX7_plan 14 = .ok (.iload 4, 2) := by decide +kernel
theorem dX7_plan_16 : decode cX7_plan 16 = .ok (.ireturn, 1) := by decide +kernel
theorem dX7_plan_17 : decode cX7_plan 17 = .ok (.aload_n 0, 1) := by decide +kernel
theorem dX7_plan_18 : decode cX7_plan 18 = .ok (.invokevirtual 129, 3) := by decide +kernel
theorem dX7_plan_21 : decode cX7_plan 21 = .ok (.aload_n 0, 1) := by decide +kernel
theorem dX7_plan_22 : decode cX7_plan 22 = .ok (.iload_n 1, 1) := by decide +kernel
theorem dX7_plan_23 : decode cX7_plan 23 = .ok (.iload_n 2, 1) := by decide +kernel
theorem dX7_plan_24 : decode cX7_plan 24 = .ok (.iload_n 3, 1) := by decide +kernel
theorem dX7_plan_25 : decode cX7_plan 25 = .ok (.invokevirtual 156, 3) := by decide +kernel
theorem dX7_plan_28 : decode cX7_plan 28 = .ok (.ireturn, 1) := by decide +kernel
theorem dX7_pass_0 : decode cX7_pass 0 = .ok (.aload_n 0, 1) := by decide +kernel
theorem dX7_pass_1 : decode cX7_pass 1 = .ok (.iload_n 1, 1) := by decide +kernel
theorem dX7_pass_2 : decode cX7_pass 2 = .ok (.invokevirtual 159, 3) := by decide +kernel
theorem dX7_pass_5 : decode cX7_pass 5 = .ok (.istore_n 2, 1) := by decide +kernel
theorem dX7_pass_6 : decode cX7_pass 6 = .ok (.iload_n 2, 1) := by decide +kernel
theorem dX7_pass_7 : decode cX7_pass 7 = .ok (.ifCond .eq 5, 3) := by decide +kernel
theorem dX7_pass_10 : decode cX7_pass 10 = .ok (.iload_n 2, 1) := by decide +kernel
theorem dX7_pass_11 : decode cX7_pass 11 = .ok (.ireturn, 1) := by decide +kernel
theorem dX7_pass_12 : decode cX7_pass 12 = .ok (.aload_n 0, 1) := by decide +kernel
theorem dX7_pass_13 : decode cX7_pass 13 = .ok (.invokevirtual 129, 3) := by decide +kernel
theorem dX7_pass_16 : decode cX7_pass 16 = .ok (.aload_n 0, 1) := by decide +kernel
theorem dX7_pass_17 : decode cX7_pass 17 = .ok (.iconst 0, 1) := by decide +kernel
theorem dX7_pass_18 : decode cX7_pass 18 = .ok (.iload_n 1, 1) := by decide +kernel
theorem dX7_pass_19 : decode cX7_pass 19 = .ok (.invokevirtual 162, 3) := by decide +kernel
theorem dX7_pass_22 : decode cX7_pass 22 = .ok (.ireturn, 1) := by decide +kernel
theorem dX7_ones_0 : decode cX7_ones 0 = .ok (.iconst 0, 1) := by decide +kernel
theorem dX7_ones_1 : decode cX7_ones 1 = .ok (.istore_n 1, 1) := by decide +kernel
theorem dX7_ones_2 : decode cX7_ones 2 = .ok (.iconst 0, 1) := by decide +kernel
theorem dX7_ones_3 : decode cX7_ones 3 = .ok (.istore_n 2, 1) := by decide +kernel
theorem dX7_ones_4 : decode cX7_ones 4 = .ok (.iload_n 2, 1) := by decide +kernel
theorem dX7_ones_5 : decode cX7_ones 5 = .ok (.bipush 16, 2) := by decide +kernel
theorem dX7_ones_7 : decode cX7_ones 7 = .ok (.if_icmp .ge 17, 3) := by decide +kernel
theorem dX7_ones_10 : decode cX7_ones 10 = .ok (.iload_n 1, 1) := by decide +kernel
theorem dX7_ones_11 : decode cX7_ones 11 = .ok (.iload_n 0, 1) := by decide +kernel
theorem dX7_ones_12 : decode cX7_ones 12 = .ok (.iload_n 2, 1) := by decide +kernel
theorem dX7_ones_13 : decode cX7_ones 13 = .ok (.ishr, 1) := by decide +kernel
theorem dX7_ones_14 : decode cX7_ones 14 = .ok (.iconst 1, 1) := by decide +kernel
theorem dX7_ones_15 : decode cX7_ones 15 = .ok (.iand, 1) := by decide +kernel
theorem dX7_ones_16 : decode cX7_ones 16 = .ok (.iadd, 1) := by decide +kernel
theorem dX7_ones_17 : decode cX7_ones 17 = .ok (.istore_n 1, 1) := by decide +kernel
theorem dX7_ones_18 : decode cX7_ones 18 = .ok (.iinc 2 1, 3) := by decide +kernel
theorem dX7_ones_21 : decode cX7_ones 21 = .ok (.goto (-17), 3) := by decide +kernel
theorem dX7_ones_24 : decode cX7_ones 24 = .ok (.iload_n 1, 1) := by decide +kernel
theorem dX7_ones_25 : decode cX7_ones 25 = .ok (.ireturn, 1) := by decide +kernel
theorem dX7_strandsOf_0 : decode cX7_strandsOf 0 = .ok (.iconst 0, 1) := by decide +kernel
theorem dX7_strandsOf_1 : decode cX7_strandsOf 1 = .ok (.istore_n 2, 1) := by decide +kernel
theorem dX7_strandsOf_2 : decode cX7_strandsOf 2 = .ok (.iconst 0, 1) := by decide +kernel
theorem dX7_strandsOf_3 : decode cX7_strandsOf 3 = .ok (.istore_n 3, 1) := by decide +kernel
theorem dX7_strandsOf_4 : decode cX7_strandsOf 4 = .ok (.iload_n 3, 1) := by decide +kernel
theorem dX7_strandsOf_5 : decode cX7_strandsOf 5 = .ok (.aload_n 0, 1) := by decide +kernel
theorem dX7_strandsOf_6 : decode cX7_strandsOf 6 = .ok (.getfield 7, 3) := by decide +kernel
theorem dX7_strandsOf_9 : decode cX7_strandsOf 9 = .ok (.bipush 8, 2) := by decide +kernel
theorem dX7_strandsOf_11 : decode cX7_strandsOf 11 = .ok (.iaload, 1) := by decide +kernel
theorem dX7_strandsOf_12 : decode cX7_strandsOf 12 = .ok (.if_icmp .ge 33, 3) := by decide +kernel
theorem dX7_strandsOf_15 : decode cX7_strandsOf 15 = .ok (.iload_n 2, 1) := by decide +kernel
theorem dX7_strandsOf_16 : decode cX7_strandsOf 16 = .ok (.aload_n 0, 1) := by decide +kernel
theorem dX7_strandsOf_17 : decode cX7_strandsOf 17 = .ok (.getfield 7, 3) := by decide +kernel
theorem dX7_strandsOf_20 : decode cX7_strandsOf 20 = .ok (.bipush 100, 2) := by decide +kernel
theorem dX7_strandsOf_22 : decode cX7_strandsOf 22 = .ok (.iload_n 3, 1) := by decide +kernel
theorem dX7_strandsOf_23 : decode cX7_strandsOf 23 = .ok (.iadd, 1) := by decide +kernel
theorem dX7_strandsOf_24 : decode cX7_strandsOf 24 = .ok (.iaload, 1) := by decide +kernel
theorem dX7_strandsOf_25 : decode cX7_strandsOf 25 = .ok (.bipush 16, 2) := by decide +kernel
theorem dX7_strandsOf_27 : decode cX7_strandsOf 27 = .ok (.idiv, 1) := by decide +kernel
theorem dX7_strandsOf_28 : decode cX7_strandsOf 28 = .ok (.iload_n 1, 1) := by decide +kernel
theorem dX7_strandsOf_29 : decode cX7_strandsOf 29 = .ok (.if_icmp .ne 7, 3) := by decide +kernel
theorem dX7_strandsOf_32 : decode cX7_strandsOf 32 = .ok (.iconst 1, 1) := by decide +kernel
theorem dX7_strandsOf_33 : decode cX7_strandsOf 33 = .ok (.goto 4, 3) := by decide +kernel
theorem dX7_strandsOf_36 : decode cX7_strandsOf 36 = .ok (.iconst 0, 1) := by decide +kernel
theorem dX7_strandsOf_37 : decode cX7_strandsOf 37 = .ok (.iadd, 1) := by decide +kernel
theorem dX7_strandsOf_38 : decode cX7_strandsOf 38 = .ok (.istore_n 2, 1) := by decide +kernel
theorem dX7_strandsOf_39 : decode cX7_strandsOf 39 = .ok (.iinc 3 1, 3) := by decide +kernel
theorem dX7_strandsOf_42 : decode cX7_strandsOf 42 = .ok (.goto (-38), 3) := by decide +kernel
theorem dX7_strandsOf_45 : decode cX7_strandsOf 45 = .ok (.iload_n 2, 1) := by decide +kernel
theorem dX7_strandsOf_46 : decode cX7_strandsOf 46 = .ok (.ireturn, 1) := by decide +kernel
theorem dX7_stepsOf_0 : decode cX7_stepsOf 0 = .ok (.iconst 0, 1) := by decide +kernel
theorem dX7_stepsOf_1 : decode cX7_stepsOf 1 = .ok (.istore_n 2, 1) := by decide +kernel
theorem dX7_stepsOf_2 : decode cX7_stepsOf 2 = .ok (.bipush (-15), 2) := by decide +kernel
theorem dX7_stepsOf_4 : decode cX7_stepsOf 4 = .ok (.istore_n 3, 1) := by decide +kernel
theorem dX7_stepsOf_5 : decode cX7_stepsOf 5 = .ok (.iload_n 3, 1) := by decide +kernel
theorem dX7_stepsOf_6 : decode cX7_stepsOf 6 = .ok (.bipush 15, 2) := by decide +kernel
theorem dX7_stepsOf_8 : decode cX7_stepsOf 8 = .ok (.if_icmp .gt 44, 3) := by decide +kernel
theorem dX7_stepsOf_11 : decode cX7_stepsOf 11 = .ok (.iload_n 2, 1) := by decide +kernel
theorem dX7_stepsOf_12 : decode cX7_stepsOf 12 = .ok (.iload_n 3, 1) := by decide +kernel
theorem dX7_stepsOf_13 : decode cX7_stepsOf 13 = .ok (.ifCond .eq 30, 3) := by decide +kernel
theorem dX7_stepsOf_16 : decode cX7_stepsOf 16 = .ok (.aload_n 0, 1) := by decide +kernel
theorem dX7_stepsOf_17 : decode cX7_stepsOf 17 = .ok (.iconst 0, 1) := by decide +kernel
theorem dX7_stepsOf_18 : decode cX7_stepsOf 18 = .ok (.iload_n 1, 1) := by decide +kernel
theorem dX7_stepsOf_19 : decode cX7_stepsOf 19 = .ok (.iload_n 3, 1) := by decide +kernel
theorem dX7_stepsOf_20 : decode cX7_stepsOf 20 = .ok (.invokevirtual 90, 3) := by decide +kernel
theorem dX7_stepsOf_23 : decode cX7_stepsOf 23 = .ok (.ifCond .ne 20, 3) := by decide +kernel
theorem dX7_stepsOf_26 : decode cX7_stepsOf 26 = .ok (.iconst 1, 1) := by decide +kernel
theorem dX7_stepsOf_27 : decode cX7_stepsOf 27 = .ok (.aload_n 0, 1) := by decide +kernel
theorem dX7_stepsOf_28 : decode cX7_stepsOf 28 = .ok (.getfield 7, 3) := by decide +kernel
theorem dX7_stepsOf_31 : decode cX7_stepsOf 31 = .ok (.iconst 0, 1) := by decide +kernel
theorem dX7_stepsOf_32 : decode cX7_stepsOf 32 = .ok (.iload_n 1, 1) := by decide +kernel
theorem dX7_stepsOf_33 : decode cX7_stepsOf 33 = .ok (.invokestatic 28, 3) := by decide +kernel
theorem dX7_stepsOf_36 : decode cX7_stepsOf 36 = .ok (.iaload, 1) := by decide +kernel
theorem dX7_stepsOf_37 : decode cX7_stepsOf 37 = .ok (.iload_n 3, 1) := by decide +kernel
theorem dX7_stepsOf_38 : decode cX7_stepsOf 38 = .ok (.iadd, 1) := by decide +kernel
theorem dX7_stepsOf_39 : decode cX7_stepsOf 39 = .ok (.ishl, 1) := by decide +kernel
theorem dX7_stepsOf_40 : decode cX7_stepsOf 40 = .ok (.goto 4, 3) := by decide +kernel
theorem dX7_stepsOf_43 : decode cX7_stepsOf 43 = .ok (.iconst 0, 1) := by decide +kernel
theorem dX7_stepsOf_44 : decode cX7_stepsOf 44 = .ok (.ior, 1) := by decide +kernel
theorem dX7_stepsOf_45 : decode cX7_stepsOf 45 = .ok (.istore_n 2, 1) := by decide +kernel
theorem dX7_stepsOf_46 : decode cX7_stepsOf 46 = .ok (.iinc 3 1, 3) := by decide +kernel
theorem dX7_stepsOf_49 : decode cX7_stepsOf 49 = .ok (.goto (-44), 3) := by decide +kernel
theorem dX7_stepsOf_52 : decode cX7_stepsOf 52 = .ok (.iload_n 2, 1) := by decide +kernel
theorem dX7_stepsOf_53 : decode cX7_stepsOf 53 = .ok (.ireturn, 1) := by decide +kernel
theorem dX7_of_0 : decode cX7_of 0 = .ok (.aload_n 0, 1) := by decide +kernel
theorem dX7_of_1 : decode cX7_of 1 = .ok (.iload_n 1, 1) := by decide +kernel
theorem dX7_of_2 : decode cX7_of 2 = .ok (.invokevirtual 103, 3) := by decide +kernel
theorem dX7_of_5 : decode cX7_of 5 = .ok (.ifCond .ne 5, 3) := by decide +kernel
theorem dX7_of_8 : decode cX7_of 8 = .ok (.iconst (-1), 1) := by decide +kernel
theorem dX7_of_9 : decode cX7_of 9 = .ok (.ireturn, 1) := by decide +kernel
theorem dX7_of_10 : decode cX7_of 10 = .ok (.iconst 0, 1) := by decide +kernel
theorem dX7_of_11 : decode cX7_of 11 = .ok (.iload_n 1, 1) := by decide +kernel
theorem dX7_of_12 : decode cX7_of 12 = .ok (.invokestatic 28, 3) := by decide +kernel
theorem dX7_of_15 : decode cX7_of 15 = .ok (.istore_n 3, 1) := by decide +kernel
theorem dX7_of_16 : decode cX7_of 16 = .ok (.iload_n 2, 1) := by decide +kernel
theorem dX7_of_17 : decode cX7_of 17 = .ok (.tableswitch 96 0 9 #[55, 55, 55, 55, 64, 70, 70, 70, 83, 90], 55) := by decide +kernel
theorem dX7_of_72 : decode cX7_of 72 = .ok (.aload_n 0, 1) := by decide +kernel
theorem dX7_of_73 : decode cX7_of 73 = .ok (.getfield 7, 3) := by decide +kernel
theorem dX7_of_76 : decode cX7_of 76 = .ok (.iload_n 3, 1) := by decide +kernel
theorem dX7_of_77 : decode cX7_of 77 = .ok (.iload_n 2, 1) := by decide +kernel
theorem dX7_of_78 : decode cX7_of 78 = .ok (.iadd, 1) := by decide +kernel
theorem dX7_of_79 : decode cX7_of 79 = .ok (.iaload, 1) := by decide +kernel
theorem dX7_of_80 : decode cX7_of 80 = .ok (.ireturn, 1) := by decide +kernel
theorem dX7_of_81 : decode cX7_of 81 = .ok (.aload_n 0, 1) := by decide +kernel
theorem dX7_of_82 : decode cX7_of 82 = .ok (.iload_n 1, 1) := by decide +kernel
theorem dX7_of_83 : decode cX7_of 83 = .ok (.invokevirtual 165, 3) := by decide +kernel
theorem dX7_of_86 : decode cX7_of 86 = .ok (.ireturn, 1) := by decide +kernel
theorem dX7_of_87 : decode cX7_of 87 = .ok (.aload_n 0, 1) := by decide +kernel
theorem dX7_of_88 : decode cX7_of 88 = .ok (.getfield 7, 3) := by decide +kernel
theorem dX7_of_91 : decode cX7_of 91 = .ok (.iload_n 3, 1) := by decide +kernel
theorem dX7_of_92 : decode cX7_of 92 = .ok (.iconst 4, 1) := by decide +kernel
theorem dX7_of_93 : decode cX7_of 93 = .ok (.iadd, 1) := by decide +kernel
theorem dX7_of_94 : decode cX7_of 94 = .ok (.iload_n 2, 1) := by decide +kernel
theorem dX7_of_95 : decode cX7_of 95 = .ok (.iadd, 1) := by decide +kernel
theorem dX7_of_96 : decode cX7_of 96 = .ok (.iconst 5, 1) := by decide +kernel
theorem dX7_of_97 : decode cX7_of 97 = .ok (.isub, 1) := by decide +kernel
theorem dX7_of_98 : decode cX7_of 98 = .ok (.iaload, 1) := by decide +kernel
theorem dX7_of_99 : decode cX7_of 99 = .ok (.ireturn, 1) := by decide +kernel
theorem dX7_of_100 : decode cX7_of 100 = .ok (.aload_n 0, 1) := by decide +kernel
theorem dX7_of_101 : decode cX7_of 101 = .ok (.iconst 0, 1) := by decide +kernel
theorem dX7_of_102 : decode cX7_of 102 = .ok (.iload_n 1, 1) := by decide +kernel
theorem dX7_of_103 : decode cX7_of 103 = .ok (.invokevirtual 53, 3) := by decide +kernel
theorem dX7_of_106 : decode cX7_of 106 = .ok (.ireturn, 1) := by decide +kernel
theorem dX7_of_107 : decode cX7_of 107 = .ok (.aload_n 0, 1) := by decide +kernel
theorem dX7_of_108 : decode cX7_of 108 = .ok (.iload_n 1, 1) := by decide +kernel
theorem dX7_of_109 : decode cX7_of 109 = .ok (.invokevirtual 168, 3) := by decide +kernel
theorem dX7_of_112 : decode cX7_of 112 = .ok (.ireturn, 1) := by decide +kernel
theorem dX7_of_113 : decode cX7_of 113 = .ok (.bipush (-2), 2) := by decide +kernel
theorem dX7_of_115 : decode cX7_of 115 = .ok (.ireturn, 1) := by decide +kernel
theorem dX7_thickness_0 : decode cX7_thickness 0 = .ok (.iconst 0, 1) := by decide +kernel
theorem dX7_thickness_1 : decode cX7_thickness 1 = .ok (.istore_n 2, 1) := by decide +kernel
theorem dX7_thickness_2 : decode cX7_thickness 2 = .ok (.iconst 0, 1) := by decide +kernel
theorem dX7_thickness_3 : decode cX7_thickness 3 = .ok (.istore_n 3, 1) := by decide +kernel
theorem dX7_thickness_4 : decode cX7_thickness 4 = .ok (.iload_n 3, 1) := by decide +kernel
theorem dX7_thickness_5 : decode cX7_thickness 5 = .ok (.aload_n 0, 1) := by decide +kernel
theorem dX7_thickness_6 : decode cX7_thickness 6 = .ok (.getfield 7, 3) := by decide +kernel
theorem dX7_thickness_9 : decode cX7_thickness 9 = .ok (.bipush 8, 2) := by decide +kernel
theorem dX7_thickness_11 : decode cX7_thickness 11 = .ok (.iaload, 1) := by decide +kernel
theorem dX7_thickness_12 : decode cX7_thickness 12 = .ok (.if_icmp .ge 29, 3) := by decide +kernel
theorem dX7_thickness_15 : decode cX7_thickness 15 = .ok (.iload_n 2, 1) := by decide +kernel
theorem dX7_thickness_16 : decode cX7_thickness 16 = .ok (.aload_n 0, 1) := by decide +kernel
theorem dX7_thickness_17 : decode cX7_thickness 17 = .ok (.iconst 0, 1) := by decide +kernel
theorem dX7_thickness_18 : decode cX7_thickness 18 = .ok (.iload_n 3, 1) := by decide +kernel
theorem dX7_thickness_19 : decode cX7_thickness 19 = .ok (.iload_n 1, 1) := by decide +kernel
theorem dX7_thickness_20 : decode cX7_thickness 20 = .ok (.invokevirtual 32, 3) := by decide +kernel
theorem dX7_thickness_23 : decode cX7_thickness 23 = .ok (.bipush (-6), 2) := by decide +kernel
theorem dX7_thickness_25 : decode cX7_thickness 25 = .ok (.if_icmp .ne 7, 3) := by decide +kernel
theorem dX7_thickness_28 : decode cX7_thickness 28 = .ok (.iconst 0, 1) := by decide +kernel
theorem dX7_thickness_29 : decode cX7_thickness 29 = .ok (.goto 4, 3) := by decide +kernel
theorem dX7_thickness_32 : decode cX7_thickness 32 = .ok (.iconst 1, 1) := by decide +kernel
theorem dX7_thickness_33 : decode cX7_thickness 33 = .ok (.iadd, 1) := by decide +kernel
theorem dX7_thickness_34 : decode cX7_thickness 34 = .ok (.istore_n 2, 1) := by decide +kernel
theorem dX7_thickness_35 : decode cX7_thickness 35 = .ok (.iinc 3 1, 3) := by decide +kernel
theorem dX7_thickness_38 : decode cX7_thickness 38 = .ok (.goto (-34), 3) := by decide +kernel
theorem dX7_thickness_41 : decode cX7_thickness 41 = .ok (.iload_n 2, 1) := by decide +kernel
theorem dX7_thickness_42 : decode cX7_thickness 42 = .ok (.ireturn, 1) := by decide +kernel
theorem dX7_kittensAt_0 : decode cX7_kittensAt 0 = .ok (.iconst 0, 1) := by decide +kernel
theorem dX7_kittensAt_1 : decode cX7_kittensAt 1 = .ok (.istore_n 2, 1) := by decide +kernel
theorem dX7_kittensAt_2 : decode cX7_kittensAt 2 = .ok (.iconst 0, 1) := by decide +kernel
theorem dX7_kittensAt_3 : decode cX7_kittensAt 3 = .ok (.istore_n 3, 1) := by decide +kernel
theorem dX7_kittensAt_4 : decode cX7_kittensAt 4 = .ok (.iload_n 3, 1) := by decide +kernel
theorem dX7_kittensAt_5 : decode cX7_kittensAt 5 = .ok (.aload_n 0, 1) := by decide +kernel
theorem dX7_kittensAt_6 : decode cX7_kittensAt 6 = .ok (.getfield 7, 3) := by decide +kernel
theorem dX7_kittensAt_9 : decode cX7_kittensAt 9 = .ok (.bipush 8, 2) := by decide +kernel
theorem dX7_kittensAt_11 : decode cX7_kittensAt 11 = .ok (.iaload, 1) := by decide +kernel
theorem dX7_kittensAt_12 : decode cX7_kittensAt 12 = .ok (.if_icmp .ge 37, 3) := by decide +kernel
theorem dX7_kittensAt_15 : decode cX7_kittensAt 15 = .ok (.iload_n 2, 1) := by decide +kernel
theorem dX7_kittensAt_16 : decode cX7_kittensAt 16 = .ok (.aload_n 0, 1) := by decide +kernel
theorem dX7_kittensAt_17 : decode cX7_kittensAt 17 = .ok (.iconst 0, 1) := by decide +kernel
theorem dX7_kittensAt_18 : decode cX7_kittensAt 18 = .ok (.iload_n 3, 1) := by decide +kernel
theorem dX7_kittensAt_19 : decode cX7_kittensAt 19 = .ok (.iload_n 1, 1) := by decide +kernel
theorem dX7_kittensAt_20 : decode cX7_kittensAt 20 = .ok (.invokevirtual 32, 3) := by decide +kernel
theorem dX7_kittensAt_23 : decode cX7_kittensAt 23 = .ok (.bipush (-6), 2) := by decide +kernel
theorem dX7_kittensAt_25 : decode cX7_kittensAt 25 = .ok (.if_icmp .ne 7, 3) := by decide +kernel
theorem dX7_kittensAt_28 : decode cX7_kittensAt 28 = .ok (.iconst 0, 1) := by decide +kernel
theorem dX7_kittensAt_29 : decode cX7_kittensAt 29 = .ok (.goto 12, 3) := by decide +kernel
theorem dX7_kittensAt_32 : decode cX7_kittensAt 32 = .ok (.iconst 1, 1) := by decide +kernel
theorem dX7_kittensAt_33 : decode cX7_kittensAt 33 = .ok (.aload_n 0, 1) := by decide +kernel
theorem dX7_kittensAt_34 : decode cX7_kittensAt 34 = .ok (.iconst 0, 1) := by decide +kernel
theorem dX7_kittensAt_35 : decode cX7_kittensAt 35 = .ok (.iload_n 3, 1) := by decide +kernel
theorem dX7_kittensAt_36 : decode cX7_kittensAt 36 = .ok (.iload_n 1, 1) := by decide +kernel
theorem dX7_kittensAt_37 : decode cX7_kittensAt 37 = .ok (.invokevirtual 32, 3) := by decide +kernel
theorem dX7_kittensAt_40 : decode cX7_kittensAt 40 = .ok (.ishl, 1) := by decide +kernel
theorem dX7_kittensAt_41 : decode cX7_kittensAt 41 = .ok (.ior, 1) := by decide +kernel
theorem dX7_kittensAt_42 : decode cX7_kittensAt 42 = .ok (.istore_n 2, 1) := by decide +kernel
theorem dX7_kittensAt_43 : decode cX7_kittensAt 43 = .ok (.iinc 3 1, 3) := by decide +kernel
theorem dX7_kittensAt_46 : decode cX7_kittensAt 46 = .ok (.goto (-42), 3) := by decide +kernel
theorem dX7_kittensAt_49 : decode cX7_kittensAt 49 = .ok (.iload_n 2, 1) := by decide +kernel
theorem dX7_kittensAt_50 : decode cX7_kittensAt 50 = .ok (.ireturn, 1) := by decide +kernel
theorem dX7_pairsAt_0 : decode cX7_pairsAt 0 = .ok (.iconst 0, 1) := by decide +kernel
theorem dX7_pairsAt_1 : decode cX7_pairsAt 1 = .ok (.istore_n 2, 1) := by decide +kernel
theorem dX7_pairsAt_2 : decode cX7_pairsAt 2 = .ok (.iconst 0, 1) := by decide +kernel
theorem dX7_pairsAt_3 : decode cX7_pairsAt 3 = .ok (.istore_n 3, 1) := by decide +kernel
theorem dX7_pairsAt_4 : decode cX7_pairsAt 4 = .ok (.iload_n 3, 1) := by decide +kernel
theorem dX7_pairsAt_5 : decode cX7_pairsAt 5 = .ok (.aload_n 0, 1) := by decide +kernel
theorem dX7_pairsAt_6 : decode cX7_pairsAt 6 = .ok (.getfield 7, 3) := by decide +kernel
theorem dX7_pairsAt_9 : decode cX7_pairsAt 9 = .ok (.iconst 5, 1) := by decide +kernel
theorem dX7_pairsAt_10 : decode cX7_pairsAt 10 = .ok (.iaload, 1) := by decide +kernel
theorem dX7_pairsAt_11 : decode cX7_pairsAt 11 = .ok (.aload_n 0, 1) := by decide +kernel
theorem dX7_pairsAt_12 : decode cX7_pairsAt 12 = .ok (.getfield 7, 3) := by decide +kernel
theorem dX7_pairsAt_15 : decode cX7_pairsAt 15 = .ok (.iconst 5, 1) := by decide +kernel
theorem dX7_pairsAt_16 : decode cX7_pairsAt 16 = .ok (.iaload, 1) := by decide +kernel
theorem dX7_pairsAt_17 : decode cX7_pairsAt 17 = .ok (.imul, 1) := by decide +kernel
theorem dX7_pairsAt_18 : decode cX7_pairsAt 18 = .ok (.if_icmp .ge 61, 3) := by decide +kernel
theorem dX7_pairsAt_21 : decode cX7_pairsAt 21 = .ok (.iload_n 2, 1) := by decide +kernel
theorem dX7_pairsAt_22 : decode cX7_pairsAt 22 = .ok (.iload_n 3, 1) := by decide +kernel
theorem dX7_pairsAt_23 : decode cX7_pairsAt 23 = .ok (.aload_n 0, 1) := by decide +kernel
theorem dX7_pairsAt_24 : decode cX7_pairsAt 24 = .ok (.getfield 7, 3) := by decide +kernel
theorem dX7_pairsAt_27 : decode cX7_pairsAt 27 = .ok (.iconst 5, 1) := by decide +kernel
theorem dX7_pairsAt_28 : decode cX7_pairsAt 28 = .ok (.iaload, 1) := by decide +kernel
theorem dX7_pairsAt_29 : decode cX7_pairsAt 29 = .ok (.idiv, 1) := by decide +kernel
theorem dX7_pairsAt_30 : decode cX7_pairsAt 30 = .ok (.iload_n 3, 1) := by decide +kernel
theorem dX7_pairsAt_31 : decode cX7_pairsAt 31 = .ok (.aload_n 0, 1) := by decide +kernel
theorem dX7_pairsAt_32 : decode cX7_pairsAt 32 = .ok (.getfield 7, 3) := by decide +kernel
theorem dX7_pairsAt_35 : decode cX7_pairsAt 35 = .ok (.iconst 5, 1) := by decide +kernel
theorem dX7_pairsAt_36 : decode cX7_pairsAt 36 = .ok (.iaload, 1) := by decide +kernel
theorem dX7_pairsAt_37 : decode cX7_pairsAt 37 = .ok (.irem, 1) := by decide +kernel
theorem dX7_pairsAt_38 : decode cX7_pairsAt 38 = .ok (.if_icmp .ge 32, 3) := by decide +kernel
theorem dX7_pairsAt_41 : decode cX7_pairsAt 41 = .ok (.aload_n 0, 1) := by decide +kernel
theorem dX7_pairsAt_42 : decode cX7_pairsAt 42 = .ok (.iconst 0, 1) := by decide +kernel
theorem dX7_pairsAt_43 : decode cX7_pairsAt 43 = .ok (.iload_n 1, 1) := by decide +kernel
theorem dX7_pairsAt_44 : decode cX7_pairsAt 44 = .ok (.iload_n 3, 1) := by decide +kernel
theorem dX7_pairsAt_45 : decode cX7_pairsAt 45 = .ok (.aload_n 0, 1) := by decide +kernel
theorem dX7_pairsAt_46 : decode cX7_pairsAt 46 = .ok (.getfield 7, 3) := by decide +kernel
theorem dX7_pairsAt_49 : decode cX7_pairsAt 49 = .ok (.iconst 5, 1) := by decide +kernel
theorem dX7_pairsAt_50 : decode cX7_pairsAt 50 = .ok (.iaload, 1) := by decide +kernel
theorem dX7_pairsAt_51 : decode cX7_pairsAt 51 = .ok (.idiv, 1) := by decide +kernel
theorem dX7_pairsAt_52 : decode cX7_pairsAt 52 = .ok (.iload_n 3, 1) := by decide +kernel
theorem dX7_pairsAt_53 : decode cX7_pairsAt 53 = .ok (.aload_n 0, 1) := by decide +kernel
theorem dX7_pairsAt_54 : decode cX7_pairsAt 54 = .ok (.getfield 7, 3) := by decide +kernel
theorem dX7_pairsAt_57 : decode cX7_pairsAt 57 = .ok (.iconst 5, 1) := by decide +kernel
theorem dX7_pairsAt_58 : decode cX7_pairsAt 58 = .ok (.iaload, 1) := by decide +kernel
theorem dX7_pairsAt_59 : decode cX7_pairsAt 59 = .ok (.irem, 1) := by decide +kernel
theorem dX7_pairsAt_60 : decode cX7_pairsAt 60 = .ok (.invokevirtual 46, 3) := by decide +kernel
theorem dX7_pairsAt_63 : decode cX7_pairsAt 63 = .ok (.ifCond .eq 7, 3) := by decide +kernel
theorem dX7_pairsAt_66 : decode cX7_pairsAt 66 = .ok (.iconst 1, 1) := by decide +kernel
theorem dX7_pairsAt_67 : decode cX7_pairsAt 67 = .ok (.goto 4, 3) := by decide +kernel
theorem dX7_pairsAt_70 : decode cX7_pairsAt 70 = .ok (.iconst 0, 1) := by decide +kernel
theorem dX7_pairsAt_71 : decode cX7_pairsAt 71 = .ok (.iadd, 1) := by decide +kernel
theorem dX7_pairsAt_72 : decode cX7_pairsAt 72 = .ok (.istore_n 2, 1) := by decide +kernel
theorem dX7_pairsAt_73 : decode cX7_pairsAt 73 = .ok (.iinc 3 1, 3) := by decide +kernel
theorem dX7_pairsAt_76 : decode cX7_pairsAt 76 = .ok (.goto (-72), 3) := by decide +kernel
theorem dX7_pairsAt_79 : decode cX7_pairsAt 79 = .ok (.iload_n 2, 1) := by decide +kernel
theorem dX7_pairsAt_80 : decode cX7_pairsAt 80 = .ok (.ireturn, 1) := by decide +kernel
theorem dX7_ofEdge_0 : decode cX7_ofEdge 0 = .ok (.iload_n 1, 1) := by decide +kernel
theorem dX7_ofEdge_1 : decode cX7_ofEdge 1 = .ok (.invokestatic 110, 3) := by decide +kernel
theorem dX7_ofEdge_4 : decode cX7_ofEdge 4 = .ok (.ifCond .ne 5, 3) := by decide +kernel
theorem dX7_ofEdge_7 : decode cX7_ofEdge 7 = .ok (.iconst (-1), 1) := by decide +kernel
theorem dX7_ofEdge_8 : decode cX7_ofEdge 8 = .ok (.ireturn, 1) := by decide +kernel
theorem dX7_ofEdge_9 : decode cX7_ofEdge 9 = .ok (.iload_n 2, 1) := by decide +kernel
theorem dX7_ofEdge_10 : decode cX7_ofEdge 10 = .ok (.tableswitch 77 0 3 #[30, 36, 65, 71], 30) := by decide +kernel
theorem dX7_ofEdge_40 : decode cX7_ofEdge 40 = .ok (.aload_n 0, 1) := by decide +kernel
theorem dX7_ofEdge_41 : decode cX7_ofEdge 41 = .ok (.iload_n 1, 1) := by decide +kernel
theorem dX7_ofEdge_42 : decode cX7_ofEdge 42 = .ok (.invokevirtual 171, 3) := by decide +kernel
theorem dX7_ofEdge_45 : decode cX7_ofEdge 45 = .ok (.ireturn, 1) := by decide +kernel
theorem dX7_ofEdge_46 : decode cX7_ofEdge 46 = .ok (.aload_n 0, 1) := by decide +kernel
theorem dX7_ofEdge_47 : decode cX7_ofEdge 47 = .ok (.iconst 0, 1) := by decide +kernel
theorem dX7_ofEdge_48 : decode cX7_ofEdge 48 = .ok (.iload_n 1, 1) := by decide +kernel
theorem dX7_ofEdge_49 : decode cX7_ofEdge 49 = .ok (.invokevirtual 36, 3) := by decide +kernel
theorem dX7_ofEdge_52 : decode cX7_ofEdge 52 = .ok (.bipush (-6), 2) := by decide +kernel
theorem dX7_ofEdge_54 : decode cX7_ofEdge 54 = .ok (.if_icmp .ne 8, 3) := by decide +kernel
theorem dX7_ofEdge_57 : decode cX7_ofEdge 57 = .ok (.bipush (-6), 2) := by decide +kernel
theorem dX7_ofEdge_59 : decode cX7_ofEdge 59 = .ok (.goto 15, 3) := by decide +kernel
theorem dX7_ofEdge_62 : decode cX7_ofEdge 62 = .ok (.aload_n 0, 1) := by decide +kernel
theorem dX7_ofEdge_63 : decode cX7_ofEdge 63 = .ok (.iconst 0, 1) := by decide +kernel
theorem dX7_ofEdge_64 : decode cX7_ofEdge 64 = .ok (.aload_n 0, 1) := by decide +kernel
theorem dX7_ofEdge_65 : decode cX7_ofEdge 65 = .ok (.iconst 0, 1) := by decide +kernel
theorem dX7_ofEdge_66 : decode cX7_ofEdge 66 = .ok (.iload_n 1, 1) := by decide +kernel
theorem dX7_ofEdge_67 : decode cX7_ofEdge 67 = .ok (.invokevirtual 36, 3) := by decide +kernel
theorem dX7_ofEdge_70 : decode cX7_ofEdge 70 = .ok (.iload_n 1, 1) := by decide +kernel
theorem dX7_ofEdge_71 : decode cX7_ofEdge 71 = .ok (.invokevirtual 32, 3) := by decide +kernel
theorem dX7_ofEdge_74 : decode cX7_ofEdge 74 = .ok (.ireturn, 1) := by decide +kernel
theorem dX7_ofEdge_75 : decode cX7_ofEdge 75 = .ok (.aload_n 0, 1) := by decide +kernel
theorem dX7_ofEdge_76 : decode cX7_ofEdge 76 = .ok (.iload_n 1, 1) := by decide +kernel
theorem dX7_ofEdge_77 : decode cX7_ofEdge 77 = .ok (.invokevirtual 174, 3) := by decide +kernel
theorem dX7_ofEdge_80 : decode cX7_ofEdge 80 = .ok (.ireturn, 1) := by decide +kernel
theorem dX7_ofEdge_81 : decode cX7_ofEdge 81 = .ok (.aload_n 0, 1) := by decide +kernel
theorem dX7_ofEdge_82 : decode cX7_ofEdge 82 = .ok (.iload_n 1, 1) := by decide +kernel
theorem dX7_ofEdge_83 : decode cX7_ofEdge 83 = .ok (.invokevirtual 177, 3) := by decide +kernel
theorem dX7_ofEdge_86 : decode cX7_ofEdge 86 = .ok (.ireturn, 1) := by decide +kernel
theorem dX7_ofEdge_87 : decode cX7_ofEdge 87 = .ok (.bipush (-2), 2) := by decide +kernel
theorem dX7_ofEdge_89 : decode cX7_ofEdge 89 = .ok (.ireturn, 1) := by decide +kernel
theorem dX7_strand_0 : decode cX7_strand 0 = .ok (.iload_n 1, 1) := by decide +kernel
theorem dX7_strand_1 : decode cX7_strand 1 = .ok (.invokestatic 110, 3) := by decide +kernel
theorem dX7_strand_4 : decode cX7_strand 4 = .ok (.ifCond .eq 20, 3) := by decide +kernel
theorem dX7_strand_7 : decode cX7_strand 7 = .ok (.iload_n 2, 1) := by decide +kernel
theorem dX7_strand_8 : decode cX7_strand 8 = .ok (.i2l, 1) := by decide +kernel
theorem dX7_strand_9 : decode cX7_strand 9 = .ok (.lconst 0, 1) := by decide +kernel
theorem dX7_strand_10 : decode cX7_strand 10 = .ok (.aload_n 0, 1) := by decide +kernel
theorem dX7_strand_11 : decode cX7_strand 11 = .ok (.iload_n 1, 1) := by decide +kernel
theorem dX7_strand_12 : decode cX7_strand 12 = .ok (.invokevirtual 171, 3) := by decide +kernel
theorem dX7_strand_15 : decode cX7_strand 15 = .ok (.iconst 1, 1) := by decide +kernel
theorem dX7_strand_16 : decode cX7_strand 16 = .ok (.isub, 1) := by decide +kernel
theorem dX7_strand_17 : decode cX7_strand 17 = .ok (.i2l, 1) := by decide +kernel
theorem dX7_strand_18 : decode cX7_strand 18 = .ok (.invokestatic 70, 3) := by decide +kernel
theorem dX7_strand_21 : decode cX7_strand 21 = .ok (.ifCond .ne 5, 3) := by decide +kernel
theorem dX7_strand_24 : decode cX7_strand 24 = .ok (.iconst (-1), 1) := by decide +kernel
theorem dX7_strand_25 : decode cX7_strand 25 = .ok (.ireturn, 1) := by decide +kernel
theorem dX7_strand_26 : decode cX7_strand 26 = .ok (.iload_n 2, 1) := by decide +kernel
theorem dX7_strand_27 : decode cX7_strand 27 = .ok (.istore_n 3, 1) := by decide +kernel
theorem dX7_strand_28 : decode cX7_strand 28 = .ok (.iconst 0, 1) := by decide +kernel
theorem dX7_strand_29 : decode cX7_strand 29 = .ok (.istore 4, 2) := by decide +kernel
theorem dX7_strand_31 : decode cX7_strand 31 = .ok (.iload_n 3, 1) := by decide +kernel
theorem dX7_strand_32 : decode cX7_strand 32 = .ok (.ifCond .gt 16, 3) := by decide +kernel
theorem dX7_strand_35 : decode cX7_strand 35 = .ok (.aload_n 0, 1) := by decide +kernel
theorem dX7_strand_36 : decode cX7_strand 36 = .ok (.iconst 0, 1) := by decide +kernel
theorem dX7_strand_37 : decode cX7_strand 37 = .ok (.iload 4, 2) := by decide +kernel
theorem dX7_strand_39 : decode cX7_strand 39 = .ok (.iload_n 1, 1) := by decide +kernel
theorem dX7_strand_40 : decode cX7_strand 40 = .ok (.invokevirtual 32, 3) := by decide +kernel
theorem dX7_strand_43 : decode cX7_strand 43 = .ok (.bipush (-6), 2) := by decide +kernel
theorem dX7_strand_45 : decode cX7_strand 45 = .ok (.if_icmp .ne 30, 3) := by decide +kernel
theorem dX7_strand_48 : decode cX7_strand 48 = .ok (.iload_n 3, 1) := by decide +kernel
theorem dX7_strand_49 : decode cX7_strand 49 = .ok (.aload_n 0, 1) := by decide +kernel
theorem dX7_strand_50 : decode cX7_strand 50 = .ok (.iconst 0, 1) := by decide +kernel
theorem dX7_strand_51 : decode cX7_strand 51 = .ok (.iload 4, 2) := by decide +kernel
theorem dX7_strand_53 : decode cX7_strand 53 = .ok (.iload_n 1, 1) := by decide +kernel
theorem dX7_strand_54 : decode cX7_strand 54 = .ok (.invokevirtual 32, 3) := by decide +kernel
theorem dX7_strand_57 : decode cX7_strand 57 = .ok (.bipush (-6), 2) := by decide +kernel
theorem dX7_strand_59 : decode cX7_strand 59 = .ok (.if_icmp .ne 7, 3) := by decide +kernel
theorem dX7_strand_62 : decode cX7_strand 62 = .ok (.iconst 0, 1) := by decide +kernel
theorem dX7_strand_63 : decode cX7_strand 63 = .ok (.goto 4, 3) := by decide +kernel
theorem dX7_strand_66 : decode cX7_strand 66 = .ok (.iconst 1, 1) := by decide +kernel
theorem dX7_strand_67 : decode cX7_strand 67 = .ok (.isub, 1) := by decide +kernel
theorem dX7_strand_68 : decode cX7_strand 68 = .ok (.istore_n 3, 1) := by decide +kernel
theorem dX7_strand_69 : decode cX7_strand 69 = .ok (.iinc 4 1, 3) := by decide +kernel
theorem dX7_strand_72 : decode cX7_strand 72 = .ok (.goto (-41), 3) := by decide +kernel
theorem dX7_strand_75 : decode cX7_strand 75 = .ok (.aload_n 0, 1) := by decide +kernel
theorem dX7_strand_76 : decode cX7_strand 76 = .ok (.iconst 0, 1) := by decide +kernel
theorem dX7_strand_77 : decode cX7_strand 77 = .ok (.iload 4, 2) := by decide +kernel
theorem dX7_strand_79 : decode cX7_strand 79 = .ok (.iload_n 1, 1) := by decide +kernel
theorem dX7_strand_80 : decode cX7_strand 80 = .ok (.invokevirtual 32, 3) := by decide +kernel
theorem dX7_strand_83 : decode cX7_strand 83 = .ok (.ireturn, 1) := by decide +kernel
theorem dX7_bound_0 : decode cX7_bound 0 = .ok (.aload_n 0, 1) := by decide +kernel
theorem dX7_bound_1 : decode cX7_bound 1 = .ok (.iload_n 1, 1) := by decide +kernel
theorem dX7_bound_2 : decode cX7_bound 2 = .ok (.invokevirtual 103, 3) := by decide +kernel
theorem dX7_bound_5 : decode cX7_bound 5 = .ok (.ifCond .eq 11, 3) := by decide +kernel
theorem dX7_bound_8 : decode cX7_bound 8 = .ok (.aload_n 0, 1) := by decide +kernel
theorem dX7_bound_9 : decode cX7_bound 9 = .ok (.iload_n 2, 1) := by decide +kernel
theorem dX7_bound_10 : decode cX7_bound 10 = .ok (.invokevirtual 103, 3) := by decide +kernel
theorem dX7_bound_13 : decode cX7_bound 13 = .ok (.ifCond .ne 7, 3) := by decide +kernel
theorem dX7_bound_16 : decode cX7_bound 16 = .ok (.iconst (-1), 1) := by decide +kernel
theorem dX7_bound_17 : decode cX7_bound 17 = .ok (.goto 20, 3) := by decide +kernel
theorem dX7_bound_20 : decode cX7_bound 20 = .ok (.iload_n 1, 1) := by decide +kernel
theorem dX7_bound_21 : decode cX7_bound 21 = .ok (.iload_n 2, 1) := by decide +kernel
theorem dX7_bound_22 : decode cX7_bound 22 = .ok (.if_icmp .ne 8, 3) := by decide +kernel
theorem dX7_bound_25 : decode cX7_bound 25 = .ok (.bipush (-2), 2) := by decide +kernel
theorem dX7_bound_27 : decode cX7_bound 27 = .ok (.goto 10, 3) := by decide +kernel
theorem dX7_bound_30 : decode cX7_bound 30 = .ok (.aload_n 0, 1) := by decide +kernel
theorem dX7_bound_31 : decode cX7_bound 31 = .ok (.iconst 0, 1) := by decide +kernel
theorem dX7_bound_32 : decode cX7_bound 32 = .ok (.iload_n 1, 1) := by decide +kernel
theorem dX7_bound_33 : decode cX7_bound 33 = .ok (.iload_n 2, 1) := by decide +kernel
theorem dX7_bound_34 : decode cX7_bound 34 = .ok (.invokevirtual 50, 3) := by decide +kernel
theorem dX7_bound_37 : decode cX7_bound 37 = .ok (.ireturn, 1) := by decide +kernel
theorem dX7_planned_0 : decode cX7_planned 0 = .ok (.iload_n 1, 1) := by decide +kernel
theorem dX7_planned_1 : decode cX7_planned 1 = .ok (.i2l, 1) := by decide +kernel
theorem dX7_planned_2 : decode cX7_planned 2 = .ok (.lconst 0, 1) := by decide +kernel
theorem dX7_planned_3 : decode cX7_planned 3 = .ok (.aload_n 0, 1) := by decide +kernel
theorem dX7_planned_4 : decode cX7_planned 4 = .ok (.getfield 7, 3) := by decide +kernel
theorem dX7_planned_7 : decode cX7_planned 7 = .ok (.bipush 9, 2) := by decide +kernel
theorem dX7_planned_9 : decode cX7_planned 9 = .ok (.iaload, 1) := by decide +kernel
theorem dX7_planned_10 : decode cX7_planned 10 = .ok (.iconst 1, 1) := by decide +kernel
theorem dX7_planned_11 : decode cX7_planned 11 = .ok (.isub, 1) := by decide +kernel
theorem dX7_planned_12 : decode cX7_planned 12 = .ok (.i2l, 1) := by decide +kernel
theorem dX7_planned_13 : decode cX7_planned 13 = .ok (.invokestatic 70, 3) := by decide +kernel
theorem dX7_planned_16 : decode cX7_planned 16 = .ok (.ifCond .ne 5, 3) := by decide +kernel
theorem dX7_planned_19 : decode cX7_planned 19 = .ok (.iconst (-1), 1) := by decide +kernel
theorem dX7_planned_20 : decode cX7_planned 20 = .ok (.ireturn, 1) := by decide +kernel
theorem dX7_planned_21 : decode cX7_planned 21 = .ok (.iload_n 2, 1) := by decide +kernel
theorem dX7_planned_22 : decode cX7_planned 22 = .ok (.i2l, 1) := by decide +kernel
theorem dX7_planned_23 : decode cX7_planned 23 = .ok (.lconst 0, 1) := by decide +kernel
theorem dX7_planned_24 : decode cX7_planned 24 = .ok (.ldc2_w 122, 3) := by decide +kernel
theorem dX7_planned_27 : decode cX7_planned 27 = .ok (.invokestatic 70, 3) := by decide +kernel
theorem dX7_planned_30 : decode cX7_planned 30 = .ok (.ifCond .ne 8, 3) := by decide +kernel
theorem dX7_planned_33 : decode cX7_planned 33 = .ok (.bipush (-2), 2) := by decide +kernel
theorem dX7_planned_35 : decode cX7_planned 35 = .ok (.goto 27, 3) := by decide +kernel
theorem dX7_planned_38 : decode cX7_planned 38 = .ok (.aload_n 0, 1) := by decide +kernel
theorem dX7_planned_39 : decode cX7_planned 39 = .ok (.getfield 7, 3) := by decide +kernel
theorem dX7_planned_42 : decode cX7_planned 42 = .ok (.iconst 0, 1) := by decide +kernel
theorem dX7_planned_43 : decode cX7_planned 43 = .ok (.iload_n 1, 1) := by decide +kernel
theorem dX7_planned_44 : decode cX7_planned 44 = .ok (.invokestatic 87, 3) := by decide +kernel
theorem dX7_planned_47 : decode cX7_planned 47 = .ok (.iload_n 2, 1) := by decide +kernel
theorem dX7_planned_48 : decode cX7_planned 48 = .ok (.iadd, 1) := by decide +kernel
theorem dX7_planned_49 : decode cX7_planned 49 = .ok (.iaload, 1) := by decide +kernel
theorem dX7_planned_50 : decode cX7_planned 50 = .ok (.iload_n 2, 1) := by decide +kernel
theorem dX7_planned_51 : decode cX7_planned 51 = .ok (.iconst 2, 1) := by decide +kernel
theorem dX7_planned_52 : decode cX7_planned 52 = .ok (.if_icmp .ne 8, 3) := by decide +kernel
theorem dX7_planned_55 : decode cX7_planned 55 = .ok (.bipush 100, 2) := by decide +kernel
theorem dX7_planned_57 : decode cX7_planned 57 = .ok (.goto 4, 3) := by decide +kernel
theorem dX7_planned_60 : decode cX7_planned 60 = .ok (.iconst 0, 1) := by decide +kernel
theorem dX7_planned_61 : decode cX7_planned 61 = .ok (.iadd, 1) := by decide +kernel
theorem dX7_planned_62 : decode cX7_planned 62 = .ok (.ireturn, 1) := by decide +kernel
theorem dX7_napping_0 : decode cX7_napping 0 = .ok (.iconst 0, 1) := by decide +kernel
theorem dX7_napping_1 : decode cX7_napping 1 = .ok (.istore_n 1, 1) := by decide +kernel
theorem dX7_napping_2 : decode cX7_napping 2 = .ok (.iconst 0, 1) := by decide +kernel
theorem dX7_napping_3 : decode cX7_napping 3 = .ok (.istore_n 2, 1) := by decide +kernel
theorem dX7_napping_4 : decode cX7_napping 4 = .ok (.iload_n 2, 1) := by decide +kernel
theorem dX7_napping_5 : decode cX7_napping 5 = .ok (.aload_n 0, 1) := by decide +kernel
theorem dX7_napping_6 : decode cX7_napping 6 = .ok (.getfield 7, 3) := by decide +kernel
theorem dX7_napping_9 : decode cX7_napping 9 = .ok (.iconst 5, 1) := by decide +kernel
theorem dX7_napping_10 : decode cX7_napping 10 = .ok (.iaload, 1) := by decide +kernel
theorem dX7_napping_11 : decode cX7_napping 11 = .ok (.if_icmp .ge 28, 3) := by decide +kernel
theorem dX7_napping_14 : decode cX7_napping 14 = .ok (.iload_n 1, 1) := by decide +kernel
theorem dX7_napping_15 : decode cX7_napping 15 = .ok (.aload_n 0, 1) := by decide +kernel
theorem dX7_napping_16 : decode cX7_napping 16 = .ok (.iconst 0, 1) := by decide +kernel
theorem dX7_napping_17 : decode cX7_napping 17 = .ok (.iload_n 2, 1) := by decide +kernel
theorem dX7_napping_18 : decode cX7_napping 18 = .ok (.invokevirtual 64, 3) := by decide +kernel
theorem dX7_napping_21 : decode cX7_napping 21 = .ok (.ifCond .eq 9, 3) := by decide +kernel
theorem dX7_napping_24 : decode cX7_napping 24 = .ok (.iconst 1, 1) := by decide +kernel
theorem dX7_napping_25 : decode cX7_napping 25 = .ok (.iload_n 2, 1) := by decide +kernel
theorem dX7_napping_26 : decode cX7_napping 26 = .ok (.ishl, 1) := by decide +kernel
theorem dX7_napping_27 : decode cX7_napping 27 = .ok (.goto 4, 3) := by decide +kernel
theorem dX7_napping_30 : decode cX7_napping 30 = .ok (.iconst 0, 1) := by decide +kernel
theorem dX7_napping_31 : decode cX7_napping 31 = .ok (.ior, 1) := by decide +kernel
theorem dX7_napping_32 : decode cX7_napping 32 = .ok (.istore_n 1, 1) := by decide +kernel
theorem dX7_napping_33 : decode cX7_napping 33 = .ok (.iinc 2 1, 3) := by decide +kernel
theorem dX7_napping_36 : decode cX7_napping 36 = .ok (.goto (-32), 3) := by decide +kernel
theorem dX7_napping_39 : decode cX7_napping 39 = .ok (.iload_n 1, 1) := by decide +kernel
theorem dX7_napping_40 : decode cX7_napping 40 = .ok (.ireturn, 1) := by decide +kernel
theorem dX7_all_0 : decode cX7_all 0 = .ok (.iconst 0, 1) := by decide +kernel
theorem dX7_all_1 : decode cX7_all 1 = .ok (.istore_n 2, 1) := by decide +kernel
theorem dX7_all_2 : decode cX7_all 2 = .ok (.iconst 0, 1) := by decide +kernel
theorem dX7_all_3 : decode cX7_all 3 = .ok (.istore_n 3, 1) := by decide +kernel
theorem dX7_all_4 : decode cX7_all 4 = .ok (.iload_n 3, 1) := by decide +kernel
theorem dX7_all_5 : decode cX7_all 5 = .ok (.aload_n 0, 1) := by decide +kernel
theorem dX7_all_6 : decode cX7_all 6 = .ok (.getfield 7, 3) := by decide +kernel
theorem dX7_all_9 : decode cX7_all 9 = .ok (.iconst 5, 1) := by decide +kernel
theorem dX7_all_10 : decode cX7_all 10 = .ok (.iaload, 1) := by decide +kernel
theorem dX7_all_11 : decode cX7_all 11 = .ok (.if_icmp .ge 24, 3) := by decide +kernel
theorem dX7_all_14 : decode cX7_all 14 = .ok (.iload_n 2, 1) := by decide +kernel
theorem dX7_all_15 : decode cX7_all 15 = .ok (.aload_n 0, 1) := by decide +kernel
theorem dX7_all_16 : decode cX7_all 16 = .ok (.getfield 7, 3) := by decide +kernel
theorem dX7_all_19 : decode cX7_all 19 = .ok (.iconst 0, 1) := by decide +kernel
theorem dX7_all_20 : decode cX7_all 20 = .ok (.iload_n 3, 1) := by decide +kernel
theorem dX7_all_21 : decode cX7_all 21 = .ok (.invokestatic 28, 3) := by decide +kernel
theorem dX7_all_24 : decode cX7_all 24 = .ok (.iload_n 1, 1) := by decide +kernel
theorem dX7_all_25 : decode cX7_all 25 = .ok (.iadd, 1) := by decide +kernel
theorem dX7_all_26 : decode cX7_all 26 = .ok (.iaload, 1) := by decide +kernel
theorem dX7_all_27 : decode cX7_all 27 = .ok (.iadd, 1) := by decide +kernel
theorem dX7_all_28 : decode cX7_all 28 = .ok (.istore_n 2, 1) := by decide +kernel
theorem dX7_all_29 : decode cX7_all 29 = .ok (.iinc 3 1, 3) := by decide +kernel
theorem dX7_all_32 : decode cX7_all 32 = .ok (.goto (-28), 3) := by decide +kernel
theorem dX7_all_35 : decode cX7_all 35 = .ok (.iload_n 2, 1) := by decide +kernel
theorem dX7_all_36 : decode cX7_all 36 = .ok (.ireturn, 1) := by decide +kernel
theorem dX7_pairs_0 : decode cX7_pairs 0 = .ok (.iconst 0, 1) := by decide +kernel
theorem dX7_pairs_1 : decode cX7_pairs 1 = .ok (.istore_n 1, 1) := by decide +kernel
theorem dX7_pairs_2 : decode cX7_pairs 2 = .ok (.iconst 0, 1) := by decide +kernel
theorem dX7_pairs_3 : decode cX7_pairs 3 = .ok (.istore_n 2, 1) := by decide +kernel
theorem dX7_pairs_4 : decode cX7_pairs 4 = .ok (.iload_n 2, 1) := by decide +kernel
theorem dX7_pairs_5 : decode cX7_pairs 5 = .ok (.aload_n 0, 1) := by decide +kernel
theorem dX7_pairs_6 : decode cX7_pairs 6 = .ok (.getfield 7, 3) := by decide +kernel
theorem dX7_pairs_9 : decode cX7_pairs 9 = .ok (.iconst 5, 1) := by decide +kernel
theorem dX7_pairs_10 : decode cX7_pairs 10 = .ok (.iaload, 1) := by decide +kernel
theorem dX7_pairs_11 : decode cX7_pairs 11 = .ok (.if_icmp .ge 21, 3) := by decide +kernel
theorem dX7_pairs_14 : decode cX7_pairs 14 = .ok (.iload_n 1, 1) := by decide +kernel
theorem dX7_pairs_15 : decode cX7_pairs 15 = .ok (.aload_n 0, 1) := by decide +kernel
theorem dX7_pairs_16 : decode cX7_pairs 16 = .ok (.iconst 0, 1) := by decide +kernel
theorem dX7_pairs_17 : decode cX7_pairs 17 = .ok (.iload_n 2, 1) := by decide +kernel
theorem dX7_pairs_18 : decode cX7_pairs 18 = .ok (.invokevirtual 53, 3) := by decide +kernel
theorem dX7_pairs_21 : decode cX7_pairs 21 = .ok (.invokestatic 180, 3) := by decide +kernel
theorem dX7_pairs_24 : decode cX7_pairs 24 = .ok (.iadd, 1) := by decide +kernel
theorem dX7_pairs_25 : decode cX7_pairs 25 = .ok (.istore_n 1, 1) := by decide +kernel
theorem dX7_pairs_26 : decode cX7_pairs 26 = .ok (.iinc 2 1, 3) := by decide +kernel
theorem dX7_pairs_29 : decode cX7_pairs 29 = .ok (.goto (-25), 3) := by decide +kernel
theorem dX7_pairs_32 : decode cX7_pairs 32 = .ok (.iload_n 1, 1) := by decide +kernel
theorem dX7_pairs_33 : decode cX7_pairs 33 = .ok (.iconst 2, 1) := by decide +kernel
theorem dX7_pairs_34 : decode cX7_pairs 34 = .ok (.idiv, 1) := by decide +kernel
theorem dX7_pairs_35 : decode cX7_pairs 35 = .ok (.ireturn, 1) := by decide +kernel
theorem dX7_count_0 : decode cX7_count 0 = .ok (.iload_n 1, 1) := by decide +kernel
theorem dX7_count_1 : decode cX7_count 1 = .ok (.tableswitch 169 0 16 #[83, 90, 97, 102, 110, 110, 110, 120, 125, 133, 141, 149, 149, 149, 149, 159, 164], 83) := by decide +kernel
theorem dX7_count_84 : decode cX7_count 84 = .ok (.aload_n 0, 1) := by decide +kernel
theorem dX7_count_85 : decode cX7_count 85 = .ok (.getfield 7, 3) := by decide +kernel
theorem dX7_count_88 : decode cX7_count 88 = .ok (.iconst 4, 1) := by decide +kernel
theorem dX7_count_89 : decode cX7_count 89 = .ok (.iaload, 1) := by decide +kernel
theorem dX7_count_90 : decode cX7_count 90 = .ok (.ireturn, 1) := by decide +kernel
theorem dX7_count_91 : decode cX7_count 91 = .ok (.aload_n 0, 1) := by decide +kernel
theorem dX7_count_92 : decode cX7_count 92 = .ok (.getfield 7, 3) := by decide +kernel
theorem dX7_count_95 : decode cX7_count 95 = .ok (.iconst 5, 1) := by decide +kernel
theorem dX7_count_96 : decode cX7_count 96 = .ok (.iaload, 1) := by decide +kernel
theorem dX7_count_97 : decode cX7_count 97 = .ok (.ireturn, 1) := by decide +kernel
theorem dX7_count_98 : decode cX7_count 98 = .ok (.aload_n 0, 1) := by decide +kernel
theorem dX7_count_99 : decode cX7_count 99 = .ok (.invokevirtual 183, 3) := by decide +kernel
theorem dX7_count_102 : decode cX7_count 102 = .ok (.ireturn, 1) := by decide +kernel
theorem dX7_count_103 : decode cX7_count 103 = .ok (.aload_n 0, 1) := by decide +kernel
theorem dX7_count_104 : decode cX7_count 104 = .ok (.getfield 7, 3) := by decide +kernel
theorem dX7_count_107 : decode cX7_count 107 = .ok (.bipush 8, 2) := by decide +kernel
theorem dX7_count_109 : decode cX7_count 109 = .ok (.iaload, 1) := by decide +kernel
theorem dX7_count_110 : decode cX7_count 110 = .ok (.ireturn, 1) := by decide +kernel
theorem dX7_count_111 : decode cX7_count 111 = .ok (.aload_n 0, 1) := by decide +kernel
theorem dX7_count_112 : decode cX7_count 112 = .ok (.iconst 4, 1) := by decide +kernel
theorem dX7_count_113 : decode cX7_count 113 = .ok (.iload_n 1, 1) := by decide +kernel
theorem dX7_count_114 : decode cX7_count 114 = .ok (.iadd, 1) := by decide +kernel
theorem dX7_count_115 : decode cX7_count 115 = .ok (.iconst 4, 1) := by decide +kernel
theorem dX7_count_116 : decode cX7_count 116 = .ok (.isub, 1) := by decide +kernel
theorem dX7_count_117 : decode cX7_count 117 = .ok (.invokevirtual 187, 3) := by decide +kernel
theorem dX7_count_120 : decode cX7_count 120 = .ok (.ireturn, 1) := by decide +kernel
theorem dX7_count_121 : decode cX7_count 121 = .ok (.aload_n 0, 1) := by decide +kernel
theorem dX7_count_122 : decode cX7_count 122 = .ok (.invokevirtual 190, 3) := by decide +kernel
theorem dX7_count_125 : decode cX7_count 125 = .ok (.ireturn, 1) := by decide +kernel
theorem dX7_count_126 : decode cX7_count 126 = .ok (.aload_n 0, 1) := by decide +kernel
theorem dX7_count_127 : decode cX7_count 127 = .ok (.getfield 7, 3) := by decide +kernel
theorem dX7_count_130 : decode cX7_count 130 = .ok (.bipush 6, 2) := by decide +kernel
theorem dX7_count_132 : decode cX7_count 132 = .ok (.iaload, 1) := by decide +kernel
theorem dX7_count_133 : decode cX7_count 133 = .ok (.ireturn, 1) := by decide +kernel
theorem dX7_count_134 : decode cX7_count 134 = .ok (.aload_n 0, 1) := by decide +kernel
theorem dX7_count_135 : decode cX7_count 135 = .ok (.getfield 7, 3) := by decide +kernel
theorem dX7_count_138 : decode cX7_count 138 = .ok (.bipush 7, 2) := by decide +kernel
theorem dX7_count_140 : decode cX7_count 140 = .ok (.iaload, 1) := by decide +kernel
theorem dX7_count_141 : decode cX7_count 141 = .ok (.ireturn, 1) := by decide +kernel
theorem dX7_count_142 : decode cX7_count 142 = .ok (.aload_n 0, 1) := by decide +kernel
theorem dX7_count_143 : decode cX7_count 143 = .ok (.getfield 7, 3) := by decide +kernel
theorem dX7_count_146 : decode cX7_count 146 = .ok (.bipush 9, 2) := by decide +kernel
theorem dX7_count_148 : decode cX7_count 148 = .ok (.iaload, 1) := by decide +kernel
theorem dX7_count_149 : decode cX7_count 149 = .ok (.ireturn, 1) := by decide +kernel
theorem dX7_count_150 : decode cX7_count 150 = .ok (.aload_n 0, 1) := by decide +kernel
theorem dX7_count_151 : decode cX7_count 151 = .ok (.getfield 7, 3) := by decide +kernel
theorem dX7_count_154 : decode cX7_count 154 = .ok (.iload_n 1, 1) := by decide +kernel
theorem dX7_count_155 : decode cX7_count 155 = .ok (.bipush 11, 2) := by decide +kernel
theorem dX7_count_157 : decode cX7_count 157 = .ok (.isub, 1) := by decide +kernel
theorem dX7_count_158 : decode cX7_count 158 = .ok (.iaload, 1) := by decide +kernel
theorem dX7_count_159 : decode cX7_count 159 = .ok (.ireturn, 1) := by decide +kernel
theorem dX7_count_160 : decode cX7_count 160 = .ok (.aload_n 0, 1) := by decide +kernel
theorem dX7_count_161 : decode cX7_count 161 = .ok (.getfield 193, 3) := by decide +kernel
theorem dX7_count_164 : decode cX7_count 164 = .ok (.ireturn, 1) := by decide +kernel
theorem dX7_count_165 : decode cX7_count 165 = .ok (.aload_n 0, 1) := by decide +kernel
theorem dX7_count_166 : decode cX7_count 166 = .ok (.getfield 20, 3) := by decide +kernel
theorem dX7_count_169 : decode cX7_count 169 = .ok (.ireturn, 1) := by decide +kernel
theorem dX7_count_170 : decode cX7_count 170 = .ok (.bipush (-2), 2) := by decide +kernel
theorem dX7_count_172 : decode cX7_count 172 = .ok (.ireturn, 1) := by decide +kernel
theorem dX7_why_0 : decode cX7_why 0 = .ok (.aload_n 0, 1) := by decide +kernel
theorem dX7_why_1 : decode cX7_why 1 = .ok (.iload_n 1, 1) := by decide +kernel
theorem dX7_why_2 : decode cX7_why 2 = .ok (.invokevirtual 103, 3) := by decide +kernel
theorem dX7_why_5 : decode cX7_why 5 = .ok (.ifCond .ne 7, 3) := by decide +kernel
theorem dX7_why_8 : decode cX7_why 8 = .ok (.iconst (-1), 1) := by decide +kernel
theorem dX7_why_9 : decode cX7_why 9 = .ok (.goto 22, 3) := by decide +kernel
theorem dX7_why_12 : decode cX7_why 12 = .ok (.iload_n 2, 1) := by decide +kernel
theorem dX7_why_13 : decode cX7_why 13 = .ok (.invokestatic 107, 3) := by decide +kernel
theorem dX7_why_16 : decode cX7_why 16 = .ok (.ifCond .ne 8, 3) := by decide +kernel
theorem dX7_why_19 : decode cX7_why 19 = .ok (.bipush (-2), 2) := by decide +kernel
theorem dX7_why_21 : decode cX7_why 21 = .ok (.goto 10, 3) := by decide +kernel
theorem dX7_why_24 : decode cX7_why 24 = .ok (.aload_n 0, 1) := by decide +kernel
theorem dX7_why_25 : decode cX7_why 25 = .ok (.iconst 0, 1) := by decide +kernel
theorem dX7_why_26 : decode cX7_why 26 = .ok (.iload_n 1, 1) := by decide +kernel
theorem dX7_why_27 : decode cX7_why 27 = .ok (.iload_n 2, 1) := by decide +kernel
theorem dX7_why_28 : decode cX7_why 28 = .ok (.invokevirtual 90, 3) := by decide +kernel
theorem dX7_why_31 : decode cX7_why 31 = .ok (.ireturn, 1) := by decide +kernel
theorem dX7_ifLeapt_0 : decode cX7_ifLeapt 0 = .ok (.aload_n 0, 1) := by decide +kernel
theorem dX7_ifLeapt_1 : decode cX7_ifLeapt 1 = .ok (.iload_n 1, 1) := by decide +kernel
theorem dX7_ifLeapt_2 : decode cX7_ifLeapt 2 = .ok (.invokevirtual 103, 3) := by decide +kernel
theorem dX7_ifLeapt_5 : decode cX7_ifLeapt 5 = .ok (.ifCond .ne 5, 3) := by decide +kernel
theorem dX7_ifLeapt_8 : decode cX7_ifLeapt 8 = .ok (.iconst (-1), 1) := by decide +kernel
theorem dX7_ifLeapt_9 : decode cX7_ifLeapt 9 = .ok (.ireturn, 1) := by decide +kernel
theorem dX7_ifLeapt_10 : decode cX7_ifLeapt 10 = .ok (.iload_n 2, 1) := by decide +kernel
theorem dX7_ifLeapt_11 : decode cX7_ifLeapt 11 = .ok (.invokestatic 107, 3) := by decide +kernel
theorem dX7_ifLeapt_14 : decode cX7_ifLeapt 14 = .ok (.ifCond .eq 15, 3) := by decide +kernel
theorem dX7_ifLeapt_17 : decode cX7_ifLeapt 17 = .ok (.iload_n 3, 1) := by decide +kernel
theorem dX7_ifLeapt_18 : decode cX7_ifLeapt 18 = .ok (.i2l, 1) := by decide +kernel
theorem dX7_ifLeapt_19 : decode cX7_ifLeapt 19 = .ok (.lconst 0, 1) := by decide +kernel
theorem dX7_ifLeapt_20 : decode cX7_ifLeapt 20 = .ok (.ldc2_w 196, 3) := by decide +kernel
theorem dX7_ifLeapt_23 : decode cX7_ifLeapt 23 = .ok (.invokestatic 70, 3) := by decide +kernel
theorem dX7_ifLeapt_26 : decode cX7_ifLeapt 26 = .ok (.ifCond .ne 6, 3) := by decide +kernel
theorem dX7_ifLeapt_29 : decode cX7_ifLeapt 29 = .ok (.bipush (-2), 2) := by decide +kernel
theorem dX7_ifLeapt_31 : decode cX7_ifLeapt 31 = .ok (.ireturn, 1) := by decide +kernel
theorem dX7_ifLeapt_32 : decode cX7_ifLeapt 32 = .ok (.aload_n 0, 1) := by decide +kernel
theorem dX7_ifLeapt_33 : decode cX7_ifLeapt 33 = .ok (.iconst 0, 1) := by decide +kernel
theorem dX7_ifLeapt_34 : decode cX7_ifLeapt 34 = .ok (.iload_n 1, 1) := by decide +kernel
theorem dX7_ifLeapt_35 : decode cX7_ifLeapt 35 = .ok (.iload_n 2, 1) := by decide +kernel
theorem dX7_ifLeapt_36 : decode cX7_ifLeapt 36 = .ok (.invokevirtual 90, 3) := by decide +kernel
theorem dX7_ifLeapt_39 : decode cX7_ifLeapt 39 = .ok (.ifCond .eq 6, 3) := by decide +kernel
theorem dX7_ifLeapt_42 : decode cX7_ifLeapt 42 = .ok (.bipush (-5), 2) := by decide +kernel
theorem dX7_ifLeapt_44 : decode cX7_ifLeapt 44 = .ok (.ireturn, 1) := by decide +kernel
theorem dX7_ifLeapt_45 : decode cX7_ifLeapt 45 = .ok (.aload_n 0, 1) := by decide +kernel
theorem dX7_ifLeapt_46 : decode cX7_ifLeapt 46 = .ok (.iconst 0, 1) := by decide +kernel
theorem dX7_ifLeapt_47 : decode cX7_ifLeapt 47 = .ok (.bipush 9, 2) := by decide +kernel
theorem dX7_ifLeapt_49 : decode cX7_ifLeapt 49 = .ok (.invokevirtual 24, 3) := by decide +kernel
theorem dX7_ifLeapt_52 : decode cX7_ifLeapt 52 = .ok (.sipush 3060, 3) := by decide +kernel
theorem dX7_ifLeapt_55 : decode cX7_ifLeapt 55 = .ok (.istore 4, 2) := by decide +kernel
theorem dX7_ifLeapt_57 : decode cX7_ifLeapt 57 = .ok (.aload_n 0, 1) := by decide +kernel
theorem dX7_ifLeapt_58 : decode cX7_ifLeapt 58 = .ok (.iload 4, 2) := by decide +kernel
theorem dX7_ifLeapt_60 : decode cX7_ifLeapt 60 = .ok (.iload_n 1, 1) := by decide +kernel
theorem dX7_ifLeapt_61 : decode cX7_ifLeapt 61 = .ok (.iload_n 2, 1) := by decide +kernel
theorem dX7_ifLeapt_62 : decode cX7_ifLeapt 62 = .ok (.invokevirtual 93, 3) := by decide +kernel
theorem dX7_ifLeapt_65 : decode cX7_ifLeapt 65 = .ok (.istore 5, 2) := by decide +kernel
theorem dX7_ifLeapt_67 : decode cX7_ifLeapt 67 = .ok (.aload_n 0, 1) := by decide +kernel
theorem dX7_ifLeapt_68 : decode cX7_ifLeapt 68 = .ok (.iconst 0, 1) := by decide +kernel
theorem dX7_ifLeapt_69 : decode cX7_ifLeapt 69 = .ok (.iload_n 1, 1) := by decide +kernel
theorem dX7_ifLeapt_70 : decode cX7_ifLeapt 70 = .ok (.invokevirtual 53, 3) := by decide +kernel
theorem dX7_ifLeapt_73 : decode cX7_ifLeapt 73 = .ok (.istore 6, 2) := by decide +kernel
theorem dX7_ifLeapt_75 : decode cX7_ifLeapt 75 = .ok (.aload_n 0, 1) := by decide +kernel
theorem dX7_ifLeapt_76 : decode cX7_ifLeapt 76 = .ok (.iload 4, 2) := by decide +kernel
theorem dX7_ifLeapt_78 : decode cX7_ifLeapt 78 = .ok (.iload_n 1, 1) := by decide +kernel
theorem dX7_ifLeapt_79 : decode cX7_ifLeapt 79 = .ok (.invokevirtual 53, 3) := by decide +kernel
theorem dX7_ifLeapt_82 : decode cX7_ifLeapt 82 = .ok (.istore 7, 2) := by decide +kernel
theorem dX7_ifLeapt_84 : decode cX7_ifLeapt 84 = .ok (.iconst 0, 1) := by decide +kernel
theorem dX7_ifLeapt_85 : decode cX7_ifLeapt 85 = .ok (.iload_n 1, 1) := by decide +kernel
theorem dX7_ifLeapt_86 : decode cX7_ifLeapt 86 = .ok (.invokestatic 28, 3) := by decide +kernel
theorem dX7_ifLeapt_89 : decode cX7_ifLeapt 89 = .ok (.istore 8, 2) := by decide +kernel
theorem dX7_ifLeapt_91 : decode cX7_ifLeapt 91 = .ok (.iload_n 3, 1) := by decide +kernel
theorem dX7_ifLeapt_92 : decode cX7_ifLeapt 92 = .ok (.ifCond .ne 28, 3) := by decide +kernel
theorem dX7_ifLeapt_95 : decode cX7_ifLeapt 95 = .ok (.aload_n 0, 1) := by decide +kernel
theorem dX7_ifLeapt_96 : decode cX7_ifLeapt 96 = .ok (.getfield 7, 3) := by decide +kernel
theorem dX7_ifLeapt_99 : decode cX7_ifLeapt 99 = .ok (.iload 4, 2) := by decide +kernel
theorem dX7_ifLeapt_101 : decode cX7_ifLeapt 101 = .ok (.iload 8, 2) := by decide +kernel
theorem dX7_ifLeapt_103 : decode cX7_ifLeapt 103 = .ok (.iadd, 1) := by decide +kernel
theorem dX7_ifLeapt_104 : decode cX7_ifLeapt 104 = .ok (.iconst 4, 1) := by decide +kernel
theorem dX7_ifLeapt_105 : decode cX7_ifLeapt 105 = .ok (.iadd, 1) := by decide +kernel
theorem dX7_ifLeapt_106 : decode cX7_ifLeapt 106 = .ok (.iaload, 1) := by decide +kernel
theorem dX7_ifLeapt_107 : decode cX7_ifLeapt 107 = .ok (.aload_n 0, 1) := by decide +kernel
theorem dX7_ifLeapt_108 : decode cX7_ifLeapt 108 = .ok (.getfield 7, 3) := by decide +kernel
theorem dX7_ifLeapt_111 : decode cX7_ifLeapt 111 = .ok (.iload 8, 2) := by decide +kernel
theorem dX7_ifLeapt_113 : decode cX7_ifLeapt 113 = .ok (.iconst 4, 1) := by decide +kernel
theorem dX7_ifLeapt_114 : decode cX7_ifLeapt 114 = .ok (.iadd, 1) := by decide +kernel
theorem dX7_ifLeapt_115 : decode cX7_ifLeapt 115 = .ok (.iaload, 1) := by decide +kernel
theorem dX7_ifLeapt_116 : decode cX7_ifLeapt 116 = .ok (.isub, 1) := by decide +kernel
theorem dX7_ifLeapt_117 : decode cX7_ifLeapt 117 = .ok (.goto 55, 3) := by decide +kernel
theorem dX7_ifLeapt_120 : decode cX7_ifLeapt 120 = .ok (.iload_n 3, 1) := by decide +kernel
theorem dX7_ifLeapt_121 : decode cX7_ifLeapt 121 = .ok (.iconst 1, 1) := by decide +kernel
theorem dX7_ifLeapt_122 : decode cX7_ifLeapt 122 = .ok (.if_icmp .ne 28, 3) := by decide +kernel
theorem dX7_ifLeapt_125 : decode cX7_ifLeapt 125 = .ok (.aload_n 0, 1) := by decide +kernel
theorem dX7_ifLeapt_126 : decode cX7_ifLeapt 126 = .ok (.getfield 7, 3) := by decide +kernel
theorem dX7_ifLeapt_129 : decode cX7_ifLeapt 129 = .ok (.iload 4, 2) := by decide +kernel
theorem dX7_ifLeapt_131 : decode cX7_ifLeapt 131 = .ok (.iload 8, 2) := by decide +kernel
theorem dX7_ifLeapt_133 : decode cX7_ifLeapt 133 = .ok (.iadd, 1) := by decide +kernel
theorem dX7_ifLeapt_134 : decode cX7_ifLeapt 134 = .ok (.iconst 5, 1) := by decide +kernel
theorem dX7_ifLeapt_135 : decode cX7_ifLeapt 135 = .ok (.iadd, 1) := by decide +kernel
theorem dX7_ifLeapt_136 : decode cX7_ifLeapt 136 = .ok (.iaload, 1) := by decide +kernel
theorem dX7_ifLeapt_137 : decode cX7_ifLeapt 137 = .ok (.aload_n 0, 1) := by decide +kernel
theorem dX7_ifLeapt_138 : decode cX7_ifLeapt 138 = .ok (.getfield 7, 3) := by decide +kernel
theorem dX7_ifLeapt_141 : decode cX7_ifLeapt 141 = .ok (.iload 8, 2) := by decide +kernel
theorem dX7_ifLeapt_143 : decode cX7_ifLeapt 143 = .ok (.iconst 5, 1) := by decide +kernel
theorem dX7_ifLeapt_144 : decode cX7_ifLeapt 144 = .ok (.iadd, 1) := by decide +kernel
theorem dX7_ifLeapt_145 : decode cX7_ifLeapt 145 = .ok (.iaload, 1) := by decide +kernel
theorem dX7_ifLeapt_146 : decode cX7_ifLeapt 146 = .ok (.isub, 1) := by decide +kernel
theorem dX7_ifLeapt_147 : decode cX7_ifLeapt 147 = .ok (.goto 25, 3) := by decide +kernel
theorem dX7_ifLeapt_150 : decode cX7_ifLeapt 150 = .ok (.iload_n 3, 1) := by decide +kernel
theorem dX7_ifLeapt_151 : decode cX7_ifLeapt 151 = .ok (.iconst 2, 1) := by decide +kernel
theorem dX7_ifLeapt_152 : decode cX7_ifLeapt 152 = .ok (.if_icmp .ne 13, 3) := by decide +kernel
theorem dX7_ifLeapt_155 : decode cX7_ifLeapt 155 = .ok (.iload 7, 2) := by decide +kernel
theorem dX7_ifLeapt_157 : decode cX7_ifLeapt 157 = .ok (.iload 6, 2) := by decide +kernel
theorem dX7_ifLeapt_159 : decode cX7_ifLeapt 159 = .ok (.iconst (-1), 1) := by decide +kernel
theorem dX7_ifLeapt_160 : decode cX7_ifLeapt 160 = .ok (.ixor, 1) := by decide +kernel
theorem dX7_ifLeapt_161 : decode cX7_ifLeapt 161 = .ok (.iand, 1) := by decide +kernel
theorem dX7_ifLeapt_162 : decode cX7_ifLeapt 162 = .ok (.goto 10, 3) := by decide +kernel
theorem dX7_ifLeapt_165 : decode cX7_ifLeapt 165 = .ok (.iload 6, 2) := by decide +kernel
theorem dX7_ifLeapt_167 : decode cX7_ifLeapt 167 = .ok (.iload 7, 2) := by decide +kernel
theorem dX7_ifLeapt_169 : decode cX7_ifLeapt 169 = .ok (.iconst (-1), 1) := by decide +kernel
theorem dX7_ifLeapt_170 : decode cX7_ifLeapt 170 = .ok (.ixor, 1) := by decide +kernel
theorem dX7_ifLeapt_171 : decode cX7_ifLeapt 171 = .ok (.iand, 1) := by decide +kernel
theorem dX7_ifLeapt_172 : decode cX7_ifLeapt 172 = .ok (.ireturn, 1) := by decide +kernel
theorem dX7_sorting_0 : decode cX7_sorting 0 = .ok (.aload_n 0, 1) := by decide +kernel
theorem dX7_sorting_1 : decode cX7_sorting 1 = .ok (.iload_n 1, 1) := by decide +kernel
theorem dX7_sorting_2 : decode cX7_sorting 2 = .ok (.iload_n 2, 1) := by decide +kernel
theorem dX7_sorting_3 : decode cX7_sorting 3 = .ok (.invokevirtual 113, 3) := by decide +kernel
theorem dX7_sorting_6 : decode cX7_sorting 6 = .ok (.istore 4, 2) := by decide +kernel
theorem dX7_sorting_8 : decode cX7_sorting 8 = .ok (.iload 4, 2) := by decide +kernel
theorem dX7_sorting_10 : decode cX7_sorting 10 = .ok (.istore 5, 2) := by decide +kernel
theorem dX7_sorting_12 : decode cX7_sorting 12 = .ok (.iconst 0, 1) := by decide +kernel
theorem dX7_sorting_13 : decode cX7_sorting 13 = .ok (.istore 6, 2) := by decide +kernel
theorem dX7_sorting_15 : decode cX7_sorting 15 = .ok (.iload 6, 2) := by decide +kernel
theorem dX7_sorting_17 : decode cX7_sorting 17 = .ok (.aload_n 0, 1) := by decide +kernel
theorem dX7_sorting_18 : decode cX7_sorting 18 = .ok (.getfield 7, 3) := by decide +kernel
theorem dX7_sorting_21 : decode cX7_sorting 21 = .ok (.bipush 8, 2) := by decide +kernel
theorem dX7_sorting_23 : decode cX7_sorting 23 = .ok (.iaload, 1) := by decide +kernel
theorem dX7_sorting_24 : decode cX7_sorting 24 = .ok (.if_icmp .ge 61, 3) := by decide +kernel
theorem dX7_sorting_27 : decode cX7_sorting 27 = .ok (.aload_n 0, 1) := by decide +kernel
theorem dX7_sorting_28 : decode cX7_sorting 28 = .ok (.iconst 0, 1) := by decide +kernel
theorem dX7_sorting_29 : decode cX7_sorting 29 = .ok (.iload 6, 2) := by decide +kernel
theorem dX7_sorting_31 : decode cX7_sorting 31 = .ok (.iload_n 1, 1) := by decide +kernel
theorem dX7_sorting_32 : decode cX7_sorting 32 = .ok (.invokevirtual 32, 3) := by decide +kernel
theorem dX7_sorting_35 : decode cX7_sorting 35 = .ok (.istore 7, 2) := by decide +kernel
theorem dX7_sorting_37 : decode cX7_sorting 37 = .ok (.iload 4, 2) := by decide +kernel
theorem dX7_sorting_39 : decode cX7_sorting 39 = .ok (.iload 7, 2) := by decide +kernel
theorem dX7_sorting_41 : decode cX7_sorting 41 = .ok (.iload_n 2, 1) := by decide +kernel
theorem dX7_sorting_42 : decode cX7_sorting 42 = .ok (.if_icmp .ne 7, 3) := by decide +kernel
theorem dX7_sorting_45 : decode cX7_sorting 45 = .ok (.iconst (-1), 1) := by decide +kernel
theorem dX7_sorting_46 : decode cX7_sorting 46 = .ok (.goto 14, 3) := by decide +kernel
theorem dX7_sorting_49 : decode cX7_sorting 49 = .ok (.iload 7, 2) := by decide +kernel
theorem dX7_sorting_51 : decode cX7_sorting 51 = .ok (.iload_n 3, 1) := by decide +kernel
theorem dX7_sorting_52 : decode cX7_sorting 52 = .ok (.if_icmp .ne 7, 3) := by decide +kernel
theorem dX7_sorting_55 : decode cX7_sorting 55 = .ok (.iconst 1, 1) := by decide +kernel
theorem dX7_sorting_56 : decode cX7_sorting 56 = .ok (.goto 4, 3) := by decide +kernel
theorem dX7_sorting_59 : decode cX7_sorting 59 = .ok (.iconst 0, 1) := by decide +kernel
theorem dX7_sorting_60 : decode cX7_sorting 60 = .ok (.iadd, 1) := by decide +kernel
theorem dX7_sorting_61 : decode cX7_sorting 61 = .ok (.istore 4, 2) := by decide +kernel
theorem dX7_sorting_63 : decode cX7_sorting 63 = .ok (.iload 4, 2) := by decide +kernel
theorem dX7_sorting_65 : decode cX7_sorting 65 = .ok (.iload 5, 2) := by decide +kernel
theorem dX7_sorting_67 : decode cX7_sorting 67 = .ok (.if_icmp .ge 8, 3) := by decide +kernel
theorem dX7_sorting_70 : decode cX7_sorting 70 = .ok (.iload 4, 2) := by decide +kernel
theorem dX7_sorting_72 : decode cX7_sorting 72 = .ok (.goto 5, 3) := by decide +kernel
theorem dX7_sorting_75 : decode cX7_sorting 75 = .ok (.iload 5, 2) := by decide +kernel
theorem dX7_sorting_77 : decode cX7_sorting 77 = .ok (.istore 5, 2) := by decide +kernel
theorem dX7_sorting_79 : decode cX7_sorting 79 = .ok (.iinc 6 1, 3) := by decide +kernel
theorem dX7_sorting_82 : decode cX7_sorting 82 = .ok (.goto (-67), 3) := by decide +kernel
theorem dX7_sorting_85 : decode cX7_sorting 85 = .ok (.iload 5, 2) := by decide +kernel
theorem dX7_sorting_87 : decode cX7_sorting 87 = .ok (.ireturn, 1) := by decide +kernel
theorem dX7_frees_0 : decode cX7_frees 0 = .ok (.aload_n 0, 1) := by decide +kernel
theorem dX7_frees_1 : decode cX7_frees 1 = .ok (.iload_n 1, 1) := by decide +kernel
theorem dX7_frees_2 : decode cX7_frees 2 = .ok (.invokevirtual 103, 3) := by decide +kernel
theorem dX7_frees_5 : decode cX7_frees 5 = .ok (.ifCond .eq 11, 3) := by decide +kernel
theorem dX7_frees_8 : decode cX7_frees 8 = .ok (.aload_n 0, 1) := by decide +kernel
theorem dX7_frees_9 : decode cX7_frees 9 = .ok (.iload_n 2, 1) := by decide +kernel
theorem dX7_frees_10 : decode cX7_frees 10 = .ok (.invokevirtual 103, 3) := by decide +kernel
theorem dX7_frees_13 : decode cX7_frees 13 = .ok (.ifCond .ne 5, 3) := by decide +kernel
theorem dX7_frees_16 : decode cX7_frees 16 = .ok (.iconst (-1), 1) := by decide +kernel
theorem dX7_frees_17 : decode cX7_frees 17 = .ok (.ireturn, 1) := by decide +kernel
theorem dX7_frees_18 : decode cX7_frees 18 = .ok (.iload_n 1, 1) := by decide +kernel
theorem dX7_frees_19 : decode cX7_frees 19 = .ok (.iload_n 2, 1) := by decide +kernel
theorem dX7_frees_20 : decode cX7_frees 20 = .ok (.if_icmp .ne 6, 3) := by decide +kernel
theorem dX7_frees_23 : decode cX7_frees 23 = .ok (.bipush (-2), 2) := by decide +kernel
theorem dX7_frees_25 : decode cX7_frees 25 = .ok (.ireturn, 1) := by decide +kernel
theorem dX7_frees_26 : decode cX7_frees 26 = .ok (.iconst 0, 1) := by decide +kernel
theorem dX7_frees_27 : decode cX7_frees 27 = .ok (.istore_n 3, 1) := by decide +kernel
theorem dX7_frees_28 : decode cX7_frees 28 = .ok (.iconst 0, 1) := by decide +kernel
theorem dX7_frees_29 : decode cX7_frees 29 = .ok (.istore 4, 2) := by decide +kernel
theorem dX7_frees_31 : decode cX7_frees 31 = .ok (.iload 4, 2) := by decide +kernel
theorem dX7_frees_33 : decode cX7_frees 33 = .ok (.bipush 15, 2) := by decide +kernel
theorem dX7_frees_35 : decode cX7_frees 35 = .ok (.if_icmp .ge 46, 3) := by decide +kernel
theorem dX7_frees_38 : decode cX7_frees 38 = .ok (.aload_n 0, 1) := by decide +kernel
theorem dX7_frees_39 : decode cX7_frees 39 = .ok (.iload 4, 2) := by decide +kernel
theorem dX7_frees_41 : decode cX7_frees 41 = .ok (.iload_n 1, 1) := by decide +kernel
theorem dX7_frees_42 : decode cX7_frees 42 = .ok (.iload_n 2, 1) := by decide +kernel
theorem dX7_frees_43 : decode cX7_frees 43 = .ok (.invokevirtual 198, 3) := by decide +kernel
theorem dX7_frees_46 : decode cX7_frees 46 = .ok (.istore 5, 2) := by decide +kernel
theorem dX7_frees_48 : decode cX7_frees 48 = .ok (.aload_n 0, 1) := by decide +kernel
theorem dX7_frees_49 : decode cX7_frees 49 = .ok (.iload 4, 2) := by decide +kernel
theorem dX7_frees_51 : decode cX7_frees 51 = .ok (.iload_n 2, 1) := by decide +kernel
theorem dX7_frees_52 : decode cX7_frees 52 = .ok (.iload_n 1, 1) := by decide +kernel
theorem dX7_frees_53 : decode cX7_frees 53 = .ok (.invokevirtual 198, 3) := by decide +kernel
theorem dX7_frees_56 : decode cX7_frees 56 = .ok (.istore 6, 2) := by decide +kernel
theorem dX7_frees_58 : decode cX7_frees 58 = .ok (.iload_n 3, 1) := by decide +kernel
theorem dX7_frees_59 : decode cX7_frees 59 = .ok (.iload 5, 2) := by decide +kernel
theorem dX7_frees_61 : decode cX7_frees 61 = .ok (.iload 6, 2) := by decide +kernel
theorem dX7_frees_63 : decode cX7_frees 63 = .ok (.if_icmp .ge 8, 3) := by decide +kernel
theorem dX7_frees_66 : decode cX7_frees 66 = .ok (.iload 5, 2) := by decide +kernel
theorem dX7_frees_68 : decode cX7_frees 68 = .ok (.goto 5, 3) := by decide +kernel
theorem dX7_frees_71 : decode cX7_frees 71 = .ok (.iload 6, 2) := by decide +kernel
theorem dX7_frees_73 : decode cX7_frees 73 = .ok (.iadd, 1) := by decide +kernel
theorem dX7_frees_74 : decode cX7_frees 74 = .ok (.istore_n 3, 1) := by decide +kernel
theorem dX7_frees_75 : decode cX7_frees 75 = .ok (.iinc 4 1, 3) := by decide +kernel
theorem dX7_frees_78 : decode cX7_frees 78 = .ok (.goto (-47), 3) := by decide +kernel
theorem dX7_frees_81 : decode cX7_frees 81 = .ok (.iload_n 3, 1) := by decide +kernel
theorem dX7_frees_82 : decode cX7_frees 82 = .ok (.ireturn, 1) := by decide +kernel
theorem dX7_quietIn_0 : decode cX7_quietIn 0 = .ok (.aload_n 0, 1) := by decide +kernel
theorem dX7_quietIn_1 : decode cX7_quietIn 1 = .ok (.getfield 7, 3) := by decide +kernel
theorem dX7_quietIn_4 : decode cX7_quietIn 4 = .ok (.iconst 4, 1) := by decide +kernel
theorem dX7_quietIn_5 : decode cX7_quietIn 5 = .ok (.iaload, 1) := by decide +kernel
theorem dX7_quietIn_6 : decode cX7_quietIn 6 = .ok (.istore_n 1, 1) := by decide +kernel
theorem dX7_quietIn_7 : decode cX7_quietIn 7 = .ok (.iconst 0, 1) := by decide +kernel
theorem dX7_quietIn_8 : decode cX7_quietIn 8 = .ok (.istore_n 2, 1) := by decide +kernel
theorem dX7_quietIn_9 : decode cX7_quietIn 9 = .ok (.iload_n 2, 1) := by decide +kernel
theorem dX7_quietIn_10 : decode cX7_quietIn 10 = .ok (.aload_n 0, 1) := by decide +kernel
theorem dX7_quietIn_11 : decode cX7_quietIn 11 = .ok (.getfield 7, 3) := by decide +kernel
theorem dX7_quietIn_14 : decode cX7_quietIn 14 = .ok (.iconst 5, 1) := by decide +kernel
theorem dX7_quietIn_15 : decode cX7_quietIn 15 = .ok (.iaload, 1) := by decide +kernel
theorem dX7_quietIn_16 : decode cX7_quietIn 16 = .ok (.if_icmp .ge 51, 3) := by decide +kernel
theorem dX7_quietIn_19 : decode cX7_quietIn 19 = .ok (.aload_n 0, 1) := by decide +kernel
theorem dX7_quietIn_20 : decode cX7_quietIn 20 = .ok (.iconst 0, 1) := by decide +kernel
theorem dX7_quietIn_21 : decode cX7_quietIn 21 = .ok (.iload_n 2, 1) := by decide +kernel
theorem dX7_quietIn_22 : decode cX7_quietIn 22 = .ok (.invokevirtual 64, 3) := by decide +kernel
theorem dX7_quietIn_25 : decode cX7_quietIn 25 = .ok (.ifCond .eq 34, 3) := by decide +kernel
theorem dX7_quietIn_28 : decode cX7_quietIn 28 = .ok (.aload_n 0, 1) := by decide +kernel
theorem dX7_quietIn_29 : decode cX7_quietIn 29 = .ok (.getfield 7, 3) := by decide +kernel
theorem dX7_quietIn_32 : decode cX7_quietIn 32 = .ok (.iconst 0, 1) := by decide +kernel
theorem dX7_quietIn_33 : decode cX7_quietIn 33 = .ok (.iload_n 2, 1) := by decide +kernel
theorem dX7_quietIn_34 : decode cX7_quietIn 34 = .ok (.invokestatic 28, 3) := by decide +kernel
theorem dX7_quietIn_37 : decode cX7_quietIn 37 = .ok (.iconst 2, 1) := by decide +kernel
theorem dX7_quietIn_38 : decode cX7_quietIn 38 = .ok (.iadd, 1) := by decide +kernel
theorem dX7_quietIn_39 : decode cX7_quietIn 39 = .ok (.iaload, 1) := by decide +kernel
theorem dX7_quietIn_40 : decode cX7_quietIn 40 = .ok (.iload_n 1, 1) := by decide +kernel
theorem dX7_quietIn_41 : decode cX7_quietIn 41 = .ok (.if_icmp .le 18, 3) := by decide +kernel
theorem dX7_quietIn_44 : decode cX7_quietIn 44 = .ok (.aload_n 0, 1) := by decide +kernel
theorem dX7_quietIn_45 : decode cX7_quietIn 45 = .ok (.getfield 7, 3) := by decide +kernel
theorem dX7_quietIn_48 : decode cX7_quietIn 48 = .ok (.iconst 0, 1) := by decide +kernel
theorem dX7_quietIn_49 : decode cX7_quietIn 49 = .ok (.iload_n 2, 1) := by decide +kernel
theorem dX7_quietIn_50 : decode cX7_quietIn 50 = .ok (.invokestatic 28, 3) := by decide +kernel
theorem dX7_quietIn_53 : decode cX7_quietIn 53 = .ok (.iconst 2, 1) := by decide +kernel
theorem dX7_quietIn_54 : decode cX7_quietIn 54 = .ok (.iadd, 1) := by decide +kernel
theorem dX7_quietIn_55 : decode cX7_quietIn 55 = .ok (.iaload, 1) := by decide +kernel
theorem dX7_quietIn_56 : decode cX7_quietIn 56 = .ok (.goto 4, 3) := by decide +kernel
theorem dX7_quietIn_59 : decode cX7_quietIn 59 = .ok (.iload_n 1, 1) := by decide +kernel
theorem dX7_quietIn_60 : decode cX7_quietIn 60 = .ok (.istore_n 1, 1) := by decide +kernel
theorem dX7_quietIn_61 : decode cX7_quietIn 61 = .ok (.iinc 2 1, 3) := by decide +kernel
theorem dX7_quietIn_64 : decode cX7_quietIn 64 = .ok (.goto (-55), 3) := by decide +kernel
theorem dX7_quietIn_67 : decode cX7_quietIn 67 = .ok (.iconst 0, 1) := by decide +kernel
theorem dX7_quietIn_68 : decode cX7_quietIn 68 = .ok (.istore_n 2, 1) := by decide +kernel
theorem dX7_quietIn_69 : decode cX7_quietIn 69 = .ok (.iload_n 2, 1) := by decide +kernel
theorem dX7_quietIn_70 : decode cX7_quietIn 70 = .ok (.aload_n 0, 1) := by decide +kernel
theorem dX7_quietIn_71 : decode cX7_quietIn 71 = .ok (.getfield 7, 3) := by decide +kernel
theorem dX7_quietIn_74 : decode cX7_quietIn 74 = .ok (.bipush 9, 2) := by decide +kernel
theorem dX7_quietIn_76 : decode cX7_quietIn 76 = .ok (.iaload, 1) := by decide +kernel
theorem dX7_quietIn_77 : decode cX7_quietIn 77 = .ok (.if_icmp .ge 38, 3) := by decide +kernel
theorem dX7_quietIn_80 : decode cX7_quietIn 80 = .ok (.aload_n 0, 1) := by decide +kernel
theorem dX7_quietIn_81 : decode cX7_quietIn 81 = .ok (.getfield 7, 3) := by decide +kernel
theorem dX7_quietIn_84 : decode cX7_quietIn 84 = .ok (.iconst 0, 1) := by decide +kernel
theorem dX7_quietIn_85 : decode cX7_quietIn 85 = .ok (.iload_n 2, 1) := by decide +kernel
theorem dX7_quietIn_86 : decode cX7_quietIn 86 = .ok (.invokestatic 87, 3) := by decide +kernel
theorem dX7_quietIn_89 : decode cX7_quietIn 89 = .ok (.iaload, 1) := by decide +kernel
theorem dX7_quietIn_90 : decode cX7_quietIn 90 = .ok (.iload_n 1, 1) := by decide +kernel
theorem dX7_quietIn_91 : decode cX7_quietIn 91 = .ok (.if_icmp .le 16, 3) := by decide +kernel
theorem dX7_quietIn_94 : decode cX7_quietIn 94 = .ok (.aload_n 0, 1) := by decide +kernel
theorem dX7_quietIn_95 : decode cX7_quietIn 95 = .ok (.getfield 7, 3) := by decide +kernel
theorem dX7_quietIn_98 : decode cX7_quietIn 98 = .ok (.iconst 0, 1) := by decide +kernel
theorem dX7_quietIn_99 : decode cX7_quietIn 99 = .ok (.iload_n 2, 1) := by decide +kernel
theorem dX7_quietIn_100 : decode cX7_quietIn 100 = .ok (.invokestatic 87, 3) := by decide +kernel
theorem dX7_quietIn_103 : decode cX7_quietIn 103 = .ok (.iaload, 1) := by decide +kernel
theorem dX7_quietIn_104 : decode cX7_quietIn 104 = .ok (.goto 4, 3) := by decide +kernel
theorem dX7_quietIn_107 : decode cX7_quietIn 107 = .ok (.iload_n 1, 1) := by decide +kernel
theorem dX7_quietIn_108 : decode cX7_quietIn 108 = .ok (.istore_n 1, 1) := by decide +kernel
theorem dX7_quietIn_109 : decode cX7_quietIn 109 = .ok (.iinc 2 1, 3) := by decide +kernel
theorem dX7_quietIn_112 : decode cX7_quietIn 112 = .ok (.goto (-43), 3) := by decide +kernel
theorem dX7_quietIn_115 : decode cX7_quietIn 115 = .ok (.iload_n 1, 1) := by decide +kernel
theorem dX7_quietIn_116 : decode cX7_quietIn 116 = .ok (.aload_n 0, 1) := by decide +kernel
theorem dX7_quietIn_117 : decode cX7_quietIn 117 = .ok (.getfield 7, 3) := by decide +kernel
theorem dX7_quietIn_120 : decode cX7_quietIn 120 = .ok (.iconst 4, 1) := by decide +kernel
theorem dX7_quietIn_121 : decode cX7_quietIn 121 = .ok (.iaload, 1) := by decide +kernel
theorem dX7_quietIn_122 : decode cX7_quietIn 122 = .ok (.isub, 1) := by decide +kernel
theorem dX7_quietIn_123 : decode cX7_quietIn 123 = .ok (.ireturn, 1) := by decide +kernel
theorem dX7_stepIn_0 : decode cX7_stepIn 0 = .ok (.aload_n 0, 1) := by decide +kernel
theorem dX7_stepIn_1 : decode cX7_stepIn 1 = .ok (.iload_n 1, 1) := by decide +kernel
theorem dX7_stepIn_2 : decode cX7_stepIn 2 = .ok (.invokevirtual 103, 3) := by decide +kernel
theorem dX7_stepIn_5 : decode cX7_stepIn 5 = .ok (.ifCond .ne 5, 3) := by decide +kernel
theorem dX7_stepIn_8 : decode cX7_stepIn 8 = .ok (.iconst (-1), 1) := by decide +kernel
theorem dX7_stepIn_9 : decode cX7_stepIn 9 = .ok (.ireturn, 1) := by decide +kernel
theorem dX7_stepIn_10 : decode cX7_stepIn 10 = .ok (.iload_n 2, 1) := by decide +kernel
theorem dX7_stepIn_11 : decode cX7_stepIn 11 = .ok (.i2l, 1) := by decide +kernel
theorem dX7_stepIn_12 : decode cX7_stepIn 12 = .ok (.lconst 1, 1) := by decide +kernel
theorem dX7_stepIn_13 : decode cX7_stepIn 13 = .ok (.ldc2_w 116, 3) := by decide +kernel
theorem dX7_stepIn_16 : decode cX7_stepIn 16 = .ok (.invokestatic 70, 3) := by decide +kernel
theorem dX7_stepIn_19 : decode cX7_stepIn 19 = .ok (.ifCond .ne 6, 3) := by decide +kernel
theorem dX7_stepIn_22 : decode cX7_stepIn 22 = .ok (.bipush (-2), 2) := by decide +kernel
theorem dX7_stepIn_24 : decode cX7_stepIn 24 = .ok (.ireturn, 1) := by decide +kernel
theorem dX7_stepIn_25 : decode cX7_stepIn 25 = .ok (.aload_n 0, 1) := by decide +kernel
theorem dX7_stepIn_26 : decode cX7_stepIn 26 = .ok (.iconst 0, 1) := by decide +kernel
theorem dX7_stepIn_27 : decode cX7_stepIn 27 = .ok (.bipush 9, 2) := by decide +kernel
theorem dX7_stepIn_29 : decode cX7_stepIn 29 = .ok (.invokevirtual 24, 3) := by decide +kernel
theorem dX7_stepIn_32 : decode cX7_stepIn 32 = .ok (.aload_n 0, 1) := by decide +kernel
theorem dX7_stepIn_33 : decode cX7_stepIn 33 = .ok (.sipush 3060, 3) := by decide +kernel
theorem dX7_stepIn_36 : decode cX7_stepIn 36 = .ok (.iload_n 2, 1) := by decide +kernel
theorem dX7_stepIn_37 : decode cX7_stepIn 37 = .ok (.invokevirtual 162, 3) := by decide +kernel
theorem dX7_stepIn_40 : decode cX7_stepIn 40 = .ok (.istore_n 3, 1) := by decide +kernel
theorem dX7_stepIn_41 : decode cX7_stepIn 41 = .ok (.aload_n 0, 1) := by decide +kernel
theorem dX7_stepIn_42 : decode cX7_stepIn 42 = .ok (.getfield 7, 3) := by decide +kernel
theorem dX7_stepIn_45 : decode cX7_stepIn 45 = .ok (.sipush 3060, 3) := by decide +kernel
theorem dX7_stepIn_48 : decode cX7_stepIn 48 = .ok (.iload_n 1, 1) := by decide +kernel
theorem dX7_stepIn_49 : decode cX7_stepIn 49 = .ok (.invokestatic 28, 3) := by decide +kernel
theorem dX7_stepIn_52 : decode cX7_stepIn 52 = .ok (.iaload, 1) := by decide +kernel
theorem dX7_stepIn_53 : decode cX7_stepIn 53 = .ok (.ireturn, 1) := by decide +kernel
theorem dX7_thickest_0 : decode cX7_thickest 0 = .ok (.bipush (-6), 2) := by decide +kernel
theorem dX7_thickest_2 : decode cX7_thickest 2 = .ok (.istore_n 1, 1) := by decide +kernel
theorem dX7_thickest_3 : decode cX7_thickest 3 = .ok (.iconst 0, 1) := by decide +kernel
theorem dX7_thickest_4 : decode cX7_thickest 4 = .ok (.istore_n 2, 1) := by decide +kernel
theorem dX7_thickest_5 : decode cX7_thickest 5 = .ok (.iconst 0, 1) := by decide +kernel
theorem dX7_thickest_6 : decode cX7_thickest 6 = .ok (.istore_n 3, 1) := by decide +kernel
theorem dX7_thickest_7 : decode cX7_thickest 7 = .ok (.iload_n 3, 1) := by decide +kernel
theorem dX7_thickest_8 : decode cX7_thickest 8 = .ok (.bipush 15, 2) := by decide +kernel
theorem dX7_thickest_10 : decode cX7_thickest 10 = .ok (.if_icmp .ge 41, 3) := by decide +kernel
theorem dX7_thickest_13 : decode cX7_thickest 13 = .ok (.aload_n 0, 1) := by decide +kernel
theorem dX7_thickest_14 : decode cX7_thickest 14 = .ok (.iload_n 3, 1) := by decide +kernel
theorem dX7_thickest_15 : decode cX7_thickest 15 = .ok (.invokevirtual 171, 3) := by decide +kernel
theorem dX7_thickest_18 : decode cX7_thickest 18 = .ok (.istore 4, 2) := by decide +kernel
theorem dX7_thickest_20 : decode cX7_thickest 20 = .ok (.iload 4, 2) := by decide +kernel
theorem dX7_thickest_22 : decode cX7_thickest 22 = .ok (.iload_n 2, 1) := by decide +kernel
theorem dX7_thickest_23 : decode cX7_thickest 23 = .ok (.if_icmp .le 7, 3) := by decide +kernel
theorem dX7_thickest_26 : decode cX7_thickest 26 = .ok (.iload_n 3, 1) := by decide +kernel
theorem dX7_thickest_27 : decode cX7_thickest 27 = .ok (.goto 4, 3) := by decide +kernel
theorem dX7_thickest_30 : decode cX7_thickest 30 = .ok (.iload_n 1, 1) := by decide +kernel
theorem dX7_thickest_31 : decode cX7_thickest 31 = .ok (.istore_n 1, 1) := by decide +kernel
theorem dX7_thickest_32 : decode cX7_thickest 32 = .ok (.iload 4, 2) := by decide +kernel
theorem dX7_thickest_34 : decode cX7_thickest 34 = .ok (.iload_n 2, 1) := by decide +kernel
theorem dX7_thickest_35 : decode cX7_thickest 35 = .ok (.if_icmp .le 8, 3) := by decide +kernel
theorem dX7_thickest_38 : decode cX7_thickest 38 = .ok (.iload 4, 2) := by decide +kernel
theorem dX7_thickest_40 : decode cX7_thickest 40 = .ok (.goto 4, 3) := by decide +kernel
theorem dX7_thickest_43 : decode cX7_thickest 43 = .ok (.iload_n 2, 1) := by decide +kernel
theorem dX7_thickest_44 : decode cX7_thickest 44 = .ok (.istore_n 2, 1) := by decide +kernel
theorem dX7_thickest_45 : decode cX7_thickest 45 = .ok (.iinc 3 1, 3) := by decide +kernel
theorem dX7_thickest_48 : decode cX7_thickest 48 = .ok (.goto (-41), 3) := by decide +kernel
theorem dX7_thickest_51 : decode cX7_thickest 51 = .ok (.iload_n 1, 1) := by decide +kernel
theorem dX7_thickest_52 : decode cX7_thickest 52 = .ok (.ireturn, 1) := by decide +kernel
theorem dX7_charactersOf_0 : decode cX7_charactersOf 0 = .ok (.lload_n 0, 1) := by decide +kernel
theorem dX7_charactersOf_1 : decode cX7_charactersOf 1 = .ok (.lstore_n 2, 1) := by decide +kernel
theorem dX7_charactersOf_2 : decode cX7_charactersOf 2 = .ok (.iconst 0, 1) := by decide +kernel
theorem dX7_charactersOf_3 : decode cX7_charactersOf 3 = .ok (.istore 4, 2) := by decide +kernel
theorem dX7_charactersOf_5 : decode cX7_charactersOf 5 = .ok (.iload 4, 2) := by decide +kernel
theorem dX7_charactersOf_7 : decode cX7_charactersOf 7 = .ok (.bipush 8, 2) := by decide +kernel
theorem dX7_charactersOf_9 : decode cX7_charactersOf 9 = .ok (.if_icmp .ge 31, 3) := by decide +kernel
theorem dX7_charactersOf_12 : decode cX7_charactersOf 12 = .ok (.lload_n 2, 1) := by decide +kernel
theorem dX7_charactersOf_13 : decode cX7_charactersOf 13 = .ok (.ldc2_w 201, 3) := by decide +kernel
theorem dX7_charactersOf_16 : decode cX7_charactersOf 16 = .ok (.land, 1) := by decide +kernel
theorem dX7_charactersOf_17 : decode cX7_charactersOf 17 = .ok (.ldc2_w 203, 3) := by decide +kernel
theorem dX7_charactersOf_20 : decode cX7_charactersOf 20 = .ok (.ldc2_w 205, 3) := by decide +kernel
theorem dX7_charactersOf_23 : decode cX7_charactersOf 23 = .ok (.invokestatic 70, 3) := by decide +kernel
theorem dX7_charactersOf_26 : decode cX7_charactersOf 26 = .ok (.ifCond .eq 14, 3) := by decide +kernel
theorem dX7_charactersOf_29 : decode cX7_charactersOf 29 = .ok (.lload_n 2, 1) := by decide +kernel
theorem dX7_charactersOf_30 : decode cX7_charactersOf 30 = .ok (.bipush 8, 2) := by decide +kernel
theorem dX7_charactersOf_32 : decode cX7_charactersOf 32 = .ok (.lushr, 1) := by decide +kernel
theorem dX7_charactersOf_33 : decode cX7_charactersOf 33 = .ok (.lstore_n 2, 1) := by decide +kernel
theorem dX7_charactersOf_34 : decode cX7_charactersOf 34 = .ok (.iinc 4 1, 3) := by decide +kernel
theorem dX7_charactersOf_37 : decode cX7_charactersOf 37 = .ok (.goto (-32), 3) := by decide +kernel
theorem dX7_charactersOf_40 : decode cX7_charactersOf 40 = .ok (.lload_n 2, 1) := by decide +kernel
theorem dX7_charactersOf_41 : decode cX7_charactersOf 41 = .ok (.lconst 0, 1) := by decide +kernel
theorem dX7_charactersOf_42 : decode cX7_charactersOf 42 = .ok (.lcmp, 1) := by decide +kernel
theorem dX7_charactersOf_43 : decode cX7_charactersOf 43 = .ok (.ifCond .ne 8, 3) := by decide +kernel
theorem dX7_charactersOf_46 : decode cX7_charactersOf 46 = .ok (.iload 4, 2) := by decide +kernel
theorem dX7_charactersOf_48 : decode cX7_charactersOf 48 = .ok (.goto 4, 3) := by decide +kernel
theorem dX7_charactersOf_51 : decode cX7_charactersOf 51 = .ok (.iconst 0, 1) := by decide +kernel
theorem dX7_charactersOf_52 : decode cX7_charactersOf 52 = .ok (.ireturn, 1) := by decide +kernel
theorem dX7_put_0 : decode cX7_put 0 = .ok (.lload_n 1, 1) := by decide +kernel
theorem dX7_put_1 : decode cX7_put 1 = .ok (.invokestatic 207, 3) := by decide +kernel
theorem dX7_put_4 : decode cX7_put 4 = .ok (.istore_n 3, 1) := by decide +kernel
theorem dX7_put_5 : decode cX7_put 5 = .ok (.iload_n 3, 1) := by decide +kernel
theorem dX7_put_6 : decode cX7_put 6 = .ok (.ifCond .ne 6, 3) := by decide +kernel
theorem dX7_put_9 : decode cX7_put 9 = .ok (.bipush (-2), 2) := by decide +kernel
theorem dX7_put_11 : decode cX7_put 11 = .ok (.ireturn, 1) := by decide +kernel
theorem dX7_put_12 : decode cX7_put 12 = .ok (.aload_n 0, 1) := by decide +kernel
theorem dX7_put_13 : decode cX7_put 13 = .ok (.getfield 193, 3) := by decide +kernel
theorem dX7_put_16 : decode cX7_put 16 = .ok (.iload_n 3, 1) := by decide +kernel
theorem dX7_put_17 : decode cX7_put 17 = .ok (.iadd, 1) := by decide +kernel
theorem dX7_put_18 : decode cX7_put 18 = .ok (.bipush 80, 2) := by decide +kernel
theorem dX7_put_20 : decode cX7_put 20 = .ok (.if_icmp .le 6, 3) := by decide +kernel
theorem dX7_put_23 : decode cX7_put 23 = .ok (.bipush (-4), 2) := by decide +kernel
theorem dX7_put_25 : decode cX7_put 25 = .ok (.ireturn, 1) := by decide +kernel
theorem dX7_put_26 : decode cX7_put 26 = .ok (.iconst 0, 1) := by decide +kernel
theorem dX7_put_27 : decode cX7_put 27 = .ok (.istore 4, 2) := by decide +kernel
theorem dX7_put_29 : decode cX7_put 29 = .ok (.iload 4, 2) := by decide +kernel
theorem dX7_put_31 : decode cX7_put 31 = .ok (.iload_n 3, 1) := by decide +kernel
theorem dX7_put_32 : decode cX7_put 32 = .ok (.if_icmp .ge 37, 3) := by decide +kernel
theorem dX7_put_35 : decode cX7_put 35 = .ok (.aload_n 0, 1) := by decide +kernel
theorem dX7_put_36 : decode cX7_put 36 = .ok (.getfield 17, 3) := by decide +kernel
theorem dX7_put_39 : decode cX7_put 39 = .ok (.aload_n 0, 1) := by decide +kernel
theorem dX7_put_40 : decode cX7_put 40 = .ok (.getfield 193, 3) := by decide +kernel
theorem dX7_put_43 : decode cX7_put 43 = .ok (.iload 4, 2) := by decide +kernel
theorem dX7_put_45 : decode cX7_put 45 = .ok (.iadd, 1) := by decide +kernel
theorem dX7_put_46 : decode cX7_put 46 = .ok (.lload_n 1, 1) := by decide +kernel
theorem dX7_put_47 : decode cX7_put 47 = .ok (.bipush 8, 2) := by decide +kernel
theorem dX7_put_49 : decode cX7_put 49 = .ok (.iload_n 3, 1) := by decide +kernel
theorem dX7_put_50 : decode cX7_put 50 = .ok (.iconst 1, 1) := by decide +kernel
theorem dX7_put_51 : decode cX7_put 51 = .ok (.isub, 1) := by decide +kernel
theorem dX7_put_52 : decode cX7_put 52 = .ok (.iload 4, 2) := by decide +kernel
theorem dX7_put_54 : decode cX7_put 54 = .ok (.isub, 1) := by decide +kernel
theorem dX7_put_55 : decode cX7_put 55 = .ok (.imul, 1) := by decide +kernel
theorem dX7_put_56 : decode cX7_put 56 = .ok (.lushr, 1) := by decide +kernel
theorem dX7_put_57 : decode cX7_put 57 = .ok (.ldc2_w 201, 3) := by decide +kernel
theorem dX7_put_60 : decode cX7_put 60 = .ok (.land, 1) := by decide +kernel
theorem dX7_put_61 : decode cX7_put 61 = .ok (.l2i, 1) := by decide +kernel
theorem dX7_put_62 : decode cX7_put 62 = .ok (.iastore, 1) := by decide +kernel
theorem dX7_put_63 : decode cX7_put 63 = .ok (.iinc 4 1, 3) := by decide +kernel
theorem dX7_put_66 : decode cX7_put 66 = .ok (.goto (-37), 3) := by decide +kernel
theorem dX7_put_69 : decode cX7_put 69 = .ok (.aload_n 0, 1) := by decide +kernel
theorem dX7_put_70 : decode cX7_put 70 = .ok (.dup, 1) := by decide +kernel
theorem dX7_put_71 : decode cX7_put 71 = .ok (.getfield 193, 3) := by decide +kernel
theorem dX7_put_74 : decode cX7_put 74 = .ok (.iload_n 3, 1) := by decide +kernel
theorem dX7_put_75 : decode cX7_put 75 = .ok (.iadd, 1) := by decide +kernel
theorem dX7_put_76 : decode cX7_put 76 = .ok (.putfield 193, 3) := by decide +kernel
theorem dX7_put_79 : decode cX7_put 79 = .ok (.aload_n 0, 1) := by decide +kernel
theorem dX7_put_80 : decode cX7_put 80 = .ok (.getfield 193, 3) := by decide +kernel
theorem dX7_put_83 : decode cX7_put 83 = .ok (.ireturn, 1) := by decide +kernel
theorem dX7_wipe_0 : decode cX7_wipe 0 = .ok (.aload_n 0, 1) := by decide +kernel
theorem dX7_wipe_1 : decode cX7_wipe 1 = .ok (.getfield 193, 3) := by decide +kernel
theorem dX7_wipe_4 : decode cX7_wipe 4 = .ok (.istore_n 1, 1) := by decide +kernel
theorem dX7_wipe_5 : decode cX7_wipe 5 = .ok (.aload_n 0, 1) := by decide +kernel
theorem dX7_wipe_6 : decode cX7_wipe 6 = .ok (.iconst 0, 1) := by decide +kernel
theorem dX7_wipe_7 : decode cX7_wipe 7 = .ok (.putfield 193, 3) := by decide +kernel
theorem dX7_wipe_10 : decode cX7_wipe 10 = .ok (.iload_n 1, 1) := by decide +kernel
theorem dX7_wipe_11 : decode cX7_wipe 11 = .ok (.ireturn, 1) := by decide +kernel
theorem dX7_isHere_0 : decode cX7_isHere 0 = .ok (.aload_n 0, 1) := by decide +kernel
theorem dX7_isHere_1 : decode cX7_isHere 1 = .ok (.getfield 211, 3) := by decide +kernel
theorem dX7_isHere_4 : decode cX7_isHere 4 = .ok (.aload_n 0, 1) := by decide +kernel
theorem dX7_isHere_5 : decode cX7_isHere 5 = .ok (.getfield 193, 3) := by decide +kernel
theorem dX7_isHere_8 : decode cX7_isHere 8 = .ok (.if_icmp .ge 27, 3) := by decide +kernel
theorem dX7_isHere_11 : decode cX7_isHere 11 = .ok (.aload_n 0, 1) := by decide +kernel
theorem dX7_isHere_12 : decode cX7_isHere 12 = .ok (.getfield 17, 3) := by decide +kernel
theorem dX7_isHere_15 : decode cX7_isHere 15 = .ok (.aload_n 0, 1) := by decide +kernel
theorem dX7_isHere_16 : decode cX7_isHere 16 = .ok (.getfield 211, 3) := by decide +kernel
theorem dX7_isHere_19 : decode cX7_isHere 19 = .ok (.iaload, 1) := by decide +kernel
theorem dX7_isHere_20 : decode cX7_isHere 20 = .ok (.i2l, 1) := by decide +kernel
theorem dX7_isHere_21 : decode cX7_isHere 21 = .ok (.iload_n 1, 1) := by decide +kernel
theorem dX7_isHere_22 : decode cX7_isHere 22 = .ok (.i2l, 1) := by decide +kernel
theorem dX7_isHere_23 : decode cX7_isHere 23 = .ok (.iload_n 2, 1) := by decide +kernel
theorem dX7_isHere_24 : decode cX7_isHere 24 = .ok (.i2l, 1) := by decide +kernel
theorem dX7_isHere_25 : decode cX7_isHere 25 = .ok (.invokestatic 70, 3) := by decide +kernel
theorem dX7_isHere_28 : decode cX7_isHere 28 = .ok (.ifCond .eq 7, 3) := by decide +kernel
theorem dX7_isHere_31 : decode cX7_isHere 31 = .ok (.iconst 1, 1) := by decide +kernel
theorem dX7_isHere_32 : decode cX7_isHere 32 = .ok (.goto 4, 3) := by decide +kernel
theorem dX7_isHere_35 : decode cX7_isHere 35 = .ok (.iconst 0, 1) := by decide +kernel
theorem dX7_isHere_36 : decode cX7_isHere 36 = .ok (.ireturn, 1) := by decide +kernel
theorem dX7_takes_0 : decode cX7_takes 0 = .ok (.aload_n 0, 1) := by decide +kernel
theorem dX7_takes_1 : decode cX7_takes 1 = .ok (.iload_n 1, 1) := by decide +kernel
theorem dX7_takes_2 : decode cX7_takes 2 = .ok (.iload_n 1, 1) := by decide +kernel
theorem dX7_takes_3 : decode cX7_takes 3 = .ok (.invokevirtual 214, 3) := by decide +kernel
theorem dX7_takes_6 : decode cX7_takes 6 = .ok (.istore_n 2, 1) := by decide +kernel
theorem dX7_takes_7 : decode cX7_takes 7 = .ok (.aload_n 0, 1) := by decide +kernel
theorem dX7_takes_8 : decode cX7_takes 8 = .ok (.dup, 1) := by decide +kernel
theorem dX7_takes_9 : decode cX7_takes 9 = .ok (.getfield 211, 3) := by decide +kernel
theorem dX7_takes_12 : decode cX7_takes 12 = .ok (.iload_n 2, 1) := by decide +kernel
theorem dX7_takes_13 : decode cX7_takes 13 = .ok (.ifCond .eq 7, 3) := by decide +kernel
theorem dX7_takes_16 : decode cX7_takes 16 = .ok (.iconst 1, 1) := by decide +kernel
theorem dX7_takes_17 : decode cX7_takes 17 = .ok (.goto 4, 3) := by decide +kernel
theorem dX7_takes_20 : decode cX7_takes 20 = .ok (.iconst 0, 1) := by decide +kernel
theorem dX7_takes_21 : decode cX7_takes 21 = .ok (.iadd, 1) := by decide +kernel
theorem dX7_takes_22 : decode cX7_takes 22 = .ok (.putfield 211, 3) := by decide +kernel
theorem dX7_takes_25 : decode cX7_takes 25 = .ok (.iload_n 2, 1) := by decide +kernel
theorem dX7_takes_26 : decode cX7_takes 26 = .ok (.ireturn, 1) := by decide +kernel
theorem dX7_digit_0 : decode cX7_digit 0 = .ok (.aload_n 0, 1) := by decide +kernel
theorem dX7_digit_1 : decode cX7_digit 1 = .ok (.bipush 48, 2) := by decide +kernel
theorem dX7_digit_3 : decode cX7_digit 3 = .ok (.bipush 57, 2) := by decide +kernel
theorem dX7_digit_5 : decode cX7_digit 5 = .ok (.invokevirtual 214, 3) := by decide +kernel
theorem dX7_digit_8 : decode cX7_digit 8 = .ok (.ifCond .eq 18, 3) := by decide +kernel
theorem dX7_digit_11 : decode cX7_digit 11 = .ok (.aload_n 0, 1) := by decide +kernel
theorem dX7_digit_12 : decode cX7_digit 12 = .ok (.getfield 17, 3) := by decide +kernel
theorem dX7_digit_15 : decode cX7_digit 15 = .ok (.aload_n 0, 1) := by decide +kernel
theorem dX7_digit_16 : decode cX7_digit 16 = .ok (.getfield 211, 3) := by decide +kernel
theorem dX7_digit_19 : decode cX7_digit 19 = .ok (.iaload, 1) := by decide +kernel
theorem dX7_digit_20 : decode cX7_digit 20 = .ok (.bipush 48, 2) := by decide +kernel
theorem dX7_digit_22 : decode cX7_digit 22 = .ok (.isub, 1) := by decide +kernel
theorem dX7_digit_23 : decode cX7_digit 23 = .ok (.goto 5, 3) := by decide +kernel
theorem dX7_digit_26 : decode cX7_digit 26 = .ok (.bipush (-6), 2) := by decide +kernel
theorem dX7_digit_28 : decode cX7_digit 28 = .ok (.istore_n 1, 1) := by decide +kernel
theorem dX7_digit_29 : decode cX7_digit 29 = .ok (.aload_n 0, 1) := by decide +kernel
theorem dX7_digit_30 : decode cX7_digit 30 = .ok (.dup, 1) := by decide +kernel
theorem dX7_digit_31 : decode cX7_digit 31 = .ok (.getfield 211, 3) := by decide +kernel
theorem dX7_digit_34 : decode cX7_digit 34 = .ok (.iload_n 1, 1) := by decide +kernel
theorem dX7_digit_35 : decode cX7_digit 35 = .ok (.bipush (-6), 2) := by decide +kernel
theorem dX7_digit_37 : decode cX7_digit 37 = .ok (.if_icmp .ne 7, 3) := by decide +kernel
theorem dX7_digit_40 : decode cX7_digit 40 = .ok (.iconst 0, 1) := by decide +kernel
theorem dX7_digit_41 : decode cX7_digit 41 = .ok (.goto 4, 3) := by decide +kernel
theorem dX7_digit_44 : decode cX7_digit 44 = .ok (.iconst 1, 1) := by decide +kernel
theorem dX7_digit_45 : decode cX7_digit 45 = .ok (.iadd, 1) := by decide +kernel
theorem dX7_digit_46 : decode cX7_digit 46 = .ok (.putfield 211, 3) := by decide +kernel
theorem dX7_digit_49 : decode cX7_digit 49 = .ok (.iload_n 1, 1) := by decide +kernel
theorem dX7_digit_50 : decode cX7_digit 50 = .ok (.ireturn, 1) := by decide +kernel
theorem dX7_number_0 : decode cX7_number 0 = .ok (.aload_n 0, 1) := by decide +kernel
theorem dX7_number_1 : decode cX7_number 1 = .ok (.invokevirtual 217, 3) := by decide +kernel
theorem dX7_number_4 : decode cX7_number 4 = .ok (.istore_n 1, 1) := by decide +kernel
theorem dX7_number_5 : decode cX7_number 5 = .ok (.iload_n 1, 1) := by decide +kernel
theorem dX7_number_6 : decode cX7_number 6 = .ok (.ifCond .le 42, 3) := by decide +kernel
theorem dX7_number_9 : decode cX7_number 9 = .ok (.aload_n 0, 1) := by decide +kernel
theorem dX7_number_10 : decode cX7_number 10 = .ok (.bipush 48, 2) := by decide +kernel
theorem dX7_number_12 : decode cX7_number 12 = .ok (.bipush 57, 2) := by decide +kernel
theorem dX7_number_14 : decode cX7_number 14 = .ok (.invokevirtual 214, 3) := by decide +kernel
theorem dX7_number_17 : decode cX7_number 17 = .ok (.ifCond .eq 31, 3) := by decide +kernel
theorem dX7_number_20 : decode cX7_number 20 = .ok (.bipush 10, 2) := by decide +kernel
theorem dX7_number_22 : decode cX7_number 22 = .ok (.iload_n 1, 1) := by decide +kernel
theorem dX7_number_23 : decode cX7_number 23 = .ok (.imul, 1) := by decide +kernel
theorem dX7_number_24 : decode cX7_number 24 = .ok (.aload_n 0, 1) := by decide +kernel
theorem dX7_number_25 : decode cX7_number 25 = .ok (.getfield 17, 3) := by decide +kernel
theorem dX7_number_28 : decode cX7_number 28 = .ok (.aload_n 0, 1) := by decide +kernel
theorem dX7_number_29 : decode cX7_number 29 = .ok (.getfield 211, 3) := by decide +kernel
theorem dX7_number_32 : decode cX7_number 32 = .ok (.iaload, 1) := by decide +kernel
theorem dX7_number_33 : decode cX7_number 33 = .ok (.iadd, 1) := by decide +kernel
theorem dX7_number_34 : decode cX7_number 34 = .ok (.bipush 48, 2) := by decide +kernel
theorem dX7_number_36 : decode cX7_number 36 = .ok (.isub, 1) := by decide +kernel
theorem dX7_number_37 : decode cX7_number 37 = .ok (.istore_n 1, 1) := by decide +kernel
theorem dX7_number_38 : decode cX7_number 38 = .ok (.aload_n 0, 1) := by decide +kernel
theorem dX7_number_39 : decode cX7_number 39 = .ok (.dup, 1) := by decide +kernel
theorem dX7_number_40 : decode cX7_number 40 = .ok (.getfield 211, 3) := by decide +kernel
theorem dX7_number_43 : decode cX7_number 43 = .ok (.iconst 1, 1) := by decide +kernel
theorem dX7_number_44 : decode cX7_number 44 = .ok (.iadd, 1) := by decide +kernel
theorem dX7_number_45 : decode cX7_number 45 = .ok (.putfield 211, 3) := by decide +kernel
theorem dX7_number_48 : decode cX7_number 48 = .ok (.iload_n 1, 1) := by decide +kernel
theorem dX7_number_49 : decode cX7_number 49 = .ok (.ireturn, 1) := by decide +kernel
theorem dX7_readsBy_0 : decode cX7_readsBy 0 = .ok (.aload_n 0, 1) := by decide +kernel
theorem dX7_readsBy_1 : decode cX7_readsBy 1 = .ok (.bipush 43, 2) := by decide +kernel
theorem dX7_readsBy_3 : decode cX7_readsBy 3 = .ok (.invokevirtual 220, 3) := by decide +kernel
theorem dX7_readsBy_6 : decode cX7_readsBy 6 = .ok (.istore_n 1, 1) := by decide +kernel
theorem dX7_readsBy_7 : decode cX7_readsBy 7 = .ok (.iload_n 1, 1) := by decide +kernel
theorem dX7_readsBy_8 : decode cX7_readsBy 8 = .ok (.ifCond .ne 14, 3) := by decide +kernel
theorem dX7_readsBy_11 : decode cX7_readsBy 11 = .ok (.aload_n 0, 1) := by decide +kernel
theorem dX7_readsBy_12 : decode cX7_readsBy 12 = .ok (.bipush 45, 2) := by decide +kernel
theorem dX7_readsBy_14 : decode cX7_readsBy 14 = .ok (.invokevirtual 220, 3) := by decide +kernel
theorem dX7_readsBy_17 : decode cX7_readsBy 17 = .ok (.ifCond .ne 5, 3) := by decide +kernel
theorem dX7_readsBy_20 : decode cX7_readsBy 20 = .ok (.iconst 0, 1) := by decide +kernel
theorem dX7_readsBy_21 : decode cX7_readsBy 21 = .ok (.ireturn, 1) := by decide +kernel
theorem dX7_readsBy_22 : decode cX7_readsBy 22 = .ok (.aload_n 0, 1) := by decide +kernel
theorem dX7_readsBy_23 : decode cX7_readsBy 23 = .ok (.invokevirtual 223, 3) := by decide +kernel
theorem dX7_readsBy_26 : decode cX7_readsBy 26 = .ok (.istore_n 2, 1) := by decide +kernel
theorem dX7_readsBy_27 : decode cX7_readsBy 27 = .ok (.aload_n 0, 1) := by decide +kernel
theorem dX7_readsBy_28 : decode cX7_readsBy 28 = .ok (.iload_n 1, 1) := by decide +kernel
theorem dX7_readsBy_29 : decode cX7_readsBy 29 = .ok (.ifCond .eq 7, 3) := by decide +kernel
theorem dX7_readsBy_32 : decode cX7_readsBy 32 = .ok (.iload_n 2, 1) := by decide +kernel
theorem dX7_readsBy_33 : decode cX7_readsBy 33 = .ok (.goto 5, 3) := by decide +kernel
theorem dX7_readsBy_36 : decode cX7_readsBy 36 = .ok (.iload_n 2, 1) := by decide +kernel
theorem dX7_readsBy_37 : decode cX7_readsBy 37 = .ok (.ineg, 1) := by decide +kernel
theorem dX7_readsBy_38 : decode cX7_readsBy 38 = .ok (.putfield 226, 3) := by decide +kernel
theorem dX7_readsBy_41 : decode cX7_readsBy 41 = .ok (.iload_n 2, 1) := by decide +kernel
theorem dX7_readsBy_42 : decode cX7_readsBy 42 = .ok (.bipush (-6), 2) := by decide +kernel
theorem dX7_readsBy_44 : decode cX7_readsBy 44 = .ok (.if_icmp .eq 7, 3) := by decide +kernel
theorem dX7_readsBy_47 : decode cX7_readsBy 47 = .ok (.iconst 1, 1) := by decide +kernel
theorem dX7_readsBy_48 : decode cX7_readsBy 48 = .ok (.goto 4, 3) := by decide +kernel
theorem dX7_readsBy_51 : decode cX7_readsBy 51 = .ok (.iconst 0, 1) := by decide +kernel
theorem dX7_readsBy_52 : decode cX7_readsBy 52 = .ok (.ireturn, 1) := by decide +kernel
theorem dX7_readsKitten_0 : decode cX7_readsKitten 0 = .ok (.aload_n 0, 1) := by decide +kernel
theorem dX7_readsKitten_1 : decode cX7_readsKitten 1 = .ok (.aload_n 0, 1) := by decide +kernel
theorem dX7_readsKitten_2 : decode cX7_readsKitten 2 = .ok (.invokevirtual 217, 3) := by decide +kernel
theorem dX7_readsKitten_5 : decode cX7_readsKitten 5 = .ok (.putfield 229, 3) := by decide +kernel
theorem dX7_readsKitten_8 : decode cX7_readsKitten 8 = .ok (.aload_n 0, 1) := by decide +kernel
theorem dX7_readsKitten_9 : decode cX7_readsKitten 9 = .ok (.getfield 229, 3) := by decide +kernel
theorem dX7_readsKitten_12 : decode cX7_readsKitten 12 = .ok (.bipush (-6), 2) := by decide +kernel
theorem dX7_readsKitten_14 : decode cX7_readsKitten 14 = .ok (.if_icmp .eq 7, 3) := by decide +kernel
theorem dX7_readsKitten_17 : decode cX7_readsKitten 17 = .ok (.iconst 1, 1) := by decide +kernel
theorem dX7_readsKitten_18 : decode cX7_readsKitten 18 = .ok (.goto 4, 3) := by decide +kernel
theorem dX7_readsKitten_21 : decode cX7_readsKitten 21 = .ok (.iconst 0, 1) := by decide +kernel
theorem dX7_readsKitten_22 : decode cX7_readsKitten 22 = .ok (.ireturn, 1) := by decide +kernel
theorem dX7_readsNumber_0 : decode cX7_readsNumber 0 = .ok (.aload_n 0, 1) := by decide +kernel
theorem dX7_readsNumber_1 : decode cX7_readsNumber 1 = .ok (.aload_n 0, 1) := by decide +kernel
theorem dX7_readsNumber_2 : decode cX7_readsNumber 2 = .ok (.invokevirtual 223, 3) := by decide +kernel
theorem dX7_readsNumber_5 : decode cX7_readsNumber 5 = .ok (.putfield 232, 3) := by decide +kernel
theorem dX7_readsNumber_8 : decode cX7_readsNumber 8 = .ok (.aload_n 0, 1) := by decide +kernel
theorem dX7_readsNumber_9 : decode cX7_readsNumber 9 = .ok (.getfield 232, 3) := by decide +kernel
theorem dX7_readsNumber_12 : decode cX7_readsNumber 12 = .ok (.bipush (-6), 2) := by decide +kernel
theorem dX7_readsNumber_14 : decode cX7_readsNumber 14 = .ok (.if_icmp .eq 7, 3) := by decide +kernel
theorem dX7_readsNumber_17 : decode cX7_readsNumber 17 = .ok (.iconst 1, 1) := by decide +kernel
theorem dX7_readsNumber_18 : decode cX7_readsNumber 18 = .ok (.goto 4, 3) := by decide +kernel
theorem dX7_readsNumber_21 : decode cX7_readsNumber 21 = .ok (.iconst 0, 1) := by decide +kernel
theorem dX7_readsNumber_22 : decode cX7_readsNumber 22 = .ok (.ireturn, 1) := by decide +kernel
theorem dX7_readsOrder_0 : decode cX7_readsOrder 0 = .ok (.aload_n 0, 1) := by decide +kernel
theorem dX7_readsOrder_1 : decode cX7_readsOrder 1 = .ok (.aload_n 0, 1) := by decide +kernel
theorem dX7_readsOrder_2 : decode cX7_readsOrder 2 = .ok (.getfield 211, 3) := by decide +kernel
theorem dX7_readsOrder_5 : decode cX7_readsOrder 5 = .ok (.aload_n 0, 1) := by decide +kernel
theorem dX7_readsOrder_6 : decode cX7_readsOrder 6 = .ok (.getfield 193, 3) := by decide +kernel
theorem dX7_readsOrder_9 : decode cX7_readsOrder 9 = .ok (.if_icmp .ge 16, 3) := by decide +kernel
theorem dX7_readsOrder_12 : decode cX7_readsOrder 12 = .ok (.aload_n 0, 1) := by decide +kernel
theorem dX7_readsOrder_13 : decode cX7_readsOrder 13 = .ok (.getfield 17, 3) := by decide +kernel
theorem dX7_readsOrder_16 : decode cX7_readsOrder 16 = .ok (.aload_n 0, 1) := by decide +kernel
theorem dX7_readsOrder_17 : decode cX7_readsOrder 17 = .ok (.getfield 211, 3) := by decide +kernel
theorem dX7_readsOrder_20 : decode cX7_readsOrder 20 = .ok (.iaload, 1) := by decide +kernel
theorem dX7_readsOrder_21 : decode cX7_readsOrder 21 = .ok (.i2c, 1) := by decide +kernel
theorem dX7_readsOrder_22 : decode cX7_readsOrder 22 = .ok (.goto 5, 3) := by decide +kernel
theorem dX7_readsOrder_25 : decode cX7_readsOrder 25 = .ok (.bipush 32, 2) := by decide +kernel
theorem dX7_readsOrder_27 : decode cX7_readsOrder 27 = .ok (.putfield 235, 3) := by decide +kernel
theorem dX7_readsOrder_30 : decode cX7_readsOrder 30 = .ok (.aload_n 0, 1) := by decide +kernel
theorem dX7_readsOrder_31 : decode cX7_readsOrder 31 = .ok (.dup, 1) := by decide +kernel
theorem dX7_readsOrder_32 : decode cX7_readsOrder 32 = .ok (.getfield 211, 3) := by decide +kernel
theorem dX7_readsOrder_35 : decode cX7_readsOrder 35 = .ok (.iconst 1, 1) := by decide +kernel
theorem dX7_readsOrder_36 : decode cX7_readsOrder 36 = .ok (.iadd, 1) := by decide +kernel
theorem dX7_readsOrder_37 : decode cX7_readsOrder 37 = .ok (.putfield 211, 3) := by decide +kernel
theorem dX7_readsOrder_40 : decode cX7_readsOrder 40 = .ok (.aload_n 0, 1) := by decide +kernel
theorem dX7_readsOrder_41 : decode cX7_readsOrder 41 = .ok (.getfield 235, 3) := by decide +kernel
theorem dX7_readsOrder_44 : decode cX7_readsOrder 44 = .ok (.tableswitch 183 103 120 #[93, 183, 183, 183, 88, 183, 183, 113, 183, 147, 183, 183, 183, 88, 183, 183, 183, 118], 88) := by decide +kernel
theorem dX7_readsOrder_132 : decode cX7_readsOrder 132 = .ok (.aload_n 0, 1) := by decide +kernel
theorem dX7_readsOrder_133 : decode cX7_readsOrder 133 = .ok (.invokevirtual 239, 3) := by decide +kernel
theorem dX7_readsOrder_136 : decode cX7_readsOrder 136 = .ok (.ireturn, 1) := by decide +kernel
theorem dX7_readsOrder_137 : decode cX7_readsOrder 137 = .ok (.aload_n 0, 1) := by decide +kernel
theorem dX7_readsOrder_138 : decode cX7_readsOrder 138 = .ok (.invokevirtual 243, 3) := by decide +kernel
theorem dX7_readsOrder_141 : decode cX7_readsOrder 141 = .ok (.ifCond .eq 14, 3) := by decide +kernel
theorem dX7_readsOrder_144 : decode cX7_readsOrder 144 = .ok (.aload_n 0, 1) := by decide +kernel
theorem dX7_readsOrder_145 : decode cX7_readsOrder 145 = .ok (.invokevirtual 246, 3) := by decide +kernel
theorem dX7_readsOrder_148 : decode cX7_readsOrder 148 = .ok (.ifCond .eq 7, 3) := by decide +kernel
theorem dX7_readsOrder_151 : decode cX7_readsOrder 151 = .ok (.iconst 1, 1) := by decide +kernel
theorem dX7_readsOrder_152 : decode cX7_readsOrder 152 = .ok (.goto 4, 3) := by decide +kernel
theorem dX7_readsOrder_155 : decode cX7_readsOrder 155 = .ok (.iconst 0, 1) := by decide +kernel
theorem dX7_readsOrder_156 : decode cX7_readsOrder 156 = .ok (.ireturn, 1) := by decide +kernel
theorem dX7_readsOrder_157 : decode cX7_readsOrder 157 = .ok (.aload_n 0, 1) := by decide +kernel
theorem dX7_readsOrder_158 : decode cX7_readsOrder 158 = .ok (.invokevirtual 243, 3) := by decide +kernel
theorem dX7_readsOrder_161 : decode cX7_readsOrder 161 = .ok (.ireturn, 1) := by decide +kernel
theorem dX7_readsOrder_162 : decode cX7_readsOrder 162 = .ok (.aload_n 0, 1) := by decide +kernel
theorem dX7_readsOrder_163 : decode cX7_readsOrder 163 = .ok (.invokevirtual 239, 3) := by decide +kernel
theorem dX7_readsOrder_166 : decode cX7_readsOrder 166 = .ok (.ifCond .eq 23, 3) := by decide +kernel
theorem dX7_readsOrder_169 : decode cX7_readsOrder 169 = .ok (.aload_n 0, 1) := by decide +kernel
theorem dX7_readsOrder_170 : decode cX7_readsOrder 170 = .ok (.bipush 46, 2) := by decide +kernel
theorem dX7_readsOrder_172 : decode cX7_readsOrder 172 = .ok (.invokevirtual 220, 3) := by decide +kernel
theorem dX7_readsOrder_175 : decode cX7_readsOrder 175 = .ok (.ifCond .eq 14, 3) := by decide +kernel
theorem dX7_readsOrder_178 : decode cX7_readsOrder 178 = .ok (.aload_n 0, 1) := by decide +kernel
theorem dX7_readsOrder_179 : decode cX7_readsOrder 179 = .ok (.invokevirtual 243, 3) := by decide +kernel
theorem dX7_readsOrder_182 : decode cX7_readsOrder 182 = .ok (.ifCond .eq 7, 3) := by decide +kernel
theorem dX7_readsOrder_185 : decode cX7_readsOrder 185 = .ok (.iconst 1, 1) := by decide +kernel
theorem dX7_readsOrder_186 : decode cX7_readsOrder 186 = .ok (.goto 4, 3) := by decide +kernel
theorem dX7_readsOrder_189 : decode cX7_readsOrder 189 = .ok (.iconst 0, 1) := by decide +kernel
theorem dX7_readsOrder_190 : decode cX7_readsOrder 190 = .ok (.ireturn, 1) := by decide +kernel
theorem dX7_readsOrder_191 : decode cX7_readsOrder 191 = .ok (.aload_n 0, 1) := by decide +kernel
theorem dX7_readsOrder_192 : decode cX7_readsOrder 192 = .ok (.invokevirtual 239, 3) := by decide +kernel
theorem dX7_readsOrder_195 : decode cX7_readsOrder 195 = .ok (.ifCond .eq 30, 3) := by decide +kernel
theorem dX7_readsOrder_198 : decode cX7_readsOrder 198 = .ok (.aload_n 0, 1) := by decide +kernel
theorem dX7_readsOrder_199 : decode cX7_readsOrder 199 = .ok (.bipush 58, 2) := by decide +kernel
theorem dX7_readsOrder_201 : decode cX7_readsOrder 201 = .ok (.invokevirtual 220, 3) := by decide +kernel
theorem dX7_readsOrder_204 : decode cX7_readsOrder 204 = .ok (.ifCond .eq 21, 3) := by decide +kernel
theorem dX7_readsOrder_207 : decode cX7_readsOrder 207 = .ok (.aload_n 0, 1) := by decide +kernel
theorem dX7_readsOrder_208 : decode cX7_readsOrder 208 = .ok (.invokevirtual 243, 3) := by decide +kernel
theorem dX7_readsOrder_211 : decode cX7_readsOrder 211 = .ok (.ifCond .eq 14, 3) := by decide +kernel
theorem dX7_readsOrder_214 : decode cX7_readsOrder 214 = .ok (.aload_n 0, 1) := by decide +kernel
theorem dX7_readsOrder_215 : decode cX7_readsOrder 215 = .ok (.invokevirtual 246, 3) := by decide +kernel
theorem dX7_readsOrder_218 : decode cX7_readsOrder 218 = .ok (.ifCond .eq 7, 3) := by decide +kernel
theorem dX7_readsOrder_221 : decode cX7_readsOrder 221 = .ok (.iconst 1, 1) := by decide +kernel
theorem dX7_readsOrder_222 : decode cX7_readsOrder 222 = .ok (.goto 4, 3) := by decide +kernel
theorem dX7_readsOrder_225 : decode cX7_readsOrder 225 = .ok (.iconst 0, 1) := by decide +kernel
theorem dX7_readsOrder_226 : decode cX7_readsOrder 226 = .ok (.ireturn, 1) := by decide +kernel
theorem dX7_readsOrder_227 : decode cX7_readsOrder 227 = .ok (.aload_n 0, 1) := by decide +kernel
theorem dX7_readsOrder_228 : decode cX7_readsOrder 228 = .ok (.dup, 1) := by decide +kernel
theorem dX7_readsOrder_229 : decode cX7_readsOrder 229 = .ok (.getfield 211, 3) := by decide +kernel
theorem dX7_readsOrder_232 : decode cX7_readsOrder 232 = .ok (.iconst 1, 1) := by decide +kernel
theorem dX7_readsOrder_233 : decode cX7_readsOrder 233 = .ok (.isub, 1) := by decide +kernel
theorem dX7_readsOrder_234 : decode cX7_readsOrder 234 = .ok (.putfield 211, 3) := by decide +kernel
theorem dX7_readsOrder_237 : decode cX7_readsOrder 237 = .ok (.iconst 0, 1) := by decide +kernel
theorem dX7_readsOrder_238 : decode cX7_readsOrder 238 = .ok (.ireturn, 1) := by decide +kernel
theorem dX7_fault_0 : decode cX7_fault 0 = .ok (.aload_n 0, 1) := by decide +kernel
theorem dX7_fault_1 : decode cX7_fault 1 = .ok (.iconst 0, 1) := by decide +kernel
theorem dX7_fault_2 : decode cX7_fault 2 = .ok (.putfield 211, 3) := by decide +kernel
theorem dX7_fault_5 : decode cX7_fault 5 = .ok (.iconst 1, 1) := by decide +kernel
theorem dX7_fault_6 : decode cX7_fault 6 = .ok (.istore_n 1, 1) := by decide +kernel
theorem dX7_fault_7 : decode cX7_fault 7 = .ok (.iload_n 1, 1) := by decide +kernel
theorem dX7_fault_8 : decode cX7_fault 8 = .ok (.ifCond .eq 25, 3) := by decide +kernel
theorem dX7_fault_11 : decode cX7_fault 11 = .ok (.aload_n 0, 1) := by decide +kernel
theorem dX7_fault_12 : decode cX7_fault 12 = .ok (.invokevirtual 249, 3) := by decide +kernel
theorem dX7_fault_15 : decode cX7_fault 15 = .ok (.ifCond .ne 8, 3) := by decide +kernel
theorem dX7_fault_18 : decode cX7_fault 18 = .ok (.aload_n 0, 1) := by decide +kernel
theorem dX7_fault_19 : decode cX7_fault 19 = .ok (.getfield 211, 3) := by decide +kernel
theorem dX7_fault_22 : decode cX7_fault 22 = .ok (.ireturn, 1) := by decide +kernel
theorem dX7_fault_23 : decode cX7_fault 23 = .ok (.aload_n 0, 1) := by decide +kernel
theorem dX7_fault_24 : decode cX7_fault 24 = .ok (.bipush 59, 2) := by decide +kernel
theorem dX7_fault_26 : decode cX7_fault 26 = .ok (.invokevirtual 220, 3) := by decide +kernel
theorem dX7_fault_29 : decode cX7_fault 29 = .ok (.istore_n 1, 1) := by decide +kernel
theorem dX7_fault_30 : decode cX7_fault 30 = .ok (.goto (-23), 3) := by decide +kernel
theorem dX7_fault_33 : decode cX7_fault 33 = .ok (.aload_n 0, 1) := by decide +kernel
theorem dX7_fault_34 : decode cX7_fault 34 = .ok (.getfield 211, 3) := by decide +kernel
theorem dX7_fault_37 : decode cX7_fault 37 = .ok (.aload_n 0, 1) := by decide +kernel
theorem dX7_fault_38 : decode cX7_fault 38 = .ok (.getfield 193, 3) := by decide +kernel
theorem dX7_fault_41 : decode cX7_fault 41 = .ok (.if_icmp .ne 8, 3) := by decide +kernel
theorem dX7_fault_44 : decode cX7_fault 44 = .ok (.bipush (-6), 2) := by decide +kernel
theorem dX7_fault_46 : decode cX7_fault 46 = .ok (.goto 7, 3) := by decide +kernel
theorem dX7_fault_49 : decode cX7_fault 49 = .ok (.aload_n 0, 1) := by decide +kernel
theorem dX7_fault_50 : decode cX7_fault 50 = .ok (.getfield 211, 3) := by decide +kernel
theorem dX7_fault_53 : decode cX7_fault 53 = .ok (.ireturn, 1) := by decide +kernel
theorem dX7_orderError_0 : decode cX7_orderError 0 = .ok (.aload_n 0, 1) := by decide +kernel
theorem dX7_orderError_1 : decode cX7_orderError 1 = .ok (.getfield 235, 3) := by decide +kernel
theorem dX7_orderError_4 : decode cX7_orderError 4 = .ok (.lookupswitch 113 #[(103, 61), (107, 52), (110, 74), (112, 96), (120, 83)], 52) := by decide +kernel
theorem dX7_orderError_56 : decode cX7_orderError 56 = .ok (.aload_n 0, 1) := by decide +kernel
theorem dX7_orderError_57 : decode cX7_orderError 57 = .ok (.aload_n 0, 1) := by decide +kernel
theorem dX7_orderError_58 : decode cX7_orderError 58 = .ok (.getfield 232, 3) := by decide +kernel
theorem dX7_orderError_61 : decode cX7_orderError 61 = .ok (.invokevirtual 132, 3) := by decide +kernel
theorem dX7_orderError_64 : decode cX7_orderError 64 = .ok (.ireturn, 1) := by decide +kernel
theorem dX7_orderError_65 : decode cX7_orderError 65 = .ok (.aload_n 0, 1) := by decide +kernel
theorem dX7_orderError_66 : decode cX7_orderError 66 = .ok (.aload_n 0, 1) := by decide +kernel
theorem dX7_orderError_67 : decode cX7_orderError 67 = .ok (.getfield 229, 3) := by decide +kernel
theorem dX7_orderError_70 : decode cX7_orderError 70 = .ok (.aload_n 0, 1) := by decide +kernel
theorem dX7_orderError_71 : decode cX7_orderError 71 = .ok (.getfield 226, 3) := by decide +kernel
theorem dX7_orderError_74 : decode cX7_orderError 74 = .ok (.invokevirtual 138, 3) := by decide +kernel
theorem dX7_orderError_77 : decode cX7_orderError 77 = .ok (.ireturn, 1) := by decide +kernel
theorem dX7_orderError_78 : decode cX7_orderError 78 = .ok (.aload_n 0, 1) := by decide +kernel
theorem dX7_orderError_79 : decode cX7_orderError 79 = .ok (.aload_n 0, 1) := by decide +kernel
theorem dX7_orderError_80 : decode cX7_orderError 80 = .ok (.getfield 229, 3) := by decide +kernel
theorem dX7_orderError_83 : decode cX7_orderError 83 = .ok (.invokevirtual 141, 3) := by decide +kernel
theorem dX7_orderError_86 : decode cX7_orderError 86 = .ok (.ireturn, 1) := by decide +kernel
theorem dX7_orderError_87 : decode cX7_orderError 87 = .ok (.aload_n 0, 1) := by decide +kernel
theorem dX7_orderError_88 : decode cX7_orderError 88 = .ok (.aload_n 0, 1) := by decide +kernel
theorem dX7_orderError_89 : decode cX7_orderError 89 = .ok (.getfield 232, 3) := by decide +kernel
theorem dX7_orderError_92 : decode cX7_orderError 92 = .ok (.aload_n 0, 1) := by decide +kernel
theorem dX7_orderError_93 : decode cX7_orderError 93 = .ok (.getfield 229, 3) := by decide +kernel
theorem dX7_orderError_96 : decode cX7_orderError 96 = .ok (.invokevirtual 147, 3) := by decide +kernel
theorem dX7_orderError_99 : decode cX7_orderError 99 = .ok (.ireturn, 1) := by decide +kernel
theorem dX7_orderError_100 : decode cX7_orderError 100 = .ok (.aload_n 0, 1) := by decide +kernel
theorem dX7_orderError_101 : decode cX7_orderError 101 = .ok (.aload_n 0, 1) := by decide +kernel
theorem dX7_orderError_102 : decode cX7_orderError 102 = .ok (.getfield 232, 3) := by decide +kernel
theorem dX7_orderError_105 : decode cX7_orderError 105 = .ok (.aload_n 0, 1) := by decide +kernel
theorem dX7_orderError_106 : decode cX7_orderError 106 = .ok (.getfield 229, 3) := by decide +kernel
theorem dX7_orderError_109 : decode cX7_orderError 109 = .ok (.aload_n 0, 1) := by decide +kernel
theorem dX7_orderError_110 : decode cX7_orderError 110 = .ok (.getfield 226, 3) := by decide +kernel
theorem dX7_orderError_113 : decode cX7_orderError 113 = .ok (.invokevirtual 153, 3) := by decide +kernel
theorem dX7_orderError_116 : decode cX7_orderError 116 = .ok (.ireturn, 1) := by decide +kernel
theorem dX7_orderError_117 : decode cX7_orderError 117 = .ok (.aload_n 0, 1) := by decide +kernel
theorem dX7_orderError_118 : decode cX7_orderError 118 = .ok (.aload_n 0, 1) := by decide +kernel
theorem dX7_orderError_119 : decode cX7_orderError 119 = .ok (.getfield 232, 3) := by decide +kernel
theorem dX7_orderError_122 : decode cX7_orderError 122 = .ok (.invokevirtual 159, 3) := by decide +kernel
theorem dX7_orderError_125 : decode cX7_orderError 125 = .ok (.ireturn, 1) := by decide +kernel
theorem dX7_does_0 : decode cX7_does 0 = .ok (.aload_n 0, 1) := by decide +kernel
theorem dX7_does_1 : decode cX7_does 1 = .ok (.getfield 235, 3) := by decide +kernel
theorem dX7_does_4 : decode cX7_does 4 = .ok (.lookupswitch 114 #[(103, 61), (107, 52), (110, 75), (112, 97), (120, 84)], 52) := by decide +kernel
theorem dX7_does_56 : decode cX7_does 56 = .ok (.aload_n 0, 1) := by decide +kernel
theorem dX7_does_57 : decode cX7_does 57 = .ok (.aload_n 0, 1) := by decide +kernel
theorem dX7_does_58 : decode cX7_does 58 = .ok (.getfield 232, 3) := by decide +kernel
theorem dX7_does_61 : decode cX7_does 61 = .ok (.invokevirtual 135, 3) := by decide +kernel
theorem dX7_does_64 : decode cX7_does 64 = .ok (.ireturn, 1) := by decide +kernel
theorem dX7_does_65 : decode cX7_does 65 = .ok (.aload_n 0, 1) := by decide +kernel
theorem dX7_does_66 : decode cX7_does 66 = .ok (.iconst 0, 1) := by decide +kernel
theorem dX7_does_67 : decode cX7_does 67 = .ok (.aload_n 0, 1) := by decide +kernel
theorem dX7_does_68 : decode cX7_does 68 = .ok (.getfield 229, 3) := by decide +kernel
theorem dX7_does_71 : decode cX7_does 71 = .ok (.aload_n 0, 1) := by decide +kernel
theorem dX7_does_72 : decode cX7_does 72 = .ok (.getfield 226, 3) := by decide +kernel
theorem dX7_does_75 : decode cX7_does 75 = .ok (.invokevirtual 93, 3) := by decide +kernel
theorem dX7_does_78 : decode cX7_does 78 = .ok (.ireturn, 1) := by decide +kernel
theorem dX7_does_79 : decode cX7_does 79 = .ok (.aload_n 0, 1) := by decide +kernel
theorem dX7_does_80 : decode cX7_does 80 = .ok (.aload_n 0, 1) := by decide +kernel
theorem dX7_does_81 : decode cX7_does 81 = .ok (.getfield 229, 3) := by decide +kernel
theorem dX7_does_84 : decode cX7_does 84 = .ok (.invokevirtual 144, 3) := by decide +kernel
theorem dX7_does_87 : decode cX7_does 87 = .ok (.ireturn, 1) := by decide +kernel
theorem dX7_does_88 : decode cX7_does 88 = .ok (.aload_n 0, 1) := by decide +kernel
theorem dX7_does_89 : decode cX7_does 89 = .ok (.aload_n 0, 1) := by decide +kernel
theorem dX7_does_90 : decode cX7_does 90 = .ok (.getfield 232, 3) := by decide +kernel
theorem dX7_does_93 : decode cX7_does 93 = .ok (.aload_n 0, 1) := by decide +kernel
theorem dX7_does_94 : decode cX7_does 94 = .ok (.getfield 229, 3) := by decide +kernel
theorem dX7_does_97 : decode cX7_does 97 = .ok (.invokevirtual 150, 3) := by decide +kernel
theorem dX7_does_100 : decode cX7_does 100 = .ok (.ireturn, 1) := by decide +kernel
theorem dX7_does_101 : decode cX7_does 101 = .ok (.aload_n 0, 1) := by decide +kernel
theorem dX7_does_102 : decode cX7_does 102 = .ok (.aload_n 0, 1) := by decide +kernel
theorem dX7_does_103 : decode cX7_does 103 = .ok (.getfield 232, 3) := by decide +kernel
theorem dX7_does_106 : decode cX7_does 106 = .ok (.aload_n 0, 1) := by decide +kernel
theorem dX7_does_107 : decode cX7_does 107 = .ok (.getfield 229, 3) := by decide +kernel
theorem dX7_does_110 : decode cX7_does 110 = .ok (.aload_n 0, 1) := by decide +kernel
theorem dX7_does_111 : decode cX7_does 111 = .ok (.getfield 226, 3) := by decide +kernel
theorem dX7_does_114 : decode cX7_does 114 = .ok (.invokevirtual 156, 3) := by decide +kernel
theorem dX7_does_117 : decode cX7_does 117 = .ok (.ireturn, 1) := by decide +kernel
theorem dX7_does_118 : decode cX7_does 118 = .ok (.aload_n 0, 1) := by decide +kernel
theorem dX7_does_119 : decode cX7_does 119 = .ok (.iconst 0, 1) := by decide +kernel
theorem dX7_does_120 : decode cX7_does 120 = .ok (.aload_n 0, 1) := by decide +kernel
theorem dX7_does_121 : decode cX7_does 121 = .ok (.getfield 232, 3) := by decide +kernel
theorem dX7_does_124 : decode cX7_does 124 = .ok (.invokevirtual 162, 3) := by decide +kernel
theorem dX7_does_127 : decode cX7_does 127 = .ok (.ireturn, 1) := by decide +kernel
theorem dX7_carryOut_0 : decode cX7_carryOut 0 = .ok (.aload_n 0, 1) := by decide +kernel
theorem dX7_carryOut_1 : decode cX7_carryOut 1 = .ok (.invokevirtual 252, 3) := by decide +kernel
theorem dX7_carryOut_4 : decode cX7_carryOut 4 = .ok (.bipush (-6), 2) := by decide +kernel
theorem dX7_carryOut_6 : decode cX7_carryOut 6 = .ok (.if_icmp .eq 6, 3) := by decide +kernel
theorem dX7_carryOut_9 : decode cX7_carryOut 9 = .ok (.bipush (-3), 2) := by decide +kernel
theorem dX7_carryOut_11 : decode cX7_carryOut 11 = .ok (.ireturn, 1) := by decide +kernel
theorem dX7_carryOut_12 : decode cX7_carryOut 12 = .ok (.aload_n 0, 1) := by decide +kernel
theorem dX7_carryOut_13 : decode cX7_carryOut 13 = .ok (.invokevirtual 129, 3) := by decide +kernel
theorem dX7_carryOut_16 : decode cX7_carryOut 16 = .ok (.aload_n 0, 1) := by decide +kernel
theorem dX7_carryOut_17 : decode cX7_carryOut 17 = .ok (.iconst 0, 1) := by decide +kernel
theorem dX7_carryOut_18 : decode cX7_carryOut 18 = .ok (.putfield 211, 3) := by decide +kernel
theorem dX7_carryOut_21 : decode cX7_carryOut 21 = .ok (.iconst 0, 1) := by decide +kernel
theorem dX7_carryOut_22 : decode cX7_carryOut 22 = .ok (.istore_n 1, 1) := by decide +kernel
theorem dX7_carryOut_23 : decode cX7_carryOut 23 = .ok (.iconst 1, 1) := by decide +kernel
theorem dX7_carryOut_24 : decode cX7_carryOut 24 = .ok (.istore_n 2, 1) := by decide +kernel
theorem dX7_carryOut_25 : decode cX7_carryOut 25 = .ok (.iload_n 2, 1) := by decide +kernel
theorem dX7_carryOut_26 : decode cX7_carryOut 26 = .ok (.ifCond .eq 72, 3) := by decide +kernel
theorem dX7_carryOut_29 : decode cX7_carryOut 29 = .ok (.aload_n 0, 1) := by decide +kernel
theorem dX7_carryOut_30 : decode cX7_carryOut 30 = .ok (.invokevirtual 249, 3) := by decide +kernel
theorem dX7_carryOut_33 : decode cX7_carryOut 33 = .ok (.ifCond .eq 14, 3) := by decide +kernel
theorem dX7_carryOut_36 : decode cX7_carryOut 36 = .ok (.aload_n 0, 1) := by decide +kernel
theorem dX7_carryOut_37 : decode cX7_carryOut 37 = .ok (.invokevirtual 255, 3) := by decide +kernel
theorem dX7_carryOut_40 : decode cX7_carryOut 40 = .ok (.ifCond .ne 7, 3) := by decide +kernel
theorem dX7_carryOut_43 : decode cX7_carryOut 43 = .ok (.iconst 1, 1) := by decide +kernel
theorem dX7_carryOut_44 : decode cX7_carryOut 44 = .ok (.goto 4, 3) := by decide +kernel
theorem dX7_carryOut_47 : decode cX7_carryOut 47 = .ok (.iconst 0, 1) := by decide +kernel
theorem dX7_carryOut_48 : decode cX7_carryOut 48 = .ok (.istore_n 3, 1) := by decide +kernel
theorem dX7_carryOut_49 : decode cX7_carryOut 49 = .ok (.iload_n 3, 1) := by decide +kernel
theorem dX7_carryOut_50 : decode cX7_carryOut 50 = .ok (.ifCond .eq 10, 3) := by decide +kernel
theorem dX7_carryOut_53 : decode cX7_carryOut 53 = .ok (.aload_n 0, 1) := by decide +kernel
theorem dX7_carryOut_54 : decode cX7_carryOut 54 = .ok (.invokevirtual 258, 3) := by decide +kernel
theorem dX7_carryOut_57 : decode cX7_carryOut 57 = .ok (.goto 5, 3) := by decide +kernel
theorem dX7_carryOut_60 : decode cX7_carryOut 60 = .ok (.bipush (-6), 2) := by decide +kernel
theorem dX7_carryOut_62 : decode cX7_carryOut 62 = .ok (.istore 4, 2) := by decide +kernel
theorem dX7_carryOut_64 : decode cX7_carryOut 64 = .ok (.iload_n 1, 1) := by decide +kernel
theorem dX7_carryOut_65 : decode cX7_carryOut 65 = .ok (.iload_n 3, 1) := by decide +kernel
theorem dX7_carryOut_66 : decode cX7_carryOut 66 = .ok (.ifCond .eq 7, 3) := by decide +kernel
theorem dX7_carryOut_69 : decode cX7_carryOut 69 = .ok (.iconst 1, 1) := by decide +kernel
theorem dX7_carryOut_70 : decode cX7_carryOut 70 = .ok (.goto 4, 3) := by decide +kernel
theorem dX7_carryOut_73 : decode cX7_carryOut 73 = .ok (.iconst 0, 1) := by decide +kernel
theorem dX7_carryOut_74 : decode cX7_carryOut 74 = .ok (.iadd, 1) := by decide +kernel
theorem dX7_carryOut_75 : decode cX7_carryOut 75 = .ok (.istore_n 1, 1) := by decide +kernel
theorem dX7_carryOut_76 : decode cX7_carryOut 76 = .ok (.iload_n 3, 1) := by decide +kernel
theorem dX7_carryOut_77 : decode cX7_carryOut 77 = .ok (.ifCond .eq 16, 3) := by decide +kernel
theorem dX7_carryOut_80 : decode cX7_carryOut 80 = .ok (.aload_n 0, 1) := by decide +kernel
theorem dX7_carryOut_81 : decode cX7_carryOut 81 = .ok (.bipush 59, 2) := by decide +kernel
theorem dX7_carryOut_83 : decode cX7_carryOut 83 = .ok (.invokevirtual 220, 3) := by decide +kernel
theorem dX7_carryOut_86 : decode cX7_carryOut 86 = .ok (.ifCond .eq 7, 3) := by decide +kernel
theorem dX7_carryOut_89 : decode cX7_carryOut 89 = .ok (.iconst 1, 1) := by decide +kernel
theorem dX7_carryOut_90 : decode cX7_carryOut 90 = .ok (.goto 4, 3) := by decide +kernel
theorem dX7_carryOut_93 : decode cX7_carryOut 93 = .ok (.iconst 0, 1) := by decide +kernel
theorem dX7_carryOut_94 : decode cX7_carryOut 94 = .ok (.istore_n 2, 1) := by decide +kernel
theorem dX7_carryOut_95 : decode cX7_carryOut 95 = .ok (.goto (-70), 3) := by decide +kernel
theorem dX7_carryOut_98 : decode cX7_carryOut 98 = .ok (.aload_n 0, 1) := by decide +kernel
theorem dX7_carryOut_99 : decode cX7_carryOut 99 = .ok (.iconst 0, 1) := by decide +kernel
theorem dX7_carryOut_100 : decode cX7_carryOut 100 = .ok (.putfield 193, 3) := by decide +kernel
theorem dX7_carryOut_103 : decode cX7_carryOut 103 = .ok (.iload_n 1, 1) := by decide +kernel
theorem dX7_carryOut_104 : decode cX7_carryOut 104 = .ok (.ireturn, 1) := by decide +kernel
theorem dX7_undo_0 : decode cX7_undo 0 = .ok (.aload_n 0, 1) := by decide +kernel
theorem dX7_undo_1 : decode cX7_undo 1 = .ok (.getfield 20, 3) := by decide +kernel
theorem dX7_undo_4 : decode cX7_undo 4 = .ok (.ifCond .ne 6, 3) := by decide +kernel
theorem dX7_undo_7 : decode cX7_undo 7 = .ok (.bipush (-5), 2) := by decide +kernel
theorem dX7_undo_9 : decode cX7_undo 9 = .ok (.ireturn, 1) := by decide +kernel
theorem dX7_undo_10 : decode cX7_undo 10 = .ok (.aload_n 0, 1) := by decide +kernel
theorem dX7_undo_11 : decode cX7_undo 11 = .ok (.aload_n 0, 1) := by decide +kernel
theorem dX7_undo_12 : decode cX7_undo 12 = .ok (.getfield 20, 3) := by decide +kernel
theorem dX7_undo_15 : decode cX7_undo 15 = .ok (.iconst 0, 1) := by decide +kernel
theorem dX7_undo_16 : decode cX7_undo 16 = .ok (.invokevirtual 24, 3) := by decide +kernel
theorem dX7_undo_19 : decode cX7_undo 19 = .ok (.aload_n 0, 1) := by decide +kernel
theorem dX7_undo_20 : decode cX7_undo 20 = .ok (.dup, 1) := by decide +kernel
theorem dX7_undo_21 : decode cX7_undo 21 = .ok (.getfield 20, 3) := by decide +kernel
theorem dX7_undo_24 : decode cX7_undo 24 = .ok (.iconst 1, 1) := by decide +kernel
theorem dX7_undo_25 : decode cX7_undo 25 = .ok (.isub, 1) := by decide +kernel
theorem dX7_undo_26 : decode cX7_undo 26 = .ok (.putfield 20, 3) := by decide +kernel
theorem dX7_undo_29 : decode cX7_undo 29 = .ok (.aload_n 0, 1) := by decide +kernel
theorem dX7_undo_30 : decode cX7_undo 30 = .ok (.getfield 20, 3) := by decide +kernel
theorem dX7_undo_33 : decode cX7_undo 33 = .ok (.ireturn, 1) := by decide +kernel
theorem dX7_isSlot_0 : decode cX7_isSlot 0 = .ok (.iload_n 0, 1) := by decide +kernel
theorem dX7_isSlot_1 : decode cX7_isSlot 1 = .ok (.ifCond .eq 8, 3) := by decide +kernel
theorem dX7_isSlot_4 : decode cX7_isSlot 4 = .ok (.iload_n 0, 1) := by decide +kernel
theorem dX7_isSlot_5 : decode cX7_isSlot 5 = .ok (.iconst 1, 1) := by decide +kernel
theorem dX7_isSlot_6 : decode cX7_isSlot 6 = .ok (.if_icmp .ne 7, 3) := by decide +kernel
theorem dX7_isSlot_9 : decode cX7_isSlot 9 = .ok (.iconst 1, 1) := by decide +kernel
theorem dX7_isSlot_10 : decode cX7_isSlot 10 = .ok (.goto 4, 3) := by decide +kernel
theorem dX7_isSlot_13 : decode cX7_isSlot 13 = .ok (.iconst 0, 1) := by decide +kernel
theorem dX7_isSlot_14 : decode cX7_isSlot 14 = .ok (.ireturn, 1) := by decide +kernel
theorem dX7_save_0 : decode cX7_save 0 = .ok (.iload_n 1, 1) := by decide +kernel
theorem dX7_save_1 : decode cX7_save 1 = .ok (.invokestatic 261, 3) := by decide +kernel
theorem dX7_save_4 : decode cX7_save 4 = .ok (.ifCond .ne 6, 3) := by decide +kernel
theorem dX7_save_7 : decode cX7_save 7 = .ok (.bipush (-2), 2) := by decide +kernel
theorem dX7_save_9 : decode cX7_save 9 = .ok (.ireturn, 1) := by decide +kernel
theorem dX7_save_10 : decode cX7_save 10 = .ok (.aload_n 0, 1) := by decide +kernel
theorem dX7_save_11 : decode cX7_save 11 = .ok (.iconst 0, 1) := by decide +kernel
theorem dX7_save_12 : decode cX7_save 12 = .ok (.bipush 7, 2) := by decide +kernel
theorem dX7_save_14 : decode cX7_save 14 = .ok (.iload_n 1, 1) := by decide +kernel
theorem dX7_save_15 : decode cX7_save 15 = .ok (.iadd, 1) := by decide +kernel
theorem dX7_save_16 : decode cX7_save 16 = .ok (.invokevirtual 24, 3) := by decide +kernel
theorem dX7_save_19 : decode cX7_save 19 = .ok (.aload_n 0, 1) := by decide +kernel
theorem dX7_save_20 : decode cX7_save 20 = .ok (.getfield 13, 3) := by decide +kernel
theorem dX7_save_23 : decode cX7_save 23 = .ok (.iload_n 1, 1) := by decide +kernel
theorem dX7_save_24 : decode cX7_save 24 = .ok (.iconst 1, 1) := by decide +kernel
theorem dX7_save_25 : decode cX7_save 25 = .ok (.bastore, 1) := by decide +kernel
theorem dX7_save_26 : decode cX7_save 26 = .ok (.aload_n 0, 1) := by decide +kernel
theorem dX7_save_27 : decode cX7_save 27 = .ok (.getfield 7, 3) := by decide +kernel
theorem dX7_save_30 : decode cX7_save 30 = .ok (.iconst 5, 1) := by decide +kernel
theorem dX7_save_31 : decode cX7_save 31 = .ok (.iaload, 1) := by decide +kernel
theorem dX7_save_32 : decode cX7_save 32 = .ok (.ireturn, 1) := by decide +kernel
theorem dX7_restore_0 : decode cX7_restore 0 = .ok (.iload_n 1, 1) := by decide +kernel
theorem dX7_restore_1 : decode cX7_restore 1 = .ok (.invokestatic 261, 3) := by decide +kernel
theorem dX7_restore_4 : decode cX7_restore 4 = .ok (.ifCond .ne 6, 3) := by decide +kernel
theorem dX7_restore_7 : decode cX7_restore 7 = .ok (.bipush (-2), 2) := by decide +kernel
theorem dX7_restore_9 : decode cX7_restore 9 = .ok (.ireturn, 1) := by decide +kernel
theorem dX7_restore_10 : decode cX7_restore 10 = .ok (.aload_n 0, 1) := by decide +kernel
theorem dX7_restore_11 : decode cX7_restore 11 = .ok (.getfield 13, 3) := by decide +kernel
theorem dX7_restore_14 : decode cX7_restore 14 = .ok (.iload_n 1, 1) := by decide +kernel
theorem dX7_restore_15 : decode cX7_restore 15 = .ok (.baload, 1) := by decide +kernel
theorem dX7_restore_16 : decode cX7_restore 16 = .ok (.ifCond .ne 6, 3) := by decide +kernel
theorem dX7_restore_19 : decode cX7_restore 19 = .ok (.bipush (-5), 2) := by decide +kernel
theorem dX7_restore_21 : decode cX7_restore 21 = .ok (.ireturn, 1) := by decide +kernel
theorem dX7_restore_22 : decode cX7_restore 22 = .ok (.aload_n 0, 1) := by decide +kernel
theorem dX7_restore_23 : decode cX7_restore 23 = .ok (.invokevirtual 129, 3) := by decide +kernel
theorem dX7_restore_26 : decode cX7_restore 26 = .ok (.aload_n 0, 1) := by decide +kernel
theorem dX7_restore_27 : decode cX7_restore 27 = .ok (.bipush 7, 2) := by decide +kernel
theorem dX7_restore_29 : decode cX7_restore 29 = .ok (.iload_n 1, 1) := by decide +kernel
theorem dX7_restore_30 : decode cX7_restore 30 = .ok (.iadd, 1) := by decide +kernel
theorem dX7_restore_31 : decode cX7_restore 31 = .ok (.iconst 0, 1) := by decide +kernel
theorem dX7_restore_32 : decode cX7_restore 32 = .ok (.invokevirtual 24, 3) := by decide +kernel
theorem dX7_restore_35 : decode cX7_restore 35 = .ok (.aload_n 0, 1) := by decide +kernel
theorem dX7_restore_36 : decode cX7_restore 36 = .ok (.getfield 7, 3) := by decide +kernel
theorem dX7_restore_39 : decode cX7_restore 39 = .ok (.iconst 5, 1) := by decide +kernel
theorem dX7_restore_40 : decode cX7_restore 40 = .ok (.iaload, 1) := by decide +kernel
theorem dX7_restore_41 : decode cX7_restore 41 = .ok (.ireturn, 1) := by decide +kernel
end
section
theorem dL_law_0 : decode cL_law 0 = .ok (.new 7, 3) := by decide +kernel
theorem dL_law_3 : decode cL_law 3 = .ok (.dup, 1) := by decide +kernel
theorem dL_law_4 : decode cL_law 4 = .ok (.invokespecial 9, 3) := by decide +kernel
theorem dL_law_7 : decode cL_law 7 = .ok (.astore_n 1, 1) := by decide +kernel
theorem dL_law_8 : decode cL_law 8 = .ok (.new 10, 3) := by decide +kernel
theorem dL_law_11 : decode cL_law 11 = .ok (.dup, 1) := by decide +kernel
theorem dL_law_12 : decode cL_law 12 = .ok (.invokespecial 12, 3) := by decide +kernel
theorem dL_law_15 : decode cL_law 15 = .ok (.astore_n 2, 1) := by decide +kernel
theorem dL_law_16 : decode cL_law 16 = .ok (.iconst 0, 1) := by decide +kernel
theorem dL_law_17 : decode cL_law 17 = .ok (.istore_n 3, 1) := by decide +kernel
theorem dL_law_18 : decode cL_law 18 = .ok (.iload_n 3, 1) := by decide +kernel
theorem dL_law_19 : decode cL_law 19 = .ok (.aload_n 0, 1) := by decide +kernel
theorem dL_law_20 : decode cL_law 20 = .ok (.arraylength, 1) := by decide +kernel
theorem dL_law_21 : decode cL_law 21 = .ok (.iconst 4, 1) := by decide +kernel
theorem dL_law_22 : decode cL_law 22 = .ok (.isub, 1) := by decide +kernel
theorem dL_law_23 : decode cL_law 23 = .ok (.if_icmp .gt 853, 3) := by decide +kernel
theorem dL_law_26 : decode cL_law 26 = .ok (.aload_n 0, 1) := by decide +kernel
theorem dL_law_27 : decode cL_law 27 = .ok (.iload_n 3, 1) := by decide +kernel
theorem dL_law_28 : decode cL_law 28 = .ok (.iaload, 1) := by decide +kernel
theorem dL_law_29 : decode cL_law 29 = .ok (.bipush 31, 2) := by decide +kernel
theorem dL_law_31 : decode cL_law 31 = .ok (.iand, 1) := by decide +kernel
theorem dL_law_32 : decode cL_law 32 = .ok (.tableswitch 838 0 25 #[120, 153, 176, 209, 232, 265, 308, 331, 364, 397, 430, 463, 496, 519, 552, 595, 628, 641, 674, 687, 740, 753, 766, 779, 792, 815], 120) := by decide +kernel
theorem dL_law_152 : decode cL_law 152 = .ok (.aload_n 1, 1) := by decide +kernel
theorem dL_law_153 : decode cL_law 153 = .ok (.aload_n 0, 1) := by decide +kernel
theorem dL_law_154 : decode cL_law 154 = .ok (.iload_n 3, 1) := by decide +kernel
theorem dL_law_155 : decode cL_law 155 = .ok (.iconst 1, 1) := by decide +kernel
theorem dL_law_156 : decode cL_law 156 = .ok (.iadd, 1) := by decide +kernel
theorem dL_law_157 : decode cL_law 157 = .ok (.iaload, 1) := by decide +kernel
theorem dL_law_158 : decode cL_law 158 = .ok (.aload_n 0, 1) := by decide +kernel
theorem dL_law_159 : decode cL_law 159 = .ok (.iload_n 3, 1) := by decide +kernel
theorem dL_law_160 : decode cL_law 160 = .ok (.iconst 2, 1) := by decide +kernel
theorem dL_law_161 : decode cL_law 161 = .ok (.iadd, 1) := by decide +kernel
theorem dL_law_162 : decode cL_law 162 = .ok (.iaload, 1) := by decide +kernel
theorem dL_law_163 : decode cL_law 163 = .ok (.invokevirtual 13, 3) := by decide +kernel
theorem dL_law_166 : decode cL_law 166 = .ok (.aload_n 2, 1) := by decide +kernel
theorem dL_law_167 : decode cL_law 167 = .ok (.aload_n 0, 1) := by decide +kernel
theorem dL_law_168 : decode cL_law 168 = .ok (.iload_n 3, 1) := by decide +kernel
theorem dL_law_169 : decode cL_law 169 = .ok (.iconst 1, 1) := by decide +kernel
theorem dL_law_170 : decode cL_law 170 = .ok (.iadd, 1) := by decide +kernel
theorem dL_law_171 : decode cL_law 171 = .ok (.iaload, 1) := by decide +kernel
theorem dL_law_172 : decode cL_law 172 = .ok (.aload_n 0, 1) := by decide +kernel
theorem dL_law_173 : decode cL_law 173 = .ok (.iload_n 3, 1) := by decide +kernel
theorem dL_law_174 : decode cL_law 174 = .ok (.iconst 2, 1) := by decide +kernel
theorem dL_law_175 : decode cL_law 175 = .ok (.iadd, 1) := by decide +kernel
theorem dL_law_176 : decode cL_law 176 = .ok (.iaload, 1) := by decide +kernel
theorem dL_law_177 : decode cL_law 177 = .ok (.invokevirtual 17, 3) := by decide +kernel
theorem dL_law_180 : decode cL_law 180 = .ok (.if_icmp .eq 690, 3) := by decide +kernel
theorem dL_law_183 : decode cL_law 183 = .ok (.iconst 0, 1) := by decide +kernel
theorem dL_law_184 : decode cL_law 184 = .ok (.ireturn, 1) := by decide +kernel
theorem dL_law_185 : decode cL_law 185 = .ok (.aload_n 1, 1) := by decide +kernel
theorem dL_law_186 : decode cL_law 186 = .ok (.aload_n 0, 1) := by decide +kernel
theorem dL_law_187 : decode cL_law 187 = .ok (.iload_n 3, 1) := by decide +kernel
theorem dL_law_188 : decode cL_law 188 = .ok (.iconst 1, 1) := by decide +kernel
theorem dL_law_189 : decode cL_law 189 = .ok (.iadd, 1) := by decide +kernel
theorem dL_law_190 : decode cL_law 190 = .ok (.iaload, 1) := by decide +kernel
theorem dL_law_191 : decode cL_law 191 = .ok (.invokevirtual 18, 3) := by decide +kernel
theorem dL_law_194 : decode cL_law 194 = .ok (.aload_n 2, 1) := by decide +kernel
theorem dL_law_195 : decode cL_law 195 = .ok (.aload_n 0, 1) := by decide +kernel
theorem dL_law_196 : decode cL_law 196 = .ok (.iload_n 3, 1) := by decide +kernel
theorem dL_law_197 : decode cL_law 197 = .ok (.iconst 1, 1) := by decide +kernel
theorem dL_law_198 : decode cL_law 198 = .ok (.iadd, 1) := by decide +kernel
theorem dL_law_199 : decode cL_law 199 = .ok (.iaload, 1) := by decide +kernel
theorem dL_law_200 : decode cL_law 200 = .ok (.invokevirtual 22, 3) := by decide +kernel
theorem dL_law_203 : decode cL_law 203 = .ok (.if_icmp .eq 667, 3) := by decide +kernel
theorem dL_law_206 : decode cL_law 206 = .ok (.iconst 0, 1) := by decide +kernel
theorem dL_law_207 : decode cL_law 207 = .ok (.ireturn, 1) := by decide +kernel
theorem dL_law_208 : decode cL_law 208 = .ok (.aload_n 1, 1) := by decide +kernel
theorem dL_law_209 : decode cL_law 209 = .ok (.aload_n 0, 1) := by decide +kernel
theorem dL_law_210 : decode cL_law 210 = .ok (.iload_n 3, 1) := by decide +kernel
theorem dL_law_211 : decode cL_law 211 = .ok (.iconst 1, 1) := by decide +kernel
theorem dL_law_212 : decode cL_law 212 = .ok (.iadd, 1) := by decide +kernel
theorem dL_law_213 : decode cL_law 213 = .ok (.iaload, 1) := by decide +kernel
theorem dL_law_214 : decode cL_law 214 = .ok (.aload_n 0, 1) := by decide +kernel
theorem dL_law_215 : decode cL_law 215 = .ok (.iload_n 3, 1) := by decide +kernel
theorem dL_law_216 : decode cL_law 216 = .ok (.iconst 2, 1) := by decide +kernel
theorem dL_law_217 : decode cL_law 217 = .ok (.iadd, 1) := by decide +kernel
theorem dL_law_218 : decode cL_law 218 = .ok (.iaload, 1) := by decide +kernel
theorem dL_law_219 : decode cL_law 219 = .ok (.invokevirtual 23, 3) := by decide +kernel
theorem dL_law_222 : decode cL_law 222 = .ok (.aload_n 2, 1) := by decide +kernel
theorem dL_law_223 : decode cL_law 223 = .ok (.aload_n 0, 1) := by decide +kernel
theorem dL_law_224 : decode cL_law 224 = .ok (.iload_n 3, 1) := by decide +kernel
theorem dL_law_225 : decode cL_law 225 = .ok (.iconst 1, 1) := by decide +kernel
theorem dL_law_226 : decode cL_law 226 = .ok (.iadd, 1) := by decide +kernel
theorem dL_law_227 : decode cL_law 227 = .ok (.iaload, 1) := by decide +kernel
theorem dL_law_228 : decode cL_law 228 = .ok (.aload_n 0, 1) := by decide +kernel
theorem dL_law_229 : decode cL_law 229 = .ok (.iload_n 3, 1) := by decide +kernel
theorem dL_law_230 : decode cL_law 230 = .ok (.iconst 2, 1) := by decide +kernel
theorem dL_law_231 : decode cL_law 231 = .ok (.iadd, 1) := by decide +kernel
theorem dL_law_232 : decode cL_law 232 = .ok (.iaload, 1) := by decide +kernel
theorem dL_law_233 : decode cL_law 233 = .ok (.invokevirtual 26, 3) := by decide +kernel
theorem dL_law_236 : decode cL_law 236 = .ok (.if_icmp .eq 634, 3) := by decide +kernel
theorem dL_law_239 : decode cL_law 239 = .ok (.iconst 0, 1) := by decide +kernel
theorem dL_law_240 : decode cL_law 240 = .ok (.ireturn, 1) := by decide +kernel
theorem dL_law_241 : decode cL_law 241 = .ok (.aload_n 1, 1) := by decide +kernel
theorem dL_law_242 : decode cL_law 242 = .ok (.aload_n 0, 1) := by decide +kernel
theorem dL_law_243 : decode cL_law 243 = .ok (.iload_n 3, 1) := by decide +kernel
theorem dL_law_244 : decode cL_law 244 = .ok (.iconst 1, 1) := by decide +kernel
theorem dL_law_245 : decode cL_law 245 = .ok (.iadd, 1) := by decide +kernel
theorem dL_law_246 : decode cL_law 246 = .ok (.iaload, 1) := by decide +kernel
theorem dL_law_247 : decode cL_law 247 = .ok (.invokevirtual 27, 3) := by decide +kernel
theorem dL_law_250 : decode cL_law 250 = .ok (.aload_n 2, 1) := by decide +kernel
theorem dL_law_251 : decode cL_law 251 = .ok (.aload_n 0, 1) := by decide +kernel
theorem dL_law_252 : decode cL_law 252 = .ok (.iload_n 3, 1) := by decide +kernel
theorem dL_law_253 : decode cL_law 253 = .ok (.iconst 1, 1) := by decide +kernel
theorem dL_law_254 : decode cL_law 254 = .ok (.iadd, 1) := by decide +kernel
theorem dL_law_255 : decode cL_law 255 = .ok (.iaload, 1) := by decide +kernel
theorem dL_law_256 : decode cL_law 256 = .ok (.invokevirtual 30, 3) := by decide +kernel
theorem dL_law_259 : decode cL_law 259 = .ok (.if_icmp .eq 611, 3) := by decide +kernel
theorem dL_law_262 : decode cL_law 262 = .ok (.iconst 0, 1) := by decide +kernel
theorem dL_law_263 : decode cL_law 263 = .ok (.ireturn, 1) := by decide +kernel
theorem dL_law_264 : decode cL_law 264 = .ok (.aload_n 1, 1) := by decide +kernel
theorem dL_law_265 : decode cL_law 265 = .ok (.aload_n 0, 1) := by decide +kernel
theorem dL_law_266 : decode cL_law 266 = .ok (.iload_n 3, 1) := by decide +kernel
theorem dL_law_267 : decode cL_law 267 = .ok (.iconst 1, 1) := by decide +kernel
theorem dL_law_268 : decode cL_law 268 = .ok (.iadd, 1) := by decide +kernel
theorem dL_law_269 : decode cL_law 269 = .ok (.iaload, 1) := by decide +kernel
theorem dL_law_270 : decode cL_law 270 = .ok (.aload_n 0, 1) := by decide +kernel
theorem dL_law_271 : decode cL_law 271 = .ok (.iload_n 3, 1) := by decide +kernel
theorem dL_law_272 : decode cL_law 272 = .ok (.iconst 2, 1) := by decide +kernel
theorem dL_law_273 : decode cL_law 273 = .ok (.iadd, 1) := by decide +kernel
theorem dL_law_274 : decode cL_law 274 = .ok (.iaload, 1) := by decide +kernel
theorem dL_law_275 : decode cL_law 275 = .ok (.invokevirtual 31, 3) := by decide +kernel
theorem dL_law_278 : decode cL_law 278 = .ok (.aload_n 2, 1) := by decide +kernel
theorem dL_law_279 : decode cL_law 279 = .ok (.aload_n 0, 1) := by decide +kernel
theorem dL_law_280 : decode cL_law 280 = .ok (.iload_n 3, 1) := by decide +kernel
theorem dL_law_281 : decode cL_law 281 = .ok (.iconst 1, 1) := by decide +kernel
theorem dL_law_282 : decode cL_law 282 = .ok (.iadd, 1) := by decide +kernel
theorem dL_law_283 : decode cL_law 283 = .ok (.iaload, 1) := by decide +kernel
theorem dL_law_284 : decode cL_law 284 = .ok (.aload_n 0, 1) := by decide +kernel
theorem dL_law_285 : decode cL_law 285 = .ok (.iload_n 3, 1) := by decide +kernel
theorem dL_law_286 : decode cL_law 286 = .ok (.iconst 2, 1) := by decide +kernel
theorem dL_law_287 : decode cL_law 287 = .ok (.iadd, 1) := by decide +kernel
theorem dL_law_288 : decode cL_law 288 = .ok (.iaload, 1) := by decide +kernel
theorem dL_law_289 : decode cL_law 289 = .ok (.invokevirtual 34, 3) := by decide +kernel
theorem dL_law_292 : decode cL_law 292 = .ok (.if_icmp .eq 578, 3) := by decide +kernel
theorem dL_law_295 : decode cL_law 295 = .ok (.iconst 0, 1) := by decide +kernel
theorem dL_law_296 : decode cL_law 296 = .ok (.ireturn, 1) := by decide +kernel
theorem dL_law_297 : decode cL_law 297 = .ok (.aload_n 1, 1) := by decide +kernel
theorem dL_law_298 : decode cL_law 298 = .ok (.aload_n 0, 1) := by decide +kernel
theorem dL_law_299 : decode cL_law 299 = .ok (.iload_n 3, 1) := by decide +kernel
theorem dL_law_300 : decode cL_law 300 = .ok (.iconst 1, 1) := by decide +kernel
theorem dL_law_301 : decode cL_law 301 = .ok (.iadd, 1) := by decide +kernel
theorem dL_law_302 : decode cL_law 302 = .ok (.iaload, 1) := by decide +kernel
theorem dL_law_303 : decode cL_law 303 = .ok (.aload_n 0, 1) := by decide +kernel
theorem dL_law_304 : decode cL_law 304 = .ok (.iload_n 3, 1) := by decide +kernel
theorem dL_law_305 : decode cL_law 305 = .ok (.iconst 2, 1) := by decide +kernel
theorem dL_law_306 : decode cL_law 306 = .ok (.iadd, 1) := by decide +kernel
theorem dL_law_307 : decode cL_law 307 = .ok (.iaload, 1) := by decide +kernel
theorem dL_law_308 : decode cL_law 308 = .ok (.aload_n 0, 1) := by decide +kernel
theorem dL_law_309 : decode cL_law 309 = .ok (.iload_n 3, 1) := by decide +kernel
theorem dL_law_310 : decode cL_law 310 = .ok (.iconst 3, 1) := by decide +kernel
theorem dL_law_311 : decode cL_law 311 = .ok (.iadd, 1) := by decide +kernel
theorem dL_law_312 : decode cL_law 312 = .ok (.iaload, 1) := by decide +kernel
theorem dL_law_313 : decode cL_law 313 = .ok (.invokevirtual 35, 3) := by decide +kernel
theorem dL_law_316 : decode cL_law 316 = .ok (.aload_n 2, 1) := by decide +kernel
theorem dL_law_317 : decode cL_law 317 = .ok (.aload_n 0, 1) := by decide +kernel
theorem dL_law_318 : decode cL_law 318 = .ok (.iload_n 3, 1) := by decide +kernel
theorem dL_law_319 : decode cL_law 319 = .ok (.iconst 1, 1) := by decide +kernel
theorem dL_law_320 : decode cL_law 320 = .ok (.iadd, 1) := by decide +kernel
theorem dL_law_321 : decode cL_law 321 = .ok (.iaload, 1) := by decide +kernel
theorem dL_law_322 : decode cL_law 322 = .ok (.aload_n 0, 1) := by decide +kernel
theorem dL_law_323 : decode cL_law 323 = .ok (.iload_n 3, 1) := by decide +kernel
theorem dL_law_324 : decode cL_law 324 = .ok (.iconst 2, 1) := by decide +kernel
theorem dL_law_325 : decode cL_law 325 = .ok (.iadd, 1) := by decide +kernel
theorem dL_law_326 : decode cL_law 326 = .ok (.iaload, 1) := by decide +kernel
theorem dL_law_327 : decode cL_law 327 = .ok (.aload_n 0, 1) := by decide +kernel
theorem dL_law_328 : decode cL_law 328 = .ok (.iload_n 3, 1) := by decide +kernel
theorem dL_law_329 : decode cL_law 329 = .ok (.iconst 3, 1) := by decide +kernel
theorem dL_law_330 : decode cL_law 330 = .ok (.iadd, 1) := by decide +kernel
theorem dL_law_331 : decode cL_law 331 = .ok (.iaload, 1) := by decide +kernel
theorem dL_law_332 : decode cL_law 332 = .ok (.invokevirtual 39, 3) := by decide +kernel
theorem dL_law_335 : decode cL_law 335 = .ok (.if_icmp .eq 535, 3) := by decide +kernel
theorem dL_law_338 : decode cL_law 338 = .ok (.iconst 0, 1) := by decide +kernel
theorem dL_law_339 : decode cL_law 339 = .ok (.ireturn, 1) := by decide +kernel
theorem dL_law_340 : decode cL_law 340 = .ok (.aload_n 1, 1) := by decide +kernel
theorem dL_law_341 : decode cL_law 341 = .ok (.aload_n 0, 1) := by decide +kernel
theorem dL_law_342 : decode cL_law 342 = .ok (.iload_n 3, 1) := by decide +kernel
theorem dL_law_343 : decode cL_law 343 = .ok (.iconst 1, 1) := by decide +kernel
theorem dL_law_344 : decode cL_law 344 = .ok (.iadd, 1) := by decide +kernel
theorem dL_law_345 : decode cL_law 345 = .ok (.iaload, 1) := by decide +kernel
theorem dL_law_346 : decode cL_law 346 = .ok (.invokevirtual 40, 3) := by decide +kernel
theorem dL_law_349 : decode cL_law 349 = .ok (.aload_n 2, 1) := by decide +kernel
theorem dL_law_350 : decode cL_law 350 = .ok (.aload_n 0, 1) := by decide +kernel
theorem dL_law_351 : decode cL_law 351 = .ok (.iload_n 3, 1) := by decide +kernel
theorem dL_law_352 : decode cL_law 352 = .ok (.iconst 1, 1) := by decide +kernel
theorem dL_law_353 : decode cL_law 353 = .ok (.iadd, 1) := by decide +kernel
theorem dL_law_354 : decode cL_law 354 = .ok (.iaload, 1) := by decide +kernel
theorem dL_law_355 : decode cL_law 355 = .ok (.invokevirtual 43, 3) := by decide +kernel
theorem dL_law_358 : decode cL_law 358 = .ok (.if_icmp .eq 512, 3) := by decide +kernel
theorem dL_law_361 : decode cL_law 361 = .ok (.iconst 0, 1) := by decide +kernel
theorem dL_law_362 : decode cL_law 362 = .ok (.ireturn, 1) := by decide +kernel
theorem dL_law_363 : decode cL_law 363 = .ok (.aload_n 1, 1) := by decide +kernel
theorem dL_law_364 : decode cL_law 364 = .ok (.aload_n 0, 1) := by decide +kernel
theorem dL_law_365 : decode cL_law 365 = .ok (.iload_n 3, 1) := by decide +kernel
theorem dL_law_366 : decode cL_law 366 = .ok (.iconst 1, 1) := by decide +kernel
theorem dL_law_367 : decode cL_law 367 = .ok (.iadd, 1) := by decide +kernel
theorem dL_law_368 : decode cL_law 368 = .ok (.iaload, 1) := by decide +kernel
theorem dL_law_369 : decode cL_law 369 = .ok (.aload_n 0, 1) := by decide +kernel
theorem dL_law_370 : decode cL_law 370 = .ok (.iload_n 3, 1) := by decide +kernel
theorem dL_law_371 : decode cL_law 371 = .ok (.iconst 2, 1) := by decide +kernel
theorem dL_law_372 : decode cL_law 372 = .ok (.iadd, 1) := by decide +kernel
theorem dL_law_373 : decode cL_law 373 = .ok (.iaload, 1) := by decide +kernel
theorem dL_law_374 : decode cL_law 374 = .ok (.invokevirtual 44, 3) := by decide +kernel
theorem dL_law_377 : decode cL_law 377 = .ok (.aload_n 2, 1) := by decide +kernel
theorem dL_law_378 : decode cL_law 378 = .ok (.aload_n 0, 1) := by decide +kernel
theorem dL_law_379 : decode cL_law 379 = .ok (.iload_n 3, 1) := by decide +kernel
theorem dL_law_380 : decode cL_law 380 = .ok (.iconst 1, 1) := by decide +kernel
theorem dL_law_381 : decode cL_law 381 = .ok (.iadd, 1) := by decide +kernel
theorem dL_law_382 : decode cL_law 382 = .ok (.iaload, 1) := by decide +kernel
theorem dL_law_383 : decode cL_law 383 = .ok (.aload_n 0, 1) := by decide +kernel
theorem dL_law_384 : decode cL_law 384 = .ok (.iload_n 3, 1) := by decide +kernel
theorem dL_law_385 : decode cL_law 385 = .ok (.iconst 2, 1) := by decide +kernel
theorem dL_law_386 : decode cL_law 386 = .ok (.iadd, 1) := by decide +kernel
theorem dL_law_387 : decode cL_law 387 = .ok (.iaload, 1) := by decide +kernel
theorem dL_law_388 : decode cL_law 388 = .ok (.invokevirtual 47, 3) := by decide +kernel
theorem dL_law_391 : decode cL_law 391 = .ok (.if_icmp .eq 479, 3) := by decide +kernel
theorem dL_law_394 : decode cL_law 394 = .ok (.iconst 0, 1) := by decide +kernel
theorem dL_law_395 : decode cL_law 395 = .ok (.ireturn, 1) := by decide +kernel
theorem dL_law_396 : decode cL_law 396 = .ok (.aload_n 1, 1) := by decide +kernel
theorem dL_law_397 : decode cL_law 397 = .ok (.aload_n 0, 1) := by decide +kernel
theorem dL_law_398 : decode cL_law 398 = .ok (.iload_n 3, 1) := by decide +kernel
theorem dL_law_399 : decode cL_law 399 = .ok (.iconst 1, 1) := by decide +kernel
theorem dL_law_400 : decode cL_law 400 = .ok (.iadd, 1) := by decide +kernel
theorem dL_law_401 : decode cL_law 401 = .ok (.iaload, 1) := by decide +kernel
theorem dL_law_402 : decode cL_law 402 = .ok (.aload_n 0, 1) := by decide +kernel
theorem dL_law_403 : decode cL_law 403 = .ok (.iload_n 3, 1) := by decide +kernel
theorem dL_law_404 : decode cL_law 404 = .ok (.iconst 2, 1) := by decide +kernel
theorem dL_law_405 : decode cL_law 405 = .ok (.iadd, 1) := by decide +kernel
theorem dL_law_406 : decode cL_law 406 = .ok (.iaload, 1) := by decide +kernel
theorem dL_law_407 : decode cL_law 407 = .ok (.invokevirtual 48, 3) := by decide +kernel
theorem dL_law_410 : decode cL_law 410 = .ok (.aload_n 2, 1) := by decide +kernel
theorem dL_law_411 : decode cL_law 411 = .ok (.aload_n 0, 1) := by decide +kernel
theorem dL_law_412 : decode cL_law 412 = .ok (.iload_n 3, 1) := by decide +kernel
theorem dL_law_413 : decode cL_law 413 = .ok (.iconst 1, 1) := by decide +kernel
theorem dL_law_414 : decode cL_law 414 = .ok (.iadd, 1) := by decide +kernel
theorem dL_law_415 : decode cL_law 415 = .ok (.iaload, 1) := by decide +kernel
theorem dL_law_416 : decode cL_law 416 = .ok (.aload_n 0, 1) := by decide +kernel
theorem dL_law_417 : decode cL_law 417 = .ok (.iload_n 3, 1) := by decide +kernel
theorem dL_law_418 : decode cL_law 418 = .ok (.iconst 2, 1) := by decide +kernel
theorem dL_law_419 : decode cL_law 419 = .ok (.iadd, 1) := by decide +kernel
theorem dL_law_420 : decode cL_law 420 = .ok (.iaload, 1) := by decide +kernel
theorem dL_law_421 : decode cL_law 421 = .ok (.invokevirtual 51, 3) := by decide +kernel
theorem dL_law_424 : decode cL_law 424 = .ok (.if_icmp .eq 446, 3) := by decide +kernel
theorem dL_law_427 : decode cL_law 427 = .ok (.iconst 0, 1) := by decide +kernel
theorem dL_law_428 : decode cL_law 428 = .ok (.ireturn, 1) := by decide +kernel
theorem dL_law_429 : decode cL_law 429 = .ok (.aload_n 1, 1) := by decide +kernel
theorem dL_law_430 : decode cL_law 430 = .ok (.aload_n 0, 1) := by decide +kernel
theorem dL_law_431 : decode cL_law 431 = .ok (.iload_n 3, 1) := by decide +kernel
theorem dL_law_432 : decode cL_law 432 = .ok (.iconst 1, 1) := by decide +kernel
theorem dL_law_433 : decode cL_law 433 = .ok (.iadd, 1) := by decide +kernel
theorem dL_law_434 : decode cL_law 434 = .ok (.iaload, 1) := by decide +kernel
theorem dL_law_435 : decode cL_law 435 = .ok (.aload_n 0, 1) := by decide +kernel
theorem dL_law_436 : decode cL_law 436 = .ok (.iload_n 3, 1) := by decide +kernel
theorem dL_law_437 : decode cL_law 437 = .ok (.iconst 2, 1) := by decide +kernel
theorem dL_law_438 : decode cL_law 438 = .ok (.iadd, 1) := by decide +kernel
theorem dL_law_439 : decode cL_law 439 = .ok (.iaload, 1) := by decide +kernel
theorem dL_law_440 : decode cL_law 440 = .ok (.invokevirtual 52, 3) := by decide +kernel
theorem dL_law_443 : decode cL_law 443 = .ok (.aload_n 2, 1) := by decide +kernel
theorem dL_law_444 : decode cL_law 444 = .ok (.aload_n 0, 1) := by decide +kernel
theorem dL_law_445 : decode cL_law 445 = .ok (.iload_n 3, 1) := by decide +kernel
theorem dL_law_446 : decode cL_law 446 = .ok (.iconst 1, 1) := by decide +kernel
theorem dL_law_447 : decode cL_law 447 = .ok (.iadd, 1) := by decide +kernel
theorem dL_law_448 : decode cL_law 448 = .ok (.iaload, 1) := by decide +kernel
theorem dL_law_449 : decode cL_law 449 = .ok (.aload_n 0, 1) := by decide +kernel
theorem dL_law_450 : decode cL_law 450 = .ok (.iload_n 3, 1) := by decide +kernel
theorem dL_law_451 : decode cL_law 451 = .ok (.iconst 2, 1) := by decide +kernel
theorem dL_law_452 : decode cL_law 452 = .ok (.iadd, 1) := by decide +kernel
theorem dL_law_453 : decode cL_law 453 = .ok (.iaload, 1) := by decide +kernel
theorem dL_law_454 : decode cL_law 454 = .ok (.invokevirtual 55, 3) := by decide +kernel
theorem dL_law_457 : decode cL_law 457 = .ok (.if_icmp .eq 413, 3) := by decide +kernel
theorem dL_law_460 : decode cL_law 460 = .ok (.iconst 0, 1) := by decide +kernel
theorem dL_law_461 : decode cL_law 461 = .ok (.ireturn, 1) := by decide +kernel
theorem dL_law_462 : decode cL_law 462 = .ok (.aload_n 1, 1) := by decide +kernel
theorem dL_law_463 : decode cL_law 463 = .ok (.aload_n 0, 1) := by decide +kernel
theorem dL_law_464 : decode cL_law 464 = .ok (.iload_n 3, 1) := by decide +kernel
theorem dL_law_465 : decode cL_law 465 = .ok (.iconst 1, 1) := by decide +kernel
theorem dL_law_466 : decode cL_law 466 = .ok (.iadd, 1) := by decide +kernel
theorem dL_law_467 : decode cL_law 467 = .ok (.iaload, 1) := by decide +kernel
theorem dL_law_468 : decode cL_law 468 = .ok (.aload_n 0, 1) := by decide +kernel
theorem dL_law_469 : decode cL_law 469 = .ok (.iload_n 3, 1) := by decide +kernel
theorem dL_law_470 : decode cL_law 470 = .ok (.iconst 2, 1) := by decide +kernel
theorem dL_law_471 : decode cL_law 471 = .ok (.iadd, 1) := by decide +kernel
theorem dL_law_472 : decode cL_law 472 = .ok (.iaload, 1) := by decide +kernel
theorem dL_law_473 : decode cL_law 473 = .ok (.invokevirtual 56, 3) := by decide +kernel
theorem dL_law_476 : decode cL_law 476 = .ok (.aload_n 2, 1) := by decide +kernel
theorem dL_law_477 : decode cL_law 477 = .ok (.aload_n 0, 1) := by decide +kernel
theorem dL_law_478 : decode cL_law 478 = .ok (.iload_n 3, 1) := by decide +kernel
theorem dL_law_479 : decode cL_law 479 = .ok (.iconst 1, 1) := by decide +kernel
theorem dL_law_480 : decode cL_law 480 = .ok (.iadd, 1) := by decide +kernel
theorem dL_law_481 : decode cL_law 481 = .ok (.iaload, 1) := by decide +kernel
theorem dL_law_482 : decode cL_law 482 = .ok (.aload_n 0, 1) := by decide +kernel
theorem dL_law_483 : decode cL_law 483 = .ok (.iload_n 3, 1) := by decide +kernel
theorem dL_law_484 : decode cL_law 484 = .ok (.iconst 2, 1) := by decide +kernel
theorem dL_law_485 : decode cL_law 485 = .ok (.iadd, 1) := by decide +kernel
theorem dL_law_486 : decode cL_law 486 = .ok (.iaload, 1) := by decide +kernel
theorem dL_law_487 : decode cL_law 487 = .ok (.invokevirtual 59, 3) := by decide +kernel
theorem dL_law_490 : decode cL_law 490 = .ok (.if_icmp .eq 380, 3) := by decide +kernel
theorem dL_law_493 : decode cL_law 493 = .ok (.iconst 0, 1) := by decide +kernel
theorem dL_law_494 : decode cL_law 494 = .ok (.ireturn, 1) := by decide +kernel
theorem dL_law_495 : decode cL_law 495 = .ok (.aload_n 1, 1) := by decide +kernel
theorem dL_law_496 : decode cL_law 496 = .ok (.aload_n 0, 1) := by decide +kernel
theorem dL_law_497 : decode cL_law 497 = .ok (.iload_n 3, 1) := by decide +kernel
theorem dL_law_498 : decode cL_law 498 = .ok (.iconst 1, 1) := by decide +kernel
theorem dL_law_499 : decode cL_law 499 = .ok (.iadd, 1) := by decide +kernel
theorem dL_law_500 : decode cL_law 500 = .ok (.iaload, 1) := by decide +kernel
theorem dL_law_501 : decode cL_law 501 = .ok (.aload_n 0, 1) := by decide +kernel
theorem dL_law_502 : decode cL_law 502 = .ok (.iload_n 3, 1) := by decide +kernel
theorem dL_law_503 : decode cL_law 503 = .ok (.iconst 2, 1) := by decide +kernel
theorem dL_law_504 : decode cL_law 504 = .ok (.iadd, 1) := by decide +kernel
theorem dL_law_505 : decode cL_law 505 = .ok (.iaload, 1) := by decide +kernel
theorem dL_law_506 : decode cL_law 506 = .ok (.invokevirtual 60, 3) := by decide +kernel
theorem dL_law_509 : decode cL_law 509 = .ok (.aload_n 2, 1) := by decide +kernel
theorem dL_law_510 : decode cL_law 510 = .ok (.aload_n 0, 1) := by decide +kernel
theorem dL_law_511 : decode cL_law 511 = .ok (.iload_n 3, 1) := by decide +kernel
theorem dL_law_512 : decode cL_law 512 = .ok (.iconst 1, 1) := by decide +kernel
theorem dL_law_513 : decode cL_law 513 = .ok (.iadd, 1) := by decide +kernel
theorem dL_law_514 : decode cL_law 514 = .ok (.iaload, 1) := by decide +kernel
theorem dL_law_515 : decode cL_law 515 = .ok (.aload_n 0, 1) := by decide +kernel
theorem dL_law_516 : decode cL_law 516 = .ok (.iload_n 3, 1) := by decide +kernel
theorem dL_law_517 : decode cL_law 517 = .ok (.iconst 2, 1) := by decide +kernel
theorem dL_law_518 : decode cL_law 518 = .ok (.iadd, 1) := by decide +kernel
theorem dL_law_519 : decode cL_law 519 = .ok (.iaload, 1) := by decide +kernel
theorem dL_law_520 : decode cL_law 520 = .ok (.invokevirtual 63, 3) := by decide +kernel
theorem dL_law_523 : decode cL_law 523 = .ok (.if_icmp .eq 347, 3) := by decide +kernel
theorem dL_law_526 : decode cL_law 526 = .ok (.iconst 0, 1) := by decide +kernel
theorem dL_law_527 : decode cL_law 527 = .ok (.ireturn, 1) := by decide +kernel
theorem dL_law_528 : decode cL_law 528 = .ok (.aload_n 1, 1) := by decide +kernel
theorem dL_law_529 : decode cL_law 529 = .ok (.aload_n 0, 1) := by decide +kernel
theorem dL_law_530 : decode cL_law 530 = .ok (.iload_n 3, 1) := by decide +kernel
theorem dL_law_531 : decode cL_law 531 = .ok (.iconst 1, 1) := by decide +kernel
theorem dL_law_532 : decode cL_law 532 = .ok (.iadd, 1) := by decide +kernel
theorem dL_law_533 : decode cL_law 533 = .ok (.iaload, 1) := by decide +kernel
theorem dL_law_534 : decode cL_law 534 = .ok (.invokevirtual 64, 3) := by decide +kernel
theorem dL_law_537 : decode cL_law 537 = .ok (.aload_n 2, 1) := by decide +kernel
theorem dL_law_538 : decode cL_law 538 = .ok (.aload_n 0, 1) := by decide +kernel
theorem dL_law_539 : decode cL_law 539 = .ok (.iload_n 3, 1) := by decide +kernel
theorem dL_law_540 : decode cL_law 540 = .ok (.iconst 1, 1) := by decide +kernel
theorem dL_law_541 : decode cL_law 541 = .ok (.iadd, 1) := by decide +kernel
theorem dL_law_542 : decode cL_law 542 = .ok (.iaload, 1) := by decide +kernel
theorem dL_law_543 : decode cL_law 543 = .ok (.invokevirtual 67, 3) := by decide +kernel
theorem dL_law_546 : decode cL_law 546 = .ok (.if_icmp .eq 324, 3) := by decide +kernel
theorem dL_law_549 : decode cL_law 549 = .ok (.iconst 0, 1) := by decide +kernel
theorem dL_law_550 : decode cL_law 550 = .ok (.ireturn, 1) := by decide +kernel
theorem dL_law_551 : decode cL_law 551 = .ok (.aload_n 1, 1) := by decide +kernel
theorem dL_law_552 : decode cL_law 552 = .ok (.aload_n 0, 1) := by decide +kernel
theorem dL_law_553 : decode cL_law 553 = .ok (.iload_n 3, 1) := by decide +kernel
theorem dL_law_554 : decode cL_law 554 = .ok (.iconst 1, 1) := by decide +kernel
theorem dL_law_555 : decode cL_law 555 = .ok (.iadd, 1) := by decide +kernel
theorem dL_law_556 : decode cL_law 556 = .ok (.iaload, 1) := by decide +kernel
theorem dL_law_557 : decode cL_law 557 = .ok (.aload_n 0, 1) := by decide +kernel
theorem dL_law_558 : decode cL_law 558 = .ok (.iload_n 3, 1) := by decide +kernel
theorem dL_law_559 : decode cL_law 559 = .ok (.iconst 2, 1) := by decide +kernel
theorem dL_law_560 : decode cL_law 560 = .ok (.iadd, 1) := by decide +kernel
theorem dL_law_561 : decode cL_law 561 = .ok (.iaload, 1) := by decide +kernel
theorem dL_law_562 : decode cL_law 562 = .ok (.invokevirtual 68, 3) := by decide +kernel
theorem dL_law_565 : decode cL_law 565 = .ok (.aload_n 2, 1) := by decide +kernel
theorem dL_law_566 : decode cL_law 566 = .ok (.aload_n 0, 1) := by decide +kernel
theorem dL_law_567 : decode cL_law 567 = .ok (.iload_n 3, 1) := by decide +kernel
theorem dL_law_568 : decode cL_law 568 = .ok (.iconst 1, 1) := by decide +kernel
theorem dL_law_569 : decode cL_law 569 = .ok (.iadd, 1) := by decide +kernel
theorem dL_law_570 : decode cL_law 570 = .ok (.iaload, 1) := by decide +kernel
theorem dL_law_571 : decode cL_law 571 = .ok (.aload_n 0, 1) := by decide +kernel
theorem dL_law_572 : decode cL_law 572 = .ok (.iload_n 3, 1) := by decide +kernel
theorem dL_law_573 : decode cL_law 573 = .ok (.iconst 2, 1) := by decide +kernel
theorem dL_law_574 : decode cL_law 574 = .ok (.iadd, 1) := by decide +kernel
theorem dL_law_575 : decode cL_law 575 = .ok (.iaload, 1) := by decide +kernel
theorem dL_law_576 : decode cL_law 576 = .ok (.invokevirtual 71, 3) := by decide +kernel
theorem dL_law_579 : decode cL_law 579 = .ok (.if_icmp .eq 291, 3) := by decide +kernel
theorem dL_law_582 : decode cL_law 582 = .ok (.iconst 0, 1) := by decide +kernel
theorem dL_law_583 : decode cL_law 583 = .ok (.ireturn, 1) := by decide +kernel
theorem dL_law_584 : decode cL_law 584 = .ok (.aload_n 1, 1) := by decide +kernel
theorem dL_law_585 : decode cL_law 585 = .ok (.aload_n 0, 1) := by decide +kernel
theorem dL_law_586 : decode cL_law 586 = .ok (.iload_n 3, 1) := by decide +kernel
theorem dL_law_587 : decode cL_law 587 = .ok (.iconst 1, 1) := by decide +kernel
theorem dL_law_588 : decode cL_law 588 = .ok (.iadd, 1) := by decide +kernel
theorem dL_law_589 : decode cL_law 589 = .ok (.iaload, 1) := by decide +kernel
theorem dL_law_590 : decode cL_law 590 = .ok (.aload_n 0, 1) := by decide +kernel
theorem dL_law_591 : decode cL_law 591 = .ok (.iload_n 3, 1) := by decide +kernel
theorem dL_law_592 : decode cL_law 592 = .ok (.iconst 2, 1) := by decide +kernel
theorem dL_law_593 : decode cL_law 593 = .ok (.iadd, 1) := by decide +kernel
theorem dL_law_594 : decode cL_law 594 = .ok (.iaload, 1) := by decide +kernel
theorem dL_law_595 : decode cL_law 595 = .ok (.aload_n 0, 1) := by decide +kernel
theorem dL_law_596 : decode cL_law 596 = .ok (.iload_n 3, 1) := by decide +kernel
theorem dL_law_597 : decode cL_law 597 = .ok (.iconst 3, 1) := by decide +kernel
theorem dL_law_598 : decode cL_law 598 = .ok (.iadd, 1) := by decide +kernel
theorem dL_law_599 : decode cL_law 599 = .ok (.iaload, 1) := by decide +kernel
theorem dL_law_600 : decode cL_law 600 = .ok (.invokevirtual 72, 3) := by decide +kernel
theorem dL_law_603 : decode cL_law 603 = .ok (.aload_n 2, 1) := by decide +kernel
theorem dL_law_604 : decode cL_law 604 = .ok (.aload_n 0, 1) := by decide +kernel
theorem dL_law_605 : decode cL_law 605 = .ok (.iload_n 3, 1) := by decide +kernel
theorem dL_law_606 : decode cL_law 606 = .ok (.iconst 1, 1) := by decide +kernel
theorem dL_law_607 : decode cL_law 607 = .ok (.iadd, 1) := by decide +kernel
theorem dL_law_608 : decode cL_law 608 = .ok (.iaload, 1) := by decide +kernel
theorem dL_law_609 : decode cL_law 609 = .ok (.aload_n 0, 1) := by decide +kernel
theorem dL_law_610 : decode cL_law 610 = .ok (.iload_n 3, 1) := by decide +kernel
theorem dL_law_611 : decode cL_law 611 = .ok (.iconst 2, 1) := by decide +kernel
theorem dL_law_612 : decode cL_law 612 = .ok (.iadd, 1) := by decide +kernel
theorem dL_law_613 : decode cL_law 613 = .ok (.iaload, 1) := by decide +kernel
theorem dL_law_614 : decode cL_law 614 = .ok (.aload_n 0, 1) := by decide +kernel
theorem dL_law_615 : decode cL_law 615 = .ok (.iload_n 3, 1) := by decide +kernel
theorem dL_law_616 : decode cL_law 616 = .ok (.iconst 3, 1) := by decide +kernel
theorem dL_law_617 : decode cL_law 617 = .ok (.iadd, 1) := by decide +kernel
theorem dL_law_618 : decode cL_law 618 = .ok (.iaload, 1) := by decide +kernel
theorem dL_law_619 : decode cL_law 619 = .ok (.invokevirtual 75, 3) := by decide +kernel
theorem dL_law_622 : decode cL_law 622 = .ok (.if_icmp .eq 248, 3) := by decide +kernel
theorem dL_law_625 : decode cL_law 625 = .ok (.iconst 0, 1) := by decide +kernel
theorem dL_law_626 : decode cL_law 626 = .ok (.ireturn, 1) := by decide +kernel
theorem dL_law_627 : decode cL_law 627 = .ok (.aload_n 1, 1) := by decide +kernel
theorem dL_law_628 : decode cL_law 628 = .ok (.aload_n 0, 1) := by decide +kernel
theorem dL_law_629 : decode cL_law 629 = .ok (.iload_n 3, 1) := by decide +kernel
theorem dL_law_630 : decode cL_law 630 = .ok (.iconst 1, 1) := by decide +kernel
theorem dL_law_631 : decode cL_law 631 = .ok (.iadd, 1) := by decide +kernel
theorem dL_law_632 : decode cL_law 632 = .ok (.iaload, 1) := by decide +kernel
theorem dL_law_633 : decode cL_law 633 = .ok (.aload_n 0, 1) := by decide +kernel
theorem dL_law_634 : decode cL_law 634 = .ok (.iload_n 3, 1) := by decide +kernel
theorem dL_law_635 : decode cL_law 635 = .ok (.iconst 2, 1) := by decide +kernel
theorem dL_law_636 : decode cL_law 636 = .ok (.iadd, 1) := by decide +kernel
theorem dL_law_637 : decode cL_law 637 = .ok (.iaload, 1) := by decide +kernel
theorem dL_law_638 : decode cL_law 638 = .ok (.invokevirtual 76, 3) := by decide +kernel
theorem dL_law_641 : decode cL_law 641 = .ok (.aload_n 2, 1) := by decide +kernel
theorem dL_law_642 : decode cL_law 642 = .ok (.aload_n 0, 1) := by decide +kernel
theorem dL_law_643 : decode cL_law 643 = .ok (.iload_n 3, 1) := by decide +kernel
theorem dL_law_644 : decode cL_law 644 = .ok (.iconst 1, 1) := by decide +kernel
theorem dL_law_645 : decode cL_law 645 = .ok (.iadd, 1) := by decide +kernel
theorem dL_law_646 : decode cL_law 646 = .ok (.iaload, 1) := by decide +kernel
theorem dL_law_647 : decode cL_law 647 = .ok (.aload_n 0, 1) := by decide +kernel
theorem dL_law_648 : decode cL_law 648 = .ok (.iload_n 3, 1) := by decide +kernel
theorem dL_law_649 : decode cL_law 649 = .ok (.iconst 2, 1) := by decide +kernel
theorem dL_law_650 : decode cL_law 650 = .ok (.iadd, 1) := by decide +kernel
theorem dL_law_651 : decode cL_law 651 = .ok (.iaload, 1) := by decide +kernel
theorem dL_law_652 : decode cL_law 652 = .ok (.invokevirtual 79, 3) := by decide +kernel
theorem dL_law_655 : decode cL_law 655 = .ok (.if_icmp .eq 215, 3) := by decide +kernel
theorem dL_law_658 : decode cL_law 658 = .ok (.iconst 0, 1) := by decide +kernel
theorem dL_law_659 : decode cL_law 659 = .ok (.ireturn, 1) := by decide +kernel
theorem dL_law_660 : decode cL_law 660 = .ok (.aload_n 1, 1) := by decide +kernel
theorem dL_law_661 : decode cL_law 661 = .ok (.invokevirtual 80, 3) := by decide +kernel
theorem dL_law_664 : decode cL_law 664 = .ok (.aload_n 2, 1) := by decide +kernel
theorem dL_law_665 : decode cL_law 665 = .ok (.invokevirtual 84, 3) := by decide +kernel
theorem dL_law_668 : decode cL_law 668 = .ok (.if_icmp .eq 202, 3) := by decide +kernel
theorem dL_law_671 : decode cL_law 671 = .ok (.iconst 0, 1) := by decide +kernel
theorem dL_law_672 : decode cL_law 672 = .ok (.ireturn, 1) := by decide +kernel
theorem dL_law_673 : decode cL_law 673 = .ok (.aload_n 1, 1) := by decide +kernel
theorem dL_law_674 : decode cL_law 674 = .ok (.aload_n 0, 1) := by decide +kernel
theorem dL_law_675 : decode cL_law 675 = .ok (.iload_n 3, 1) := by decide +kernel
theorem dL_law_676 : decode cL_law 676 = .ok (.iconst 1, 1) := by decide +kernel
theorem dL_law_677 : decode cL_law 677 = .ok (.iadd, 1) := by decide +kernel
theorem dL_law_678 : decode cL_law 678 = .ok (.iaload, 1) := by decide +kernel
theorem dL_law_679 : decode cL_law 679 = .ok (.aload_n 0, 1) := by decide +kernel
theorem dL_law_680 : decode cL_law 680 = .ok (.iload_n 3, 1) := by decide +kernel
theorem dL_law_681 : decode cL_law 681 = .ok (.iconst 2, 1) := by decide +kernel
theorem dL_law_682 : decode cL_law 682 = .ok (.iadd, 1) := by decide +kernel
theorem dL_law_683 : decode cL_law 683 = .ok (.iaload, 1) := by decide +kernel
theorem dL_law_684 : decode cL_law 684 = .ok (.invokevirtual 85, 3) := by decide +kernel
theorem dL_law_687 : decode cL_law 687 = .ok (.aload_n 2, 1) := by decide +kernel
theorem dL_law_688 : decode cL_law 688 = .ok (.aload_n 0, 1) := by decide +kernel
theorem dL_law_689 : decode cL_law 689 = .ok (.iload_n 3, 1) := by decide +kernel
theorem dL_law_690 : decode cL_law 690 = .ok (.iconst 1, 1) := by decide +kernel
theorem dL_law_691 : decode cL_law 691 = .ok (.iadd, 1) := by decide +kernel
theorem dL_law_692 : decode cL_law 692 = .ok (.iaload, 1) := by decide +kernel
theorem dL_law_693 : decode cL_law 693 = .ok (.aload_n 0, 1) := by decide +kernel
theorem dL_law_694 : decode cL_law 694 = .ok (.iload_n 3, 1) := by decide +kernel
theorem dL_law_695 : decode cL_law 695 = .ok (.iconst 2, 1) := by decide +kernel
theorem dL_law_696 : decode cL_law 696 = .ok (.iadd, 1) := by decide +kernel
theorem dL_law_697 : decode cL_law 697 = .ok (.iaload, 1) := by decide +kernel
theorem dL_law_698 : decode cL_law 698 = .ok (.invokevirtual 88, 3) := by decide +kernel
theorem dL_law_701 : decode cL_law 701 = .ok (.if_icmp .eq 169, 3) := by decide +kernel
theorem dL_law_704 : decode cL_law 704 = .ok (.iconst 0, 1) := by decide +kernel
theorem dL_law_705 : decode cL_law 705 = .ok (.ireturn, 1) := by decide +kernel
theorem dL_law_706 : decode cL_law 706 = .ok (.aload_n 1, 1) := by decide +kernel
theorem dL_law_707 : decode cL_law 707 = .ok (.invokevirtual 89, 3) := by decide +kernel
theorem dL_law_710 : decode cL_law 710 = .ok (.aload_n 2, 1) := by decide +kernel
theorem dL_law_711 : decode cL_law 711 = .ok (.invokevirtual 92, 3) := by decide +kernel
theorem dL_law_714 : decode cL_law 714 = .ok (.if_icmp .eq 156, 3) := by decide +kernel
theorem dL_law_717 : decode cL_law 717 = .ok (.iconst 0, 1) := by decide +kernel
theorem dL_law_718 : decode cL_law 718 = .ok (.ireturn, 1) := by decide +kernel
theorem dL_law_719 : decode cL_law 719 = .ok (.aload_n 1, 1) := by decide +kernel
theorem dL_law_720 : decode cL_law 720 = .ok (.aload_n 0, 1) := by decide +kernel
theorem dL_law_721 : decode cL_law 721 = .ok (.iload_n 3, 1) := by decide +kernel
theorem dL_law_722 : decode cL_law 722 = .ok (.iconst 1, 1) := by decide +kernel
theorem dL_law_723 : decode cL_law 723 = .ok (.iadd, 1) := by decide +kernel
theorem dL_law_724 : decode cL_law 724 = .ok (.iaload, 1) := by decide +kernel
theorem dL_law_725 : decode cL_law 725 = .ok (.i2l, 1) := by decide +kernel
theorem dL_law_726 : decode cL_law 726 = .ok (.bipush 32, 2) := by decide +kernel
theorem dL_law_728 : decode cL_law 728 = .ok (.lshl, 1) := by decide +kernel
theorem dL_law_729 : decode cL_law 729 = .ok (.aload_n 0, 1) := by decide +kernel
theorem dL_law_730 : decode cL_law 730 = .ok (.iload_n 3, 1) := by decide +kernel
theorem dL_law_731 : decode cL_law 731 = .ok (.iconst 2, 1) := by decide +kernel
theorem dL_law_732 : decode cL_law 732 = .ok (.iadd, 1) := by decide +kernel
theorem dL_law_733 : decode cL_law 733 = .ok (.iaload, 1) := by decide +kernel
theorem dL_law_734 : decode cL_law 734 = .ok (.i2l, 1) := by decide +kernel
theorem dL_law_735 : decode cL_law 735 = .ok (.ldc2_w 93, 3) := by decide +kernel
theorem dL_law_738 : decode cL_law 738 = .ok (.land, 1) := by decide +kernel
theorem dL_law_739 : decode cL_law 739 = .ok (.lor, 1) := by decide +kernel
theorem dL_law_740 : decode cL_law 740 = .ok (.invokevirtual 95, 3) := by decide +kernel
theorem dL_law_743 : decode cL_law 743 = .ok (.aload_n 2, 1) := by decide +kernel
theorem dL_law_744 : decode cL_law 744 = .ok (.aload_n 0, 1) := by decide +kernel
theorem dL_law_745 : decode cL_law 745 = .ok (.iload_n 3, 1) := by decide +kernel
theorem dL_law_746 : decode cL_law 746 = .ok (.iconst 1, 1) := by decide +kernel
theorem dL_law_747 : decode cL_law 747 = .ok (.iadd, 1) := by decide +kernel
theorem dL_law_748 : decode cL_law 748 = .ok (.iaload, 1) := by decide +kernel
theorem dL_law_749 : decode cL_law 749 = .ok (.i2l, 1) := by decide +kernel
theorem dL_law_750 : decode cL_law 750 = .ok (.bipush 32, 2) := by decide +kernel
theorem dL_law_752 : decode cL_law 752 = .ok (.lshl, 1) := by decide +kernel
theorem dL_law_753 : decode cL_law 753 = .ok (.aload_n 0, 1) := by decide +kernel
theorem dL_law_754 : decode cL_law 754 = .ok (.iload_n 3, 1) := by decide +kernel
theorem dL_law_755 : decode cL_law 755 = .ok (.iconst 2, 1) := by decide +kernel
theorem dL_law_756 : decode cL_law 756 = .ok (.iadd, 1) := by decide +kernel
theorem dL_law_757 : decode cL_law 757 = .ok (.iaload, 1) := by decide +kernel
theorem dL_law_758 : decode cL_law 758 = .ok (.i2l, 1) := by decide +kernel
theorem dL_law_759 : decode cL_law 759 = .ok (.ldc2_w 93, 3) := by decide +kernel
theorem dL_law_762 : decode cL_law 762 = .ok (.land, 1) := by decide +kernel
theorem dL_law_763 : decode cL_law 763 = .ok (.lor, 1) := by decide +kernel
theorem dL_law_764 : decode cL_law 764 = .ok (.invokevirtual 99, 3) := by decide +kernel
theorem dL_law_767 : decode cL_law 767 = .ok (.if_icmp .eq 103, 3) := by decide +kernel
theorem dL_law_770 : decode cL_law 770 = .ok (.iconst 0, 1) := by decide +kernel
theorem dL_law_771 : decode cL_law 771 = .ok (.ireturn, 1) := by decide +kernel
theorem dL_law_772 : decode cL_law 772 = .ok (.aload_n 1, 1) := by decide +kernel
theorem dL_law_773 : decode cL_law 773 = .ok (.invokevirtual 100, 3) := by decide +kernel
theorem dL_law_776 : decode cL_law 776 = .ok (.aload_n 2, 1) := by decide +kernel
theorem dL_law_777 : decode cL_law 777 = .ok (.invokevirtual 103, 3) := by decide +kernel
theorem dL_law_780 : decode cL_law 780 = .ok (.if_icmp .eq 90, 3) := by decide +kernel
theorem dL_law_783 : decode cL_law 783 = .ok (.iconst 0, 1) := by decide +kernel
theorem dL_law_784 : decode cL_law 784 = .ok (.ireturn, 1) := by decide +kernel
theorem dL_law_785 : decode cL_law 785 = .ok (.aload_n 1, 1) := by decide +kernel
theorem dL_law_786 : decode cL_law 786 = .ok (.invokevirtual 104, 3) := by decide +kernel
theorem dL_law_789 : decode cL_law 789 = .ok (.aload_n 2, 1) := by decide +kernel
theorem dL_law_790 : decode cL_law 790 = .ok (.invokevirtual 107, 3) := by decide +kernel
theorem dL_law_793 : decode cL_law 793 = .ok (.if_icmp .eq 77, 3) := by decide +kernel
theorem dL_law_796 : decode cL_law 796 = .ok (.iconst 0, 1) := by decide +kernel
theorem dL_law_797 : decode cL_law 797 = .ok (.ireturn, 1) := by decide +kernel
theorem dL_law_798 : decode cL_law 798 = .ok (.aload_n 1, 1) := by decide +kernel
theorem dL_law_799 : decode cL_law 799 = .ok (.invokevirtual 108, 3) := by decide +kernel
theorem dL_law_802 : decode cL_law 802 = .ok (.aload_n 2, 1) := by decide +kernel
theorem dL_law_803 : decode cL_law 803 = .ok (.invokevirtual 111, 3) := by decide +kernel
theorem dL_law_806 : decode cL_law 806 = .ok (.if_icmp .eq 64, 3) := by decide +kernel
theorem dL_law_809 : decode cL_law 809 = .ok (.iconst 0, 1) := by decide +kernel
theorem dL_law_810 : decode cL_law 810 = .ok (.ireturn, 1) := by decide +kernel
theorem dL_law_811 : decode cL_law 811 = .ok (.aload_n 1, 1) := by decide +kernel
theorem dL_law_812 : decode cL_law 812 = .ok (.invokevirtual 112, 3) := by decide +kernel
theorem dL_law_815 : decode cL_law 815 = .ok (.aload_n 2, 1) := by decide +kernel
theorem dL_law_816 : decode cL_law 816 = .ok (.invokevirtual 115, 3) := by decide +kernel
theorem dL_law_819 : decode cL_law 819 = .ok (.if_icmp .eq 51, 3) := by decide +kernel
theorem dL_law_822 : decode cL_law 822 = .ok (.iconst 0, 1) := by decide +kernel
theorem dL_law_823 : decode cL_law 823 = .ok (.ireturn, 1) := by decide +kernel
theorem dL_law_824 : decode cL_law 824 = .ok (.aload_n 1, 1) := by decide +kernel
theorem dL_law_825 : decode cL_law 825 = .ok (.aload_n 0, 1) := by decide +kernel
theorem dL_law_826 : decode cL_law 826 = .ok (.iload_n 3, 1) := by decide +kernel
theorem dL_law_827 : decode cL_law 827 = .ok (.iconst 1, 1) := by decide +kernel
theorem dL_law_828 : decode cL_law 828 = .ok (.iadd, 1) := by decide +kernel
theorem dL_law_829 : decode cL_law 829 = .ok (.iaload, 1) := by decide +kernel
theorem dL_law_830 : decode cL_law 830 = .ok (.invokevirtual 116, 3) := by decide +kernel
theorem dL_law_833 : decode cL_law 833 = .ok (.aload_n 2, 1) := by decide +kernel
theorem dL_law_834 : decode cL_law 834 = .ok (.aload_n 0, 1) := by decide +kernel
theorem dL_law_835 : decode cL_law 835 = .ok (.iload_n 3, 1) := by decide +kernel
theorem dL_law_836 : decode cL_law 836 = .ok (.iconst 1, 1) := by decide +kernel
theorem dL_law_837 : decode cL_law 837 = .ok (.iadd, 1) := by decide +kernel
theorem dL_law_838 : decode cL_law 838 = .ok (.iaload, 1) := by decide +kernel
theorem dL_law_839 : decode cL_law 839 = .ok (.invokevirtual 119, 3) := by decide +kernel
theorem dL_law_842 : decode cL_law 842 = .ok (.if_icmp .eq 28, 3) := by decide +kernel
theorem dL_law_845 : decode cL_law 845 = .ok (.iconst 0, 1) := by decide +kernel
theorem dL_law_846 : decode cL_law 846 = .ok (.ireturn, 1) := by decide +kernel
theorem dL_law_847 : decode cL_law 847 = .ok (.aload_n 1, 1) := by decide +kernel
theorem dL_law_848 : decode cL_law 848 = .ok (.aload_n 0, 1) := by decide +kernel
theorem dL_law_849 : decode cL_law 849 = .ok (.iload_n 3, 1) := by decide +kernel
theorem dL_law_850 : decode cL_law 850 = .ok (.iconst 1, 1) := by decide +kernel
theorem dL_law_851 : decode cL_law 851 = .ok (.iadd, 1) := by decide +kernel
theorem dL_law_852 : decode cL_law 852 = .ok (.iaload, 1) := by decide +kernel
theorem dL_law_853 : decode cL_law 853 = .ok (.invokevirtual 120, 3) := by decide +kernel
theorem dL_law_856 : decode cL_law 856 = .ok (.aload_n 2, 1) := by decide +kernel
theorem dL_law_857 : decode cL_law 857 = .ok (.aload_n 0, 1) := by decide +kernel
theorem dL_law_858 : decode cL_law 858 = .ok (.iload_n 3, 1) := by decide +kernel
theorem dL_law_859 : decode cL_law 859 = .ok (.iconst 1, 1) := by decide +kernel
theorem dL_law_860 : decode cL_law 860 = .ok (.iadd, 1) := by decide +kernel
theorem dL_law_861 : decode cL_law 861 = .ok (.iaload, 1) := by decide +kernel
theorem dL_law_862 : decode cL_law 862 = .ok (.invokevirtual 123, 3) := by decide +kernel
theorem dL_law_865 : decode cL_law 865 = .ok (.if_icmp .eq 5, 3) := by decide +kernel
theorem dL_law_868 : decode cL_law 868 = .ok (.iconst 0, 1) := by decide +kernel
theorem dL_law_869 : decode cL_law 869 = .ok (.ireturn, 1) := by decide +kernel
theorem dL_law_870 : decode cL_law 870 = .ok (.iinc 3 4, 3) := by decide +kernel
theorem dL_law_873 : decode cL_law 873 = .ok (.goto (-855), 3) := by decide +kernel
theorem dL_law_876 : decode cL_law 876 = .ok (.iconst 1, 1) := by decide +kernel
theorem dL_law_877 : decode cL_law 877 = .ok (.ireturn, 1) := by decide +kernel
end
section

theorem ks_gs {h h' : ks_H} {a : Nat} {X e0 : va_E} (e : h' = h.set a X) (h0 : h[a]? = some e0) : h'[a]? = some X := by
  subst e
  exact List.getElem?_set_self (List.getElem?_eq_some_iff.mp h0).1
theorem ks_gn {h h' : ks_H} {a b : Nat} {X : va_E} {v : Option va_E} (e : h' = h.set a X) (hne : a ≠ b) (h0 : h[b]? = v) : h'[b]? = v := by
  subst e
  rw [List.getElem?_set_ne hne]; exact h0
theorem ks_ga {h h' : ks_H} {X : va_E} {b : Nat} (e : h' = h ++ [X]) (hb : h.length = b) : h'[b]? = some X := by
  subst e; subst hb; simp
theorem ks_gb {h h' : ks_H} {X e0 : va_E} {b : Nat} (e : h' = h ++ [X]) (h0 : h[b]? = some e0) : h'[b]? = some e0 := by
  subst e
  rw [List.getElem?_append_left (List.getElem?_eq_some_iff.mp h0).1]; exact h0
theorem ks_gl {h h' : ks_H} {X : va_E} {b : Nat} (e : h' = h ++ [X]) (hb : h.length = b) : h'.length = b + 1 := by
  subst e; subst hb; simp
theorem ks_gz {h h' : ks_H} {X : va_E} {a b : Nat} (e : h' = h.set a X) (hb : h.length = b) : h'.length = b := by
  subst e; subst hb; simp
/-- nothing has changed outside the cells lo, .., hi - 1 -/
def ks_Fr (h h' : ks_H) (lo hi : Nat) : Prop := h'.length = h.length ∧ ∀ i : Nat, (i < lo ∨ hi ≤ i) → h'[i]? = h[i]?
theorem ks_Fr.rf {h : ks_H} {lo hi : Nat} : ks_Fr h h lo hi := ⟨rfl, fun _ _ => rfl⟩
theorem ks_Fr.tr {h h1 h2 : ks_H} {lo hi : Nat} (a : ks_Fr h h1 lo hi) (b : ks_Fr h1 h2 lo hi) : ks_Fr h h2 lo hi := ⟨b.1.trans a.1, fun i q => (b.2 i q).trans (a.2 i q)⟩
theorem ks_Fr.wd {h h1 : ks_H} {lo hi lo' hi' : Nat} (a : ks_Fr h h1 lo hi) (q1 : lo' ≤ lo) (q2 : hi ≤ hi') : ks_Fr h h1 lo' hi' := ⟨a.1, fun i q => a.2 i (by omega)⟩
theorem ks_Fr.st {h h1 h2 : ks_H} {lo hi i : Nat} {X : va_E} (a : ks_Fr h h1 lo hi) (e : h2 = h1.set i X) (q1 : lo ≤ i) (q2 : i < hi) : ks_Fr h h2 lo hi := by
  subst e
  exact ⟨by rw [List.length_set]; exact a.1, fun j q => by rw [List.getElem?_set_ne (by omega)]; exact a.2 j q⟩
theorem ks_Fr.at {h h1 : ks_H} {lo hi i : Nat} {v : Option va_E} (a : ks_Fr h h1 lo hi) (h0 : h[i]? = v) (q : i < lo ∨ hi ≤ i) : h1[i]? = v := (a.2 i q).trans h0
/-- nothing below lo has changed -/
def ks_Ex (h h' : ks_H) (lo : Nat) : Prop := ∀ i : Nat, i < lo → h'[i]? = h[i]?
theorem ks_Ex.rf {h : ks_H} {lo : Nat} : ks_Ex h h lo := fun _ _ => rfl
theorem ks_Ex.tr {h h1 h2 : ks_H} {lo : Nat} (a : ks_Ex h h1 lo) (b : ks_Ex h1 h2 lo) : ks_Ex h h2 lo := fun i q => (b i q).trans (a i q)
theorem ks_Ex.wd {h h1 : ks_H} {lo lo' : Nat} (a : ks_Ex h h1 lo) (q : lo' ≤ lo) : ks_Ex h h1 lo' := fun i z => a i (by omega)
theorem ks_Ex.st {h h1 h2 : ks_H} {lo i : Nat} {X : va_E} (a : ks_Ex h h1 lo) (e : h2 = h1.set i X) (q : lo ≤ i) : ks_Ex h h2 lo := by
  subst e
  exact fun j z => by rw [List.getElem?_set_ne (by omega)]; exact a j z
theorem ks_Ex.ps {h h1 h2 : ks_H} {lo : Nat} {X : va_E} (a : ks_Ex h h1 lo) (e : h2 = h1 ++ [X]) (q : lo ≤ h1.length) : ks_Ex h h2 lo := by
  subst e
  exact fun j z => by rw [List.getElem?_append_left (by omega)]; exact a j z
theorem ks_Fr.ex {h h1 : ks_H} {lo hi : Nat} (a : ks_Fr h h1 lo hi) : ks_Ex h h1 lo := fun i z => a.2 i (Or.inl z)
theorem ks_inc1 (a : Nat) : nI a + Int32.ofInt 1 = nI (a + 1) := nI_1 a
theorem ks_dec1 {a : Nat} (h : 0 < a) : nI a + Int32.ofInt (-1) = nI (a - 1) := by
  obtain ⟨b, rfl⟩ : ∃ b, a = b + 1 := ⟨a - 1, by omega⟩
  exact pk_m1 b
theorem ks_eq0 {a : Nat} (h : a < 2 ^ 31) : nI a = 0 ↔ a = 0 := nI_eq h (by decide)
theorem ks_lt0 {a : Nat} (h : a < 2 ^ 31) : ¬ nI a < 0 := nI_pos h
theorem ks_ge0 {a : Nat} (h : a < 2 ^ 31) : 0 ≤ nI a := nI_pos' h
theorem ks_gt0 {a : Nat} (h : a < 2 ^ 31) : 0 < nI a ↔ 0 < a := nI_ltI (a := 0) (by decide) h
theorem ks_le0 {a : Nat} (h : a < 2 ^ 31) : nI a ≤ 0 ↔ a = 0 := (nI_leI (b := 0) h (by decide)).trans (by omega)
/-- ends of a method: an int and the same heap; an int and a new heap; nothing and a new heap -/
def ks_Pi (r : Int32) (h : ks_H) : Option Value → ks_H → Prop := fun v h' => v = some (.int r) ∧ h' = h
def ks_Ph (P : Int32 → ks_H → Prop) : Option Value → ks_H → Prop := fun v h' => ∃ r : Int32, v = some (.int r) ∧ P r h'
def ks_Pv (P : ks_H → Prop) : Option Value → ks_H → Prop := fun v h' => v = none ∧ P h'
theorem ks_Met.weak {g : ks_G} {M : ks_M} {d mc ms : Nat} {av : List Value} {h : ks_H} {P P' : Option Value → ks_H → Prop} (x : ks_Met g M d mc ms av h P) (hw : ∀ v h', P v h' → P' v h') : ks_Met g M d mc ms av h P' := by
  intro l p e h1 h2 h3 s m args below h4 h5 h6 h7
  obtain ⟨k, o, q1, q2, q3, ⟨⟨v, h', w1, w2, w3⟩, w4⟩, w5⟩ := x l p e h1 h2 h3 s m args below h4 h5 h6 h7
  exact ⟨k, o, q1, q2, q3, ⟨⟨v, h', w1, hw v h' w2, w3⟩, w4⟩, w5⟩
section KSM
variable {κ : ks_C} {g : ks_G} {own nm : String} {cc : ByteArray} {nL d mc ms k n : Nat} {h : ks_H} {ls : List (Nat × Value)} {st : List Value}
theorem ks_gen {pc : Nat} (kk : ∀ h1 : ks_H, h1 = h → ks_K κ g nL h1 k n pc ls st) : ks_K κ g nL h k n pc ls st := kk h rfl
theorem ks_iaddN (hκ : ks_Ok κ g own nm cc nL d mc ms) (pc : Nat) {x y : Nat} (hd : decode cc pc = .ok (.iadd, 1)) (kk : ks_K κ g nL h k n (pc + 1) ls (.int (nI (x + y)) :: st)) : ks_K κ g nL h k n pc ls (.int (nI y) :: .int (nI x) :: st) := ks_iadd hκ pc hd (by rw [nI_add]; exact kk)
theorem ks_imulN (hκ : ks_Ok κ g own nm cc nL d mc ms) (pc : Nat) {x y : Nat} (hd : decode cc pc = .ok (.imul, 1)) (kk : ks_K κ g nL h k n (pc + 1) ls (.int (nI (x * y)) :: st)) : ks_K κ g nL h k n pc ls (.int (nI y) :: .int (nI x) :: st) := ks_imul hκ pc hd (by rw [pk_mul]; exact kk)
theorem ks_isubN (hκ : ks_Ok κ g own nm cc nL d mc ms) (pc : Nat) {x y : Nat} (hd : decode cc pc = .ok (.isub, 1)) (hxy : y ≤ x) (kk : ks_K κ g nL h k n (pc + 1) ls (.int (nI (x - y)) :: st)) : ks_K κ g nL h k n pc ls (.int (nI y) :: .int (nI x) :: st) := ks_isub hκ pc hd (by rw [pk_sub hxy]; exact kk)
theorem ks_putS (hκ : ks_Ok κ g own nm cc nL d mc ms) (pc : Nat) {ix ci i j : Nat} {ty : FieldType} {fs : List Value} {v : Value} (fs' : List Value) (hd : decode cc pc = .ok (.putfield ix, 3)) (hf : ks_Fld own ix ci j ty 1) (hc : h[i]? = some (ks_O ci fs)) (hn : narrow ty v = v) (hfit : fits ty v = true) (hlen : j < fs.length) (hfs : fs.set j v = fs') (kk : ks_K κ g nL (h.set i (ks_O ci fs')) k n (pc + 3) ls st) : ks_K κ g nL h k n pc ls (v :: ks_ref g i :: st) := ks_put hκ pc hd hf hc hn hfit hlen (by rw [hfs]; exact kk)
theorem ks_putT (hκ : ks_Ok κ g own nm cc nL d mc ms) (pc : Nat) {ix ci i j : Nat} {ty : FieldType} {fs : List Value} {v : Value} (fs' : List Value) (hd : decode cc pc = .ok (.putfield ix, 3)) (hi9 : nm = "<init>") (hf : ks_Fld own ix ci j ty 2) (hc : h[i]? = some (ks_O ci fs)) (hn : narrow ty v = v) (hfit : fits ty v = true) (hlen : j < fs.length) (hfs : fs.set j v = fs') (kk : ks_K κ g nL (h.set i (ks_O ci fs')) k n (pc + 3) ls st) : ks_K κ g nL h k n pc ls (v :: ks_ref g i :: st) := ks_putF hκ pc hd hi9 hf hc hn hfit hlen (by rw [hfs]; exact kk)
theorem ks_newB (hκ : ks_Ok κ g own nm cc nL d mc ms) (pc : Nat) {ix ci N b : Nat} {fs : List Value} (hb : h.length = b) (hd : decode cc pc = .ok (.new ix, 3)) (hf : ks_New own ix ci fs) (hN : fs.length = N) (hk : k + 1 ≤ mc) (hn : n + N ≤ ms) (kk : ∀ h1, h1 = h ++ [ks_O ci fs] → ks_K κ g nL h1 (k + 1) (n + N) (pc + 3) ls (ks_ref g b :: st)) : ks_K κ g nL h k n pc ls st := ks_new hκ pc hd hf hN hk hn (by rw [hb]; exact kk _ rfl)
theorem ks_newiB (hκ : ks_Ok κ g own nm cc nL d mc ms) (pc : Nat) {N b : Nat} (hb : h.length = b) (hd : decode cc pc = .ok (.newarray .int, 2)) (hN : N < 2 ^ 20) (hk : k + 1 ≤ mc) (hn : n + N ≤ ms) (kk : ∀ h1, h1 = h ++ [ks_I g N (fun _ => 0)] → ks_K κ g nL h1 (k + 1) (n + N) (pc + 2) ls (ks_ref g b :: st)) : ks_K κ g nL h k n pc ls (.int (nI N) :: st) := ks_newi hκ pc hd ku_ai rfl hN hk hn (by rw [hb]; exact kk _ rfl)
theorem ks_newzB (hκ : ks_Ok κ g own nm cc nL d mc ms) (pc : Nat) {N b : Nat} (hb : h.length = b) (hd : decode cc pc = .ok (.newarray .boolean, 2)) (hN : N < 2 ^ 20) (hk : k + 1 ≤ mc) (hn : n + N ≤ ms) (kk : ∀ h1, h1 = h ++ [ks_Z g N (fun _ => 0)] → ks_K κ g nL h1 (k + 1) (n + N) (pc + 2) ls (ks_ref g b :: st)) : ks_K κ g nL h k n pc ls (.int (nI N) :: st) := ks_newz hκ pc hd ku_az rfl hN hk hn (by rw [hb]; exact kk _ rfl)
theorem ks_newqB (hκ : ks_Ok κ g own nm cc nL d mc ms) (pc : Nat) {ix N b : Nat} (hb : h.length = b) (hd : decode cc pc = .ok (.anewarray ix, 3)) (hw : Cond.classLink own ix RX4 ∈ lw_g) (hN : N < 2 ^ 20) (hk : k + 1 ≤ mc) (hn : n + N ≤ ms) (kk : ∀ h1, h1 = h ++ [ks_S g N (fun _ => none)] → ks_K κ g nL h1 (k + 1) (n + N) (pc + 3) ls (ks_ref g b :: st)) : ks_K κ g nL h k n pc ls (.int (nI N) :: st) := ks_newq hκ pc hd hw rfl hN hk hn (by rw [hb]; exact kk _ rfl)
theorem ks_pureV0 (hκ : ks_Ok κ g own nm cc nL d mc ms) (pc : Nat) {ix i ci dc nL' : Nat} {cc' : ByteArray} {y : MethodName} {ret : Option FieldType} {fs : List Value} {r : Int32} (hd : decode cc pc = .ok (.invokevirtual ix, 3)) (hw : ks_CV own ix y cc' nL' ret 0) (hM : ks_Met g (y, cc', nL', ret) dc 0 0 [ks_ref g i] h (ks_Pi r h)) (hc : h[i]? = some (ks_O ci fs)) (hcl : (vwCl[ci]?).map (fun q => q.1) = some y.cls) (hdc : dc < d) (hst : (st.map fun v => v.category).sum ≤ 8) (hk : k ≤ mc) (hn : n ≤ ms) (kk : ks_K κ g nL h k n (pc + 3) ls (.int r :: st)) : ks_K κ g nL h k n pc ls (ks_ref g i :: st) := ks_callV0 hκ pc hd hw hM hc hcl hdc hk hn hst (fun v h' hp => by obtain ⟨rfl, rfl⟩ := hp; exact kk)
theorem ks_intcV0 (hκ : ks_Ok κ g own nm cc nL d mc ms) (pc : Nat) {ix i ci dc nL' : Nat} {cc' : ByteArray} {y : MethodName} {ret : Option FieldType} {fs : List Value} {mc' ms' : Nat} {P : Int32 → ks_H → Prop} (hd : decode cc pc = .ok (.invokevirtual ix, 3)) (hw : ks_CV own ix y cc' nL' ret 0) (hM : ks_Met g (y, cc', nL', ret) dc mc' ms' [ks_ref g i] h (ks_Ph P)) (hc : h[i]? = some (ks_O ci fs)) (hcl : (vwCl[ci]?).map (fun q => q.1) = some y.cls) (hdc : dc < d) (hst : (st.map fun v => v.category).sum ≤ 8) (hk : k + mc' ≤ mc) (hn : n + ms' ≤ ms) (kk : ∀ (r : Int32) (h1 : ks_H), P r h1 → ks_K κ g nL h1 (k + mc') (n + ms') (pc + 3) ls (.int r :: st)) : ks_K κ g nL h k n pc ls (ks_ref g i :: st) := ks_callV0 hκ pc hd hw hM hc hcl hdc hk hn hst (fun v h' hp => by obtain ⟨r, rfl, hp⟩ := hp; exact kk r h' hp)
theorem ks_voidV0 (hκ : ks_Ok κ g own nm cc nL d mc ms) (pc : Nat) {ix i ci dc nL' : Nat} {cc' : ByteArray} {y : MethodName} {ret : Option FieldType} {fs : List Value} {mc' ms' : Nat} {P : ks_H → Prop} (hd : decode cc pc = .ok (.invokevirtual ix, 3)) (hw : ks_CV own ix y cc' nL' ret 0) (hM : ks_Met g (y, cc', nL', ret) dc mc' ms' [ks_ref g i] h (ks_Pv P)) (hc : h[i]? = some (ks_O ci fs)) (hcl : (vwCl[ci]?).map (fun q => q.1) = some y.cls) (hdc : dc < d) (hst : (st.map fun v => v.category).sum ≤ 8) (hk : k + mc' ≤ mc) (hn : n + ms' ≤ ms) (kk : ∀ (h1 : ks_H), P h1 → ks_K κ g nL h1 (k + mc') (n + ms') (pc + 3) ls st) : ks_K κ g nL h k n pc ls (ks_ref g i :: st) := ks_callV0 hκ pc hd hw hM hc hcl hdc hk hn hst (fun v h' hp => by obtain ⟨rfl, hp⟩ := hp; exact kk h' hp)
theorem ks_pureS0 (hκ : ks_Ok κ g own nm cc nL d mc ms) (pc : Nat) {ix dc nL' : Nat} {cc' : ByteArray} {y : MethodName} {ret : Option FieldType} {r : Int32} (hd : decode cc pc = .ok (.invokestatic ix, 3)) (hw : ks_CS own ix y cc' nL' ret 0) (hM : ks_Met g (y, cc', nL', ret) dc 0 0 [] h (ks_Pi r h))  (hdc : dc < d) (hst : (st.map fun v => v.category).sum ≤ 8) (hk : k ≤ mc) (hn : n ≤ ms) (kk : ks_K κ g nL h k n (pc + 3) ls (.int r :: st)) : ks_K κ g nL h k n pc ls (st) := ks_callS0 hκ pc hd hw hM  hdc hk hn hst (fun v h' hp => by obtain ⟨rfl, rfl⟩ := hp; exact kk)
theorem ks_intcS0 (hκ : ks_Ok κ g own nm cc nL d mc ms) (pc : Nat) {ix dc nL' : Nat} {cc' : ByteArray} {y : MethodName} {ret : Option FieldType} {mc' ms' : Nat} {P : Int32 → ks_H → Prop} (hd : decode cc pc = .ok (.invokestatic ix, 3)) (hw : ks_CS own ix y cc' nL' ret 0) (hM : ks_Met g (y, cc', nL', ret) dc mc' ms' [] h (ks_Ph P))  (hdc : dc < d) (hst : (st.map fun v => v.category).sum ≤ 8) (hk : k + mc' ≤ mc) (hn : n + ms' ≤ ms) (kk : ∀ (r : Int32) (h1 : ks_H), P r h1 → ks_K κ g nL h1 (k + mc') (n + ms') (pc + 3) ls (.int r :: st)) : ks_K κ g nL h k n pc ls (st) := ks_callS0 hκ pc hd hw hM  hdc hk hn hst (fun v h' hp => by obtain ⟨r, rfl, hp⟩ := hp; exact kk r h' hp)
theorem ks_voidS0 (hκ : ks_Ok κ g own nm cc nL d mc ms) (pc : Nat) {ix dc nL' : Nat} {cc' : ByteArray} {y : MethodName} {ret : Option FieldType} {mc' ms' : Nat} {P : ks_H → Prop} (hd : decode cc pc = .ok (.invokestatic ix, 3)) (hw : ks_CS own ix y cc' nL' ret 0) (hM : ks_Met g (y, cc', nL', ret) dc mc' ms' [] h (ks_Pv P))  (hdc : dc < d) (hst : (st.map fun v => v.category).sum ≤ 8) (hk : k + mc' ≤ mc) (hn : n + ms' ≤ ms) (kk : ∀ (h1 : ks_H), P h1 → ks_K κ g nL h1 (k + mc') (n + ms') (pc + 3) ls st) : ks_K κ g nL h k n pc ls (st) := ks_callS0 hκ pc hd hw hM  hdc hk hn hst (fun v h' hp => by obtain ⟨rfl, hp⟩ := hp; exact kk h' hp)
theorem ks_pureV1 (hκ : ks_Ok κ g own nm cc nL d mc ms) (pc : Nat) {ix i ci dc nL' : Nat} {cc' : ByteArray} {y : MethodName} {ret : Option FieldType} {fs : List Value} {a1 : Value} {r : Int32} (hd : decode cc pc = .ok (.invokevirtual ix, 3)) (hw : ks_CV own ix y cc' nL' ret 1) (hM : ks_Met g (y, cc', nL', ret) dc 0 0 [ks_ref g i, a1] h (ks_Pi r h)) (hc : h[i]? = some (ks_O ci fs)) (hcl : (vwCl[ci]?).map (fun q => q.1) = some y.cls) (hdc : dc < d) (hst : (st.map fun v => v.category).sum ≤ 8) (hk : k ≤ mc) (hn : n ≤ ms) (kk : ks_K κ g nL h k n (pc + 3) ls (.int r :: st)) : ks_K κ g nL h k n pc ls (a1 :: ks_ref g i :: st) := ks_callV1 hκ pc hd hw hM hc hcl hdc hk hn hst (fun v h' hp => by obtain ⟨rfl, rfl⟩ := hp; exact kk)
theorem ks_intcV1 (hκ : ks_Ok κ g own nm cc nL d mc ms) (pc : Nat) {ix i ci dc nL' : Nat} {cc' : ByteArray} {y : MethodName} {ret : Option FieldType} {fs : List Value} {a1 : Value} {mc' ms' : Nat} {P : Int32 → ks_H → Prop} (hd : decode cc pc = .ok (.invokevirtual ix, 3)) (hw : ks_CV own ix y cc' nL' ret 1) (hM : ks_Met g (y, cc', nL', ret) dc mc' ms' [ks_ref g i, a1] h (ks_Ph P)) (hc : h[i]? = some (ks_O ci fs)) (hcl : (vwCl[ci]?).map (fun q => q.1) = some y.cls) (hdc : dc < d) (hst : (st.map fun v => v.category).sum ≤ 8) (hk : k + mc' ≤ mc) (hn : n + ms' ≤ ms) (kk : ∀ (r : Int32) (h1 : ks_H), P r h1 → ks_K κ g nL h1 (k + mc') (n + ms') (pc + 3) ls (.int r :: st)) : ks_K κ g nL h k n pc ls (a1 :: ks_ref g i :: st) := ks_callV1 hκ pc hd hw hM hc hcl hdc hk hn hst (fun v h' hp => by obtain ⟨r, rfl, hp⟩ := hp; exact kk r h' hp)
theorem ks_voidV1 (hκ : ks_Ok κ g own nm cc nL d mc ms) (pc : Nat) {ix i ci dc nL' : Nat} {cc' : ByteArray} {y : MethodName} {ret : Option FieldType} {fs : List Value} {a1 : Value} {mc' ms' : Nat} {P : ks_H → Prop} (hd : decode cc pc = .ok (.invokevirtual ix, 3)) (hw : ks_CV own ix y cc' nL' ret 1) (hM : ks_Met g (y, cc', nL', ret) dc mc' ms' [ks_ref g i, a1] h (ks_Pv P)) (hc : h[i]? = some (ks_O ci fs)) (hcl : (vwCl[ci]?).map (fun q => q.1) = some y.cls) (hdc : dc < d) (hst : (st.map fun v => v.category).sum ≤ 8) (hk : k + mc' ≤ mc) (hn : n + ms' ≤ ms) (kk : ∀ (h1 : ks_H), P h1 → ks_K κ g nL h1 (k + mc') (n + ms') (pc + 3) ls st) : ks_K κ g nL h k n pc ls (a1 :: ks_ref g i :: st) := ks_callV1 hκ pc hd hw hM hc hcl hdc hk hn hst (fun v h' hp => by obtain ⟨rfl, hp⟩ := hp; exact kk h' hp)
theorem ks_pureS1 (hκ : ks_Ok κ g own nm cc nL d mc ms) (pc : Nat) {ix dc nL' : Nat} {cc' : ByteArray} {y : MethodName} {ret : Option FieldType} {a1 : Value} {r : Int32} (hd : decode cc pc = .ok (.invokestatic ix, 3)) (hw : ks_CS own ix y cc' nL' ret 1) (hM : ks_Met g (y, cc', nL', ret) dc 0 0 [a1] h (ks_Pi r h))  (hdc : dc < d) (hst : (st.map fun v => v.category).sum ≤ 8) (hk : k ≤ mc) (hn : n ≤ ms) (kk : ks_K κ g nL h k n (pc + 3) ls (.int r :: st)) : ks_K κ g nL h k n pc ls (a1 :: st) := ks_callS1 hκ pc hd hw hM  hdc hk hn hst (fun v h' hp => by obtain ⟨rfl, rfl⟩ := hp; exact kk)
theorem ks_intcS1 (hκ : ks_Ok κ g own nm cc nL d mc ms) (pc : Nat) {ix dc nL' : Nat} {cc' : ByteArray} {y : MethodName} {ret : Option FieldType} {a1 : Value} {mc' ms' : Nat} {P : Int32 → ks_H → Prop} (hd : decode cc pc = .ok (.invokestatic ix, 3)) (hw : ks_CS own ix y cc' nL' ret 1) (hM : ks_Met g (y, cc', nL', ret) dc mc' ms' [a1] h (ks_Ph P))  (hdc : dc < d) (hst : (st.map fun v => v.category).sum ≤ 8) (hk : k + mc' ≤ mc) (hn : n + ms' ≤ ms) (kk : ∀ (r : Int32) (h1 : ks_H), P r h1 → ks_K κ g nL h1 (k + mc') (n + ms') (pc + 3) ls (.int r :: st)) : ks_K κ g nL h k n pc ls (a1 :: st) := ks_callS1 hκ pc hd hw hM  hdc hk hn hst (fun v h' hp => by obtain ⟨r, rfl, hp⟩ := hp; exact kk r h' hp)
theorem ks_voidS1 (hκ : ks_Ok κ g own nm cc nL d mc ms) (pc : Nat) {ix dc nL' : Nat} {cc' : ByteArray} {y : MethodName} {ret : Option FieldType} {a1 : Value} {mc' ms' : Nat} {P : ks_H → Prop} (hd : decode cc pc = .ok (.invokestatic ix, 3)) (hw : ks_CS own ix y cc' nL' ret 1) (hM : ks_Met g (y, cc', nL', ret) dc mc' ms' [a1] h (ks_Pv P))  (hdc : dc < d) (hst : (st.map fun v => v.category).sum ≤ 8) (hk : k + mc' ≤ mc) (hn : n + ms' ≤ ms) (kk : ∀ (h1 : ks_H), P h1 → ks_K κ g nL h1 (k + mc') (n + ms') (pc + 3) ls st) : ks_K κ g nL h k n pc ls (a1 :: st) := ks_callS1 hκ pc hd hw hM  hdc hk hn hst (fun v h' hp => by obtain ⟨rfl, hp⟩ := hp; exact kk h' hp)
theorem ks_pureV2 (hκ : ks_Ok κ g own nm cc nL d mc ms) (pc : Nat) {ix i ci dc nL' : Nat} {cc' : ByteArray} {y : MethodName} {ret : Option FieldType} {fs : List Value} {a1 a2 : Value} {r : Int32} (hd : decode cc pc = .ok (.invokevirtual ix, 3)) (hw : ks_CV own ix y cc' nL' ret 2) (hM : ks_Met g (y, cc', nL', ret) dc 0 0 [ks_ref g i, a1, a2] h (ks_Pi r h)) (hc : h[i]? = some (ks_O ci fs)) (hcl : (vwCl[ci]?).map (fun q => q.1) = some y.cls) (hdc : dc < d) (hst : (st.map fun v => v.category).sum ≤ 8) (hk : k ≤ mc) (hn : n ≤ ms) (kk : ks_K κ g nL h k n (pc + 3) ls (.int r :: st)) : ks_K κ g nL h k n pc ls (a2 :: a1 :: ks_ref g i :: st) := ks_callV2 hκ pc hd hw hM hc hcl hdc hk hn hst (fun v h' hp => by obtain ⟨rfl, rfl⟩ := hp; exact kk)
theorem ks_intcV2 (hκ : ks_Ok κ g own nm cc nL d mc ms) (pc : Nat) {ix i ci dc nL' : Nat} {cc' : ByteArray} {y : MethodName} {ret : Option FieldType} {fs : List Value} {a1 a2 : Value} {mc' ms' : Nat} {P : Int32 → ks_H → Prop} (hd : decode cc pc = .ok (.invokevirtual ix, 3)) (hw : ks_CV own ix y cc' nL' ret 2) (hM : ks_Met g (y, cc', nL', ret) dc mc' ms' [ks_ref g i, a1, a2] h (ks_Ph P)) (hc : h[i]? = some (ks_O ci fs)) (hcl : (vwCl[ci]?).map (fun q => q.1) = some y.cls) (hdc : dc < d) (hst : (st.map fun v => v.category).sum ≤ 8) (hk : k + mc' ≤ mc) (hn : n + ms' ≤ ms) (kk : ∀ (r : Int32) (h1 : ks_H), P r h1 → ks_K κ g nL h1 (k + mc') (n + ms') (pc + 3) ls (.int r :: st)) : ks_K κ g nL h k n pc ls (a2 :: a1 :: ks_ref g i :: st) := ks_callV2 hκ pc hd hw hM hc hcl hdc hk hn hst (fun v h' hp => by obtain ⟨r, rfl, hp⟩ := hp; exact kk r h' hp)
theorem ks_voidV2 (hκ : ks_Ok κ g own nm cc nL d mc ms) (pc : Nat) {ix i ci dc nL' : Nat} {cc' : ByteArray} {y : MethodName} {ret : Option FieldType} {fs : List Value} {a1 a2 : Value} {mc' ms' : Nat} {P : ks_H → Prop} (hd : decode cc pc = .ok (.invokevirtual ix, 3)) (hw : ks_CV own ix y cc' nL' ret 2) (hM : ks_Met g (y, cc', nL', ret) dc mc' ms' [ks_ref g i, a1, a2] h (ks_Pv P)) (hc : h[i]? = some (ks_O ci fs)) (hcl : (vwCl[ci]?).map (fun q => q.1) = some y.cls) (hdc : dc < d) (hst : (st.map fun v => v.category).sum ≤ 8) (hk : k + mc' ≤ mc) (hn : n + ms' ≤ ms) (kk : ∀ (h1 : ks_H), P h1 → ks_K κ g nL h1 (k + mc') (n + ms') (pc + 3) ls st) : ks_K κ g nL h k n pc ls (a2 :: a1 :: ks_ref g i :: st) := ks_callV2 hκ pc hd hw hM hc hcl hdc hk hn hst (fun v h' hp => by obtain ⟨rfl, hp⟩ := hp; exact kk h' hp)
theorem ks_pureS2 (hκ : ks_Ok κ g own nm cc nL d mc ms) (pc : Nat) {ix dc nL' : Nat} {cc' : ByteArray} {y : MethodName} {ret : Option FieldType} {a1 a2 : Value} {r : Int32} (hd : decode cc pc = .ok (.invokestatic ix, 3)) (hw : ks_CS own ix y cc' nL' ret 2) (hM : ks_Met g (y, cc', nL', ret) dc 0 0 [a1, a2] h (ks_Pi r h))  (hdc : dc < d) (hst : (st.map fun v => v.category).sum ≤ 8) (hk : k ≤ mc) (hn : n ≤ ms) (kk : ks_K κ g nL h k n (pc + 3) ls (.int r :: st)) : ks_K κ g nL h k n pc ls (a2 :: a1 :: st) := ks_callS2 hκ pc hd hw hM  hdc hk hn hst (fun v h' hp => by obtain ⟨rfl, rfl⟩ := hp; exact kk)
theorem ks_intcS2 (hκ : ks_Ok κ g own nm cc nL d mc ms) (pc : Nat) {ix dc nL' : Nat} {cc' : ByteArray} {y : MethodName} {ret : Option FieldType} {a1 a2 : Value} {mc' ms' : Nat} {P : Int32 → ks_H → Prop} (hd : decode cc pc = .ok (.invokestatic ix, 3)) (hw : ks_CS own ix y cc' nL' ret 2) (hM : ks_Met g (y, cc', nL', ret) dc mc' ms' [a1, a2] h (ks_Ph P))  (hdc : dc < d) (hst : (st.map fun v => v.category).sum ≤ 8) (hk : k + mc' ≤ mc) (hn : n + ms' ≤ ms) (kk : ∀ (r : Int32) (h1 : ks_H), P r h1 → ks_K κ g nL h1 (k + mc') (n + ms') (pc + 3) ls (.int r :: st)) : ks_K κ g nL h k n pc ls (a2 :: a1 :: st) := ks_callS2 hκ pc hd hw hM  hdc hk hn hst (fun v h' hp => by obtain ⟨r, rfl, hp⟩ := hp; exact kk r h' hp)
theorem ks_voidS2 (hκ : ks_Ok κ g own nm cc nL d mc ms) (pc : Nat) {ix dc nL' : Nat} {cc' : ByteArray} {y : MethodName} {ret : Option FieldType} {a1 a2 : Value} {mc' ms' : Nat} {P : ks_H → Prop} (hd : decode cc pc = .ok (.invokestatic ix, 3)) (hw : ks_CS own ix y cc' nL' ret 2) (hM : ks_Met g (y, cc', nL', ret) dc mc' ms' [a1, a2] h (ks_Pv P))  (hdc : dc < d) (hst : (st.map fun v => v.category).sum ≤ 8) (hk : k + mc' ≤ mc) (hn : n + ms' ≤ ms) (kk : ∀ (h1 : ks_H), P h1 → ks_K κ g nL h1 (k + mc') (n + ms') (pc + 3) ls st) : ks_K κ g nL h k n pc ls (a2 :: a1 :: st) := ks_callS2 hκ pc hd hw hM  hdc hk hn hst (fun v h' hp => by obtain ⟨rfl, hp⟩ := hp; exact kk h' hp)
theorem ks_pureV3 (hκ : ks_Ok κ g own nm cc nL d mc ms) (pc : Nat) {ix i ci dc nL' : Nat} {cc' : ByteArray} {y : MethodName} {ret : Option FieldType} {fs : List Value} {a1 a2 a3 : Value} {r : Int32} (hd : decode cc pc = .ok (.invokevirtual ix, 3)) (hw : ks_CV own ix y cc' nL' ret 3) (hM : ks_Met g (y, cc', nL', ret) dc 0 0 [ks_ref g i, a1, a2, a3] h (ks_Pi r h)) (hc : h[i]? = some (ks_O ci fs)) (hcl : (vwCl[ci]?).map (fun q => q.1) = some y.cls) (hdc : dc < d) (hst : (st.map fun v => v.category).sum ≤ 8) (hk : k ≤ mc) (hn : n ≤ ms) (kk : ks_K κ g nL h k n (pc + 3) ls (.int r :: st)) : ks_K κ g nL h k n pc ls (a3 :: a2 :: a1 :: ks_ref g i :: st) := ks_callV3 hκ pc hd hw hM hc hcl hdc hk hn hst (fun v h' hp => by obtain ⟨rfl, rfl⟩ := hp; exact kk)
theorem ks_intcV3 (hκ : ks_Ok κ g own nm cc nL d mc ms) (pc : Nat) {ix i ci dc nL' : Nat} {cc' : ByteArray} {y : MethodName} {ret : Option FieldType} {fs : List Value} {a1 a2 a3 : Value} {mc' ms' : Nat} {P : Int32 → ks_H → Prop} (hd : decode cc pc = .ok (.invokevirtual ix, 3)) (hw : ks_CV own ix y cc' nL' ret 3) (hM : ks_Met g (y, cc', nL', ret) dc mc' ms' [ks_ref g i, a1, a2, a3] h (ks_Ph P)) (hc : h[i]? = some (ks_O ci fs)) (hcl : (vwCl[ci]?).map (fun q => q.1) = some y.cls) (hdc : dc < d) (hst : (st.map fun v => v.category).sum ≤ 8) (hk : k + mc' ≤ mc) (hn : n + ms' ≤ ms) (kk : ∀ (r : Int32) (h1 : ks_H), P r h1 → ks_K κ g nL h1 (k + mc') (n + ms') (pc + 3) ls (.int r :: st)) : ks_K κ g nL h k n pc ls (a3 :: a2 :: a1 :: ks_ref g i :: st) := ks_callV3 hκ pc hd hw hM hc hcl hdc hk hn hst (fun v h' hp => by obtain ⟨r, rfl, hp⟩ := hp; exact kk r h' hp)
theorem ks_voidV3 (hκ : ks_Ok κ g own nm cc nL d mc ms) (pc : Nat) {ix i ci dc nL' : Nat} {cc' : ByteArray} {y : MethodName} {ret : Option FieldType} {fs : List Value} {a1 a2 a3 : Value} {mc' ms' : Nat} {P : ks_H → Prop} (hd : decode cc pc = .ok (.invokevirtual ix, 3)) (hw : ks_CV own ix y cc' nL' ret 3) (hM : ks_Met g (y, cc', nL', ret) dc mc' ms' [ks_ref g i, a1, a2, a3] h (ks_Pv P)) (hc : h[i]? = some (ks_O ci fs)) (hcl : (vwCl[ci]?).map (fun q => q.1) = some y.cls) (hdc : dc < d) (hst : (st.map fun v => v.category).sum ≤ 8) (hk : k + mc' ≤ mc) (hn : n + ms' ≤ ms) (kk : ∀ (h1 : ks_H), P h1 → ks_K κ g nL h1 (k + mc') (n + ms') (pc + 3) ls st) : ks_K κ g nL h k n pc ls (a3 :: a2 :: a1 :: ks_ref g i :: st) := ks_callV3 hκ pc hd hw hM hc hcl hdc hk hn hst (fun v h' hp => by obtain ⟨rfl, hp⟩ := hp; exact kk h' hp)
theorem ks_pureS3 (hκ : ks_Ok κ g own nm cc nL d mc ms) (pc : Nat) {ix dc nL' : Nat} {cc' : ByteArray} {y : MethodName} {ret : Option FieldType} {a1 a2 a3 : Value} {r : Int32} (hd : decode cc pc = .ok (.invokestatic ix, 3)) (hw : ks_CS own ix y cc' nL' ret 3) (hM : ks_Met g (y, cc', nL', ret) dc 0 0 [a1, a2, a3] h (ks_Pi r h))  (hdc : dc < d) (hst : (st.map fun v => v.category).sum ≤ 8) (hk : k ≤ mc) (hn : n ≤ ms) (kk : ks_K κ g nL h k n (pc + 3) ls (.int r :: st)) : ks_K κ g nL h k n pc ls (a3 :: a2 :: a1 :: st) := ks_callS3 hκ pc hd hw hM  hdc hk hn hst (fun v h' hp => by obtain ⟨rfl, rfl⟩ := hp; exact kk)
theorem ks_intcS3 (hκ : ks_Ok κ g own nm cc nL d mc ms) (pc : Nat) {ix dc nL' : Nat} {cc' : ByteArray} {y : MethodName} {ret : Option FieldType} {a1 a2 a3 : Value} {mc' ms' : Nat} {P : Int32 → ks_H → Prop} (hd : decode cc pc = .ok (.invokestatic ix, 3)) (hw : ks_CS own ix y cc' nL' ret 3) (hM : ks_Met g (y, cc', nL', ret) dc mc' ms' [a1, a2, a3] h (ks_Ph P))  (hdc : dc < d) (hst : (st.map fun v => v.category).sum ≤ 8) (hk : k + mc' ≤ mc) (hn : n + ms' ≤ ms) (kk : ∀ (r : Int32) (h1 : ks_H), P r h1 → ks_K κ g nL h1 (k + mc') (n + ms') (pc + 3) ls (.int r :: st)) : ks_K κ g nL h k n pc ls (a3 :: a2 :: a1 :: st) := ks_callS3 hκ pc hd hw hM  hdc hk hn hst (fun v h' hp => by obtain ⟨r, rfl, hp⟩ := hp; exact kk r h' hp)
theorem ks_voidS3 (hκ : ks_Ok κ g own nm cc nL d mc ms) (pc : Nat) {ix dc nL' : Nat} {cc' : ByteArray} {y : MethodName} {ret : Option FieldType} {a1 a2 a3 : Value} {mc' ms' : Nat} {P : ks_H → Prop} (hd : decode cc pc = .ok (.invokestatic ix, 3)) (hw : ks_CS own ix y cc' nL' ret 3) (hM : ks_Met g (y, cc', nL', ret) dc mc' ms' [a1, a2, a3] h (ks_Pv P))  (hdc : dc < d) (hst : (st.map fun v => v.category).sum ≤ 8) (hk : k + mc' ≤ mc) (hn : n + ms' ≤ ms) (kk : ∀ (h1 : ks_H), P h1 → ks_K κ g nL h1 (k + mc') (n + ms') (pc + 3) ls st) : ks_K κ g nL h k n pc ls (a3 :: a2 :: a1 :: st) := ks_callS3 hκ pc hd hw hM  hdc hk hn hst (fun v h' hp => by obtain ⟨rfl, hp⟩ := hp; exact kk h' hp)
theorem ks_pureV4 (hκ : ks_Ok κ g own nm cc nL d mc ms) (pc : Nat) {ix i ci dc nL' : Nat} {cc' : ByteArray} {y : MethodName} {ret : Option FieldType} {fs : List Value} {a1 a2 a3 a4 : Value} {r : Int32} (hd : decode cc pc = .ok (.invokevirtual ix, 3)) (hw : ks_CV own ix y cc' nL' ret 4) (hM : ks_Met g (y, cc', nL', ret) dc 0 0 [ks_ref g i, a1, a2, a3, a4] h (ks_Pi r h)) (hc : h[i]? = some (ks_O ci fs)) (hcl : (vwCl[ci]?).map (fun q => q.1) = some y.cls) (hdc : dc < d) (hst : (st.map fun v => v.category).sum ≤ 8) (hk : k ≤ mc) (hn : n ≤ ms) (kk : ks_K κ g nL h k n (pc + 3) ls (.int r :: st)) : ks_K κ g nL h k n pc ls (a4 :: a3 :: a2 :: a1 :: ks_ref g i :: st) := ks_callV4 hκ pc hd hw hM hc hcl hdc hk hn hst (fun v h' hp => by obtain ⟨rfl, rfl⟩ := hp; exact kk)
theorem ks_intcV4 (hκ : ks_Ok κ g own nm cc nL d mc ms) (pc : Nat) {ix i ci dc nL' : Nat} {cc' : ByteArray} {y : MethodName} {ret : Option FieldType} {fs : List Value} {a1 a2 a3 a4 : Value} {mc' ms' : Nat} {P : Int32 → ks_H → Prop} (hd : decode cc pc = .ok (.invokevirtual ix, 3)) (hw : ks_CV own ix y cc' nL' ret 4) (hM : ks_Met g (y, cc', nL', ret) dc mc' ms' [ks_ref g i, a1, a2, a3, a4] h (ks_Ph P)) (hc : h[i]? = some (ks_O ci fs)) (hcl : (vwCl[ci]?).map (fun q => q.1) = some y.cls) (hdc : dc < d) (hst : (st.map fun v => v.category).sum ≤ 8) (hk : k + mc' ≤ mc) (hn : n + ms' ≤ ms) (kk : ∀ (r : Int32) (h1 : ks_H), P r h1 → ks_K κ g nL h1 (k + mc') (n + ms') (pc + 3) ls (.int r :: st)) : ks_K κ g nL h k n pc ls (a4 :: a3 :: a2 :: a1 :: ks_ref g i :: st) := ks_callV4 hκ pc hd hw hM hc hcl hdc hk hn hst (fun v h' hp => by obtain ⟨r, rfl, hp⟩ := hp; exact kk r h' hp)
theorem ks_voidV4 (hκ : ks_Ok κ g own nm cc nL d mc ms) (pc : Nat) {ix i ci dc nL' : Nat} {cc' : ByteArray} {y : MethodName} {ret : Option FieldType} {fs : List Value} {a1 a2 a3 a4 : Value} {mc' ms' : Nat} {P : ks_H → Prop} (hd : decode cc pc = .ok (.invokevirtual ix, 3)) (hw : ks_CV own ix y cc' nL' ret 4) (hM : ks_Met g (y, cc', nL', ret) dc mc' ms' [ks_ref g i, a1, a2, a3, a4] h (ks_Pv P)) (hc : h[i]? = some (ks_O ci fs)) (hcl : (vwCl[ci]?).map (fun q => q.1) = some y.cls) (hdc : dc < d) (hst : (st.map fun v => v.category).sum ≤ 8) (hk : k + mc' ≤ mc) (hn : n + ms' ≤ ms) (kk : ∀ (h1 : ks_H), P h1 → ks_K κ g nL h1 (k + mc') (n + ms') (pc + 3) ls st) : ks_K κ g nL h k n pc ls (a4 :: a3 :: a2 :: a1 :: ks_ref g i :: st) := ks_callV4 hκ pc hd hw hM hc hcl hdc hk hn hst (fun v h' hp => by obtain ⟨rfl, hp⟩ := hp; exact kk h' hp)
theorem ks_pureS4 (hκ : ks_Ok κ g own nm cc nL d mc ms) (pc : Nat) {ix dc nL' : Nat} {cc' : ByteArray} {y : MethodName} {ret : Option FieldType} {a1 a2 a3 a4 : Value} {r : Int32} (hd : decode cc pc = .ok (.invokestatic ix, 3)) (hw : ks_CS own ix y cc' nL' ret 4) (hM : ks_Met g (y, cc', nL', ret) dc 0 0 [a1, a2, a3, a4] h (ks_Pi r h))  (hdc : dc < d) (hst : (st.map fun v => v.category).sum ≤ 8) (hk : k ≤ mc) (hn : n ≤ ms) (kk : ks_K κ g nL h k n (pc + 3) ls (.int r :: st)) : ks_K κ g nL h k n pc ls (a4 :: a3 :: a2 :: a1 :: st) := ks_callS4 hκ pc hd hw hM  hdc hk hn hst (fun v h' hp => by obtain ⟨rfl, rfl⟩ := hp; exact kk)
theorem ks_intcS4 (hκ : ks_Ok κ g own nm cc nL d mc ms) (pc : Nat) {ix dc nL' : Nat} {cc' : ByteArray} {y : MethodName} {ret : Option FieldType} {a1 a2 a3 a4 : Value} {mc' ms' : Nat} {P : Int32 → ks_H → Prop} (hd : decode cc pc = .ok (.invokestatic ix, 3)) (hw : ks_CS own ix y cc' nL' ret 4) (hM : ks_Met g (y, cc', nL', ret) dc mc' ms' [a1, a2, a3, a4] h (ks_Ph P))  (hdc : dc < d) (hst : (st.map fun v => v.category).sum ≤ 8) (hk : k + mc' ≤ mc) (hn : n + ms' ≤ ms) (kk : ∀ (r : Int32) (h1 : ks_H), P r h1 → ks_K κ g nL h1 (k + mc') (n + ms') (pc + 3) ls (.int r :: st)) : ks_K κ g nL h k n pc ls (a4 :: a3 :: a2 :: a1 :: st) := ks_callS4 hκ pc hd hw hM  hdc hk hn hst (fun v h' hp => by obtain ⟨r, rfl, hp⟩ := hp; exact kk r h' hp)
theorem ks_voidS4 (hκ : ks_Ok κ g own nm cc nL d mc ms) (pc : Nat) {ix dc nL' : Nat} {cc' : ByteArray} {y : MethodName} {ret : Option FieldType} {a1 a2 a3 a4 : Value} {mc' ms' : Nat} {P : ks_H → Prop} (hd : decode cc pc = .ok (.invokestatic ix, 3)) (hw : ks_CS own ix y cc' nL' ret 4) (hM : ks_Met g (y, cc', nL', ret) dc mc' ms' [a1, a2, a3, a4] h (ks_Pv P))  (hdc : dc < d) (hst : (st.map fun v => v.category).sum ≤ 8) (hk : k + mc' ≤ mc) (hn : n + ms' ≤ ms) (kk : ∀ (h1 : ks_H), P h1 → ks_K κ g nL h1 (k + mc') (n + ms') (pc + 3) ls st) : ks_K κ g nL h k n pc ls (a4 :: a3 :: a2 :: a1 :: st) := ks_callS4 hκ pc hd hw hM  hdc hk hn hst (fun v h' hp => by obtain ⟨rfl, hp⟩ := hp; exact kk h' hp)
theorem ks_pureS5 (hκ : ks_Ok κ g own nm cc nL d mc ms) (pc : Nat) {ix dc nL' : Nat} {cc' : ByteArray} {y : MethodName} {ret : Option FieldType} {a1 a2 a3 a4 a5 : Value} {r : Int32} (hd : decode cc pc = .ok (.invokestatic ix, 3)) (hw : ks_CS own ix y cc' nL' ret 5) (hM : ks_Met g (y, cc', nL', ret) dc 0 0 [a1, a2, a3, a4, a5] h (ks_Pi r h))  (hdc : dc < d) (hst : (st.map fun v => v.category).sum ≤ 8) (hk : k ≤ mc) (hn : n ≤ ms) (kk : ks_K κ g nL h k n (pc + 3) ls (.int r :: st)) : ks_K κ g nL h k n pc ls (a5 :: a4 :: a3 :: a2 :: a1 :: st) := ks_callS5 hκ pc hd hw hM  hdc hk hn hst (fun v h' hp => by obtain ⟨rfl, rfl⟩ := hp; exact kk)
theorem ks_intcS5 (hκ : ks_Ok κ g own nm cc nL d mc ms) (pc : Nat) {ix dc nL' : Nat} {cc' : ByteArray} {y : MethodName} {ret : Option FieldType} {a1 a2 a3 a4 a5 : Value} {mc' ms' : Nat} {P : Int32 → ks_H → Prop} (hd : decode cc pc = .ok (.invokestatic ix, 3)) (hw : ks_CS own ix y cc' nL' ret 5) (hM : ks_Met g (y, cc', nL', ret) dc mc' ms' [a1, a2, a3, a4, a5] h (ks_Ph P))  (hdc : dc < d) (hst : (st.map fun v => v.category).sum ≤ 8) (hk : k + mc' ≤ mc) (hn : n + ms' ≤ ms) (kk : ∀ (r : Int32) (h1 : ks_H), P r h1 → ks_K κ g nL h1 (k + mc') (n + ms') (pc + 3) ls (.int r :: st)) : ks_K κ g nL h k n pc ls (a5 :: a4 :: a3 :: a2 :: a1 :: st) := ks_callS5 hκ pc hd hw hM  hdc hk hn hst (fun v h' hp => by obtain ⟨r, rfl, hp⟩ := hp; exact kk r h' hp)
theorem ks_voidS5 (hκ : ks_Ok κ g own nm cc nL d mc ms) (pc : Nat) {ix dc nL' : Nat} {cc' : ByteArray} {y : MethodName} {ret : Option FieldType} {a1 a2 a3 a4 a5 : Value} {mc' ms' : Nat} {P : ks_H → Prop} (hd : decode cc pc = .ok (.invokestatic ix, 3)) (hw : ks_CS own ix y cc' nL' ret 5) (hM : ks_Met g (y, cc', nL', ret) dc mc' ms' [a1, a2, a3, a4, a5] h (ks_Pv P))  (hdc : dc < d) (hst : (st.map fun v => v.category).sum ≤ 8) (hk : k + mc' ≤ mc) (hn : n + ms' ≤ ms) (kk : ∀ (h1 : ks_H), P h1 → ks_K κ g nL h1 (k + mc') (n + ms') (pc + 3) ls st) : ks_K κ g nL h k n pc ls (a5 :: a4 :: a3 :: a2 :: a1 :: st) := ks_callS5 hκ pc hd hw hM  hdc hk hn hst (fun v h' hp => by obtain ⟨rfl, hp⟩ := hp; exact kk h' hp)
theorem ks_maxN (hκ : ks_Ok κ g own nm cc nL d mc ms) (pc : Nat) {ix : Nat} {x y : Nat} (hd : decode cc pc = .ok (.invokestatic ix, 3)) (h1 : Cond.methodLink own ix Lib.Math.max.name ∈ lw_g) (hx : x < 2 ^ 31) (hy : y < 2 ^ 31) (hd1 : 1 ≤ d) (hk : k ≤ mc) (hn : n ≤ ms) (hst : (st.map fun v => v.category).sum ≤ 8) (kk : ks_K κ g nL h k n (pc + 3) ls (.int (nI (max x y)) :: st)) : ks_K κ g nL h k n pc ls (.int (nI y) :: .int (nI x) :: st) := ks_max hκ pc hd h1 ku_maxs ku_mi ku_maxc hd1 hk hn hst (by rw [show (if nI x < nI y then nI y else nI x) = nI (max x y) by (by_cases q : x < y); { rw [if_pos ((nI_ltI hx hy).mpr q), Nat.max_eq_right (Nat.le_of_lt q)] }; { rw [if_neg (mt (nI_ltI hx hy).mp q), Nat.max_eq_left (Nat.le_of_not_lt q)] }]; exact kk)
end KSM
theorem kq_bm15 : (Int8.ofInt (-15)).toInt32 = (-15) := by decide +kernel
theorem kq_bm6 : (Int8.ofInt (-6)).toInt32 = (-6) := by decide +kernel
theorem kq_bm5 : (Int8.ofInt (-5)).toInt32 = (-5) := by decide +kernel
theorem kq_bm4 : (Int8.ofInt (-4)).toInt32 = (-4) := by decide +kernel
theorem kq_bm3 : (Int8.ofInt (-3)).toInt32 = (-3) := by decide +kernel
theorem kq_bm2 : (Int8.ofInt (-2)).toInt32 = (-2) := by decide +kernel
theorem kq_b6 : (Int8.ofInt 6).toInt32 = nI 6 := by decide +kernel
theorem kq_b7 : (Int8.ofInt 7).toInt32 = nI 7 := by decide +kernel
theorem kq_b8 : (Int8.ofInt 8).toInt32 = nI 8 := by decide +kernel
theorem kq_b9 : (Int8.ofInt 9).toInt32 = nI 9 := by decide +kernel
theorem kq_b10 : (Int8.ofInt 10).toInt32 = nI 10 := by decide +kernel
theorem kq_b11 : (Int8.ofInt 11).toInt32 = nI 11 := by decide +kernel
theorem kq_b14 : (Int8.ofInt 14).toInt32 = nI 14 := by decide +kernel
theorem kq_b15 : (Int8.ofInt 15).toInt32 = nI 15 := by decide +kernel
theorem kq_b16 : (Int8.ofInt 16).toInt32 = nI 16 := by decide +kernel
theorem kq_b27 : (Int8.ofInt 27).toInt32 = nI 27 := by decide +kernel
theorem kq_b31 : (Int8.ofInt 31).toInt32 = nI 31 := by decide +kernel
theorem kq_b32 : (Int8.ofInt 32).toInt32 = nI 32 := by decide +kernel
theorem kq_b40 : (Int8.ofInt 40).toInt32 = nI 40 := by decide +kernel
theorem kq_b43 : (Int8.ofInt 43).toInt32 = nI 43 := by decide +kernel
theorem kq_b45 : (Int8.ofInt 45).toInt32 = nI 45 := by decide +kernel
theorem kq_b46 : (Int8.ofInt 46).toInt32 = nI 46 := by decide +kernel
theorem kq_b48 : (Int8.ofInt 48).toInt32 = nI 48 := by decide +kernel
theorem kq_b52 : (Int8.ofInt 52).toInt32 = nI 52 := by decide +kernel
theorem kq_b57 : (Int8.ofInt 57).toInt32 = nI 57 := by decide +kernel
theorem kq_b58 : (Int8.ofInt 58).toInt32 = nI 58 := by decide +kernel
theorem kq_b59 : (Int8.ofInt 59).toInt32 = nI 59 := by decide +kernel
theorem kq_b80 : (Int8.ofInt 80).toInt32 = nI 80 := by decide +kernel
theorem kq_b81 : (Int8.ofInt 81).toInt32 = nI 81 := by decide +kernel
theorem kq_b99 : (Int8.ofInt 99).toInt32 = nI 99 := by decide +kernel
theorem kq_b100 : (Int8.ofInt 100).toInt32 = nI 100 := by decide +kernel
theorem kq_b103 : (Int8.ofInt 103).toInt32 = nI 103 := by decide +kernel
theorem kq_b107 : (Int8.ofInt 107).toInt32 = nI 107 := by decide +kernel
theorem kq_b110 : (Int8.ofInt 110).toInt32 = nI 110 := by decide +kernel
theorem kq_b112 : (Int8.ofInt 112).toInt32 = nI 112 := by decide +kernel
theorem kq_b116 : (Int8.ofInt 116).toInt32 = nI 116 := by decide +kernel
theorem kq_b120 : (Int8.ofInt 120).toInt32 = nI 120 := by decide +kernel
theorem kq_im1 : Int32.ofInt (-1) = (-1) := by decide +kernel
theorem kq_i0 : Int32.ofInt 0 = nI 0 := by decide +kernel
theorem kq_i1 : Int32.ofInt 1 = nI 1 := by decide +kernel
theorem kq_i2 : Int32.ofInt 2 = nI 2 := by decide +kernel
theorem kq_i3 : Int32.ofInt 3 = nI 3 := by decide +kernel
theorem kq_i4 : Int32.ofInt 4 = nI 4 := by decide +kernel
theorem kq_i5 : Int32.ofInt 5 = nI 5 := by decide +kernel
theorem kq_s240 : (Int16.ofInt 240).toInt32 = nI 240 := by decide +kernel
theorem kq_s340 : (Int16.ofInt 340).toInt32 = nI 340 := by decide +kernel
theorem kq_s3060 : (Int16.ofInt 3060).toInt32 = nI 3060 := by decide +kernel
theorem kq_s3400 : (Int16.ofInt 3400).toInt32 = nI 3400 := by decide +kernel
theorem kq_s9999 : (Int16.ofInt 9999).toInt32 = nI 9999 := by decide +kernel
theorem kq_s32767 : (Int16.ofInt 32767).toInt32 = nI 32767 := by decide +kernel
end
section

/-! STRANDS: a list of (edge, kitten), the oldest first -/
def kAtS (e : Nat) (a : Nat) (p : Nat × Nat) : Nat := if p.1 = e then a + 1 else a
/-- strands at an edge -/
def kAt (e : Nat) (L : List (Nat × Nat)) : Nat := L.foldl (kAtS e) 0
def kOfS (o : Nat) (a : Nat) (p : Nat × Nat) : Nat := if p.2 = o then a + 1 else a
/-- strands of a kitten -/
def kOf (o : Nat) (L : List (Nat × Nat)) : Nat := L.foldl (kOfS o) 0
def kBit (o : Nat) : Int32 := nI 1 <<< (nI o &&& 31)
def kSetS (e : Nat) (a : Int32) (p : Nat × Nat) : Int32 := if p.1 = e then a ||| kBit p.2 else a
/-- kittens with strands at an edge -/
def kSet (e : Nat) (L : List (Nat × Nat)) : Int32 := L.foldl (kSetS e) (nI 0)
def kTopS (e : Nat) (a : Option Nat) (p : Nat × Nat) : Option Nat := if p.1 = e then some p.2 else a
/-- the kitten of the strand on top -/
def kTop (e : Nat) (L : List (Nat × Nat)) : Option Nat := L.foldl (kTopS e) none
/-- a kitten, or -6 -/
def kON (o : Option Nat) : Int32 := match o with
  | none => -6
  | some a => nI a
def kRank (e : Nat) (r : Int32) : List (Nat × Nat) → Nat → Int32
  | [], _ => -1
  | p :: l, c => if p.1 = e then (if nI c = r then nI p.2 else kRank e r l (c + 1)) else kRank e r l c
theorem kdrop {α : Type} {L : List α} {i : Nat} {p : α} (h : L[i]? = some p) : L.drop i = p :: L.drop (i + 1) := by
  obtain ⟨h1, h2⟩ := List.getElem?_eq_some_iff.mp h
  rw [List.drop_eq_getElem_cons h1, h2]
theorem kdropN {α : Type} {L : List α} {i : Nat} (h : L.length ≤ i) : L.drop i = [] := List.drop_eq_nil_of_le h
theorem kget {α : Type} {L : List α} {i : Nat} (h : i < L.length) : ∃ p, L[i]? = some p := ⟨_, List.getElem?_eq_getElem h⟩
theorem ktop_snoc (e : Nat) (L : List (Nat × Nat)) (p : Nat × Nat) : kTop e (L ++ [p]) = if p.1 = e then some p.2 else kTop e L := by
  simp [kTop, List.foldl_append, kTopS]
theorem ktake {α : Type} {L : List α} {i : Nat} {p : α} (h : L[i]? = some p) : L.take (i + 1) = L.take i ++ [p] := by
  rw [List.take_succ, h]; rfl
theorem ks_dec1I (j : Nat) : nI j - nI 1 + Int32.ofInt (-1) = nI j - nI 1 - nI 1 := by
  rw [Int32.sub_eq_add_neg (nI j - nI 1) (nI 1)]
  rfl
theorem ks_neg1 {j : Nat} (h0 : 0 < j) (h : j < 2 ^ 31) : ¬ nI j - nI 1 < 0 := by
  rw [pk_sub (by omega)]; exact nI_pos (by omega)
theorem ks_neg0 : nI 0 - nI 1 < 0 := by decide
/-- a Yarn with these strands at y, its rows behind it -/
def kYarn (g : ks_G) (h : ks_H) (y : Nat) (L : List (Nat × Nat)) : Prop := ∃ E O : Nat → Int32, h[y]? = some (ks_O 5 [ks_ref g (y + 1), ks_ref g (y + 2), .int (nI L.length)]) ∧ h[y + 1]? = some (ks_I g 240 E) ∧ h[y + 2]? = some (ks_I g 240 O) ∧ (∀ (i e o : Nat), L[i]? = some (e, o) → E i = nI e ∧ O i = nI o) ∧ L.length ≤ 240 ∧ ∀ p ∈ L, p.1 < 15 ∧ p.2 < 6
set_option maxRecDepth 100000 in
set_option maxHeartbeats 4000000 in
theorem c_Yarn_lyingAt {g : ks_G} {h : ks_H} {y e : Nat} {L : List (Nat × Nat)} (hyarn : kYarn g h y L) (he : e < 15) : ks_Met g (yX5_lyingAt, cX5_lyingAt, 4, some .int) 0 0 0 [ks_ref g y, .int (nI e)] h (ks_Pi (nI (kAt e L)) h) := by
  obtain ⟨E, O, hY, hE, hO, hEO, hn, hbd⟩ := hyarn
  refine ks_intro (by decide) (Nat.le_of_ble_eq_true rfl) (fun κ hκ hRt => ?_)
  refine ks_cv (ls := [(0, ks_ref g y), (1, .int (nI e))]) ?_ rfl rfl rfl
  refine ks_iconst hκ 0 (nI 0) dX5_lyingAt_0 kq_i0 ?_
  refine ks_istore_n hκ 1 2 [(2, _), (0, _), (1, _)] dX5_lyingAt_1 rfl (by decide) rfl ?_
  refine ks_iconst hκ 2 (nI 0) dX5_lyingAt_2 kq_i0 ?_
  refine ks_istore_n hκ 3 3 [(3, _), (2, _), (0, _), (1, _)] dX5_lyingAt_3 rfl (by decide) rfl ?_
  have L4 : ∀ (fuel : Nat) (i acc : Nat) (hi : i ≤ L.length) (hinv : (L.drop i).foldl (kAtS e) acc = kAt e L) (hfuel : L.length - i < fuel), ks_K κ g 4 h 0 0 4 [(0, ks_ref g y), (1, .int (nI e)), (2, .int (nI acc)), (3, .int (nI i))] [] := by
    intro fuel
    induction fuel with
    | zero => intro i acc  hi hinv hfuel; exact absurd hfuel (Nat.not_lt_zero _)
    | succ fuel ih =>
      intro i acc  hi hinv hfuel
      refine ks_iload_n hκ 4 3 dX5_lyingAt_4 rfl ?_
      refine ks_aload_n hκ 5 0 dX5_lyingAt_5 rfl ?_
      refine ks_get hκ 6 dX5_lyingAt_6 kf_X5_18 hY rfl ?_
      refine ks_icmp_ge hκ 9 31 dX5_lyingAt_9 rfl (fun c9 => ?_) (fun c9 => ?_)
      · skip
        have c9 := (nI_leI (by omega) (by omega)).mp c9
        refine ks_iload_n hκ 31 2 dX5_lyingAt_31 rfl ?_
        refine ks_iret hκ 32 hRt dX5_lyingAt_32 (by decide) (by decide) rfl ?_
        exact ⟨by rw [← hinv, kdropN c9]; rfl, rfl⟩
      · skip
        have c9 := mt (nI_leI (by omega) (by omega)).mpr c9
        obtain ⟨⟨e1, o1⟩, hL1⟩ := kget (L := L) (i := i) (by omega)
        obtain ⟨hE1, hO1⟩ := hEO i e1 o1 hL1
        obtain ⟨hb1, hb2⟩ := hbd _ (List.mem_of_getElem? hL1)
        simp only at hb1 hb2
        rw [kdrop hL1] at hinv
        refine ks_aload_n hκ 12 0 dX5_lyingAt_12 rfl ?_
        refine ks_get hκ 13 dX5_lyingAt_13 kf_X5_9 hY rfl ?_
        refine ks_iload_n hκ 16 3 dX5_lyingAt_16 rfl ?_
        refine ks_iald hκ 17 (i) dX5_lyingAt_17 hE rfl (by omega) (by decide) ?_
        refine ks_top (nI e1) hE1 ?_
        refine ks_iload_n hκ 18 1 dX5_lyingAt_18 rfl ?_
        refine ks_icmp_ne hκ 19 25 dX5_lyingAt_19 rfl (fun c19 => ?_) (fun c19 => ?_)
        · skip
          have c19 := mt (nI_eq (by omega) (by omega)).mpr c19
          refine ks_iinc hκ 25 3 3 (nI (i + 1)) [(3, _), (0, _), (1, _), (2, _)] dX5_lyingAt_25 rfl (ks_inc1 _) (by decide) rfl ?_
          refine ks_goto hκ 28 4 dX5_lyingAt_28 rfl ?_
          refine ks_pick [1, 2, 3, 0] [(0, _), (1, _), (2, _), (3, _)] rfl ?_
          exact ks_cv (ih (i + 1) _  (by omega) (by clear ih; revert hinv; simp [List.foldl_cons, kAtS, *]) (by omega)) rfl rfl rfl
        · skip
          have c19 := (nI_eq (by omega) (by omega)).mp c19
          refine ks_iinc hκ 22 2 2 (nI (acc + 1)) [(2, _), (0, _), (1, _), (3, _)] dX5_lyingAt_22 rfl (ks_inc1 _) (by decide) rfl ?_
          refine ks_iinc hκ 25 3 3 (nI (i + 1)) [(3, _), (2, _), (0, _), (1, _)] dX5_lyingAt_25 rfl (ks_inc1 _) (by decide) rfl ?_
          refine ks_goto hκ 28 4 dX5_lyingAt_28 rfl ?_
          refine ks_pick [2, 3, 1, 0] [(0, _), (1, _), (2, _), (3, _)] rfl ?_
          exact ks_cv (ih (i + 1) _  (by omega) (by clear ih; revert hinv; simp [List.foldl_cons, kAtS, *]) (by omega)) rfl rfl rfl
  refine ks_pick [2, 3, 1, 0] [(0, _), (1, _), (2, _), (3, _)] rfl ?_
  exact ks_cv (L4 _ 0 0  (Nat.zero_le _) rfl (Nat.lt_succ_self _)) rfl rfl rfl
set_option maxRecDepth 100000 in
set_option maxHeartbeats 4000000 in
theorem c_Yarn_lyingOf {g : ks_G} {h : ks_H} {y e : Nat} {L : List (Nat × Nat)} (hyarn : kYarn g h y L) (he : e < 6) : ks_Met g (yX5_lyingOf, cX5_lyingOf, 4, some .int) 0 0 0 [ks_ref g y, .int (nI e)] h (ks_Pi (nI (kOf e L)) h) := by
  obtain ⟨E, O, hY, hE, hO, hEO, hn, hbd⟩ := hyarn
  refine ks_intro (by decide) (Nat.le_of_ble_eq_true rfl) (fun κ hκ hRt => ?_)
  refine ks_cv (ls := [(0, ks_ref g y), (1, .int (nI e))]) ?_ rfl rfl rfl
  refine ks_iconst hκ 0 (nI 0) dX5_lyingOf_0 kq_i0 ?_
  refine ks_istore_n hκ 1 2 [(2, _), (0, _), (1, _)] dX5_lyingOf_1 rfl (by decide) rfl ?_
  refine ks_iconst hκ 2 (nI 0) dX5_lyingOf_2 kq_i0 ?_
  refine ks_istore_n hκ 3 3 [(3, _), (2, _), (0, _), (1, _)] dX5_lyingOf_3 rfl (by decide) rfl ?_
  have L4 : ∀ (fuel : Nat) (i acc : Nat) (hi : i ≤ L.length) (hinv : (L.drop i).foldl (kOfS e) acc = kOf e L) (hfuel : L.length - i < fuel), ks_K κ g 4 h 0 0 4 [(0, ks_ref g y), (1, .int (nI e)), (2, .int (nI acc)), (3, .int (nI i))] [] := by
    intro fuel
    induction fuel with
    | zero => intro i acc  hi hinv hfuel; exact absurd hfuel (Nat.not_lt_zero _)
    | succ fuel ih =>
      intro i acc  hi hinv hfuel
      refine ks_iload_n hκ 4 3 dX5_lyingOf_4 rfl ?_
      refine ks_aload_n hκ 5 0 dX5_lyingOf_5 rfl ?_
      refine ks_get hκ 6 dX5_lyingOf_6 kf_X5_18 hY rfl ?_
      refine ks_icmp_ge hκ 9 31 dX5_lyingOf_9 rfl (fun c9 => ?_) (fun c9 => ?_)
      · skip
        have c9 := (nI_leI (by omega) (by omega)).mp c9
        refine ks_iload_n hκ 31 2 dX5_lyingOf_31 rfl ?_
        refine ks_iret hκ 32 hRt dX5_lyingOf_32 (by decide) (by decide) rfl ?_
        exact ⟨by rw [← hinv, kdropN c9]; rfl, rfl⟩
      · skip
        have c9 := mt (nI_leI (by omega) (by omega)).mpr c9
        obtain ⟨⟨e1, o1⟩, hL1⟩ := kget (L := L) (i := i) (by omega)
        obtain ⟨hE1, hO1⟩ := hEO i e1 o1 hL1
        obtain ⟨hb1, hb2⟩ := hbd _ (List.mem_of_getElem? hL1)
        simp only at hb1 hb2
        rw [kdrop hL1] at hinv
        refine ks_aload_n hκ 12 0 dX5_lyingOf_12 rfl ?_
        refine ks_get hκ 13 dX5_lyingOf_13 kf_X5_15 hY rfl ?_
        refine ks_iload_n hκ 16 3 dX5_lyingOf_16 rfl ?_
        refine ks_iald hκ 17 (i) dX5_lyingOf_17 hO rfl (by omega) (by decide) ?_
        refine ks_top (nI o1) hO1 ?_
        refine ks_iload_n hκ 18 1 dX5_lyingOf_18 rfl ?_
        refine ks_icmp_ne hκ 19 25 dX5_lyingOf_19 rfl (fun c19 => ?_) (fun c19 => ?_)
        · skip
          have c19 := mt (nI_eq (by omega) (by omega)).mpr c19
          refine ks_iinc hκ 25 3 3 (nI (i + 1)) [(3, _), (0, _), (1, _), (2, _)] dX5_lyingOf_25 rfl (ks_inc1 _) (by decide) rfl ?_
          refine ks_goto hκ 28 4 dX5_lyingOf_28 rfl ?_
          refine ks_pick [1, 2, 3, 0] [(0, _), (1, _), (2, _), (3, _)] rfl ?_
          exact ks_cv (ih (i + 1) _  (by omega) (by clear ih; revert hinv; simp [List.foldl_cons, kOfS, *]) (by omega)) rfl rfl rfl
        · skip
          have c19 := (nI_eq (by omega) (by omega)).mp c19
          refine ks_iinc hκ 22 2 2 (nI (acc + 1)) [(2, _), (0, _), (1, _), (3, _)] dX5_lyingOf_22 rfl (ks_inc1 _) (by decide) rfl ?_
          refine ks_iinc hκ 25 3 3 (nI (i + 1)) [(3, _), (2, _), (0, _), (1, _)] dX5_lyingOf_25 rfl (ks_inc1 _) (by decide) rfl ?_
          refine ks_goto hκ 28 4 dX5_lyingOf_28 rfl ?_
          refine ks_pick [2, 3, 1, 0] [(0, _), (1, _), (2, _), (3, _)] rfl ?_
          exact ks_cv (ih (i + 1) _  (by omega) (by clear ih; revert hinv; simp [List.foldl_cons, kOfS, *]) (by omega)) rfl rfl rfl
  refine ks_pick [2, 3, 1, 0] [(0, _), (1, _), (2, _), (3, _)] rfl ?_
  exact ks_cv (L4 _ 0 0  (Nat.zero_le _) rfl (Nat.lt_succ_self _)) rfl rfl rfl
set_option maxRecDepth 100000 in
set_option maxHeartbeats 4000000 in
theorem c_Yarn_ownerSetAt {g : ks_G} {h : ks_H} {y e : Nat} {L : List (Nat × Nat)} (hyarn : kYarn g h y L) (he : e < 15) : ks_Met g (yX5_ownerSetAt, cX5_ownerSetAt, 4, some .int) 0 0 0 [ks_ref g y, .int (nI e)] h (ks_Pi (kSet e L) h) := by
  obtain ⟨E, O, hY, hE, hO, hEO, hn, hbd⟩ := hyarn
  refine ks_intro (by decide) (Nat.le_of_ble_eq_true rfl) (fun κ hκ hRt => ?_)
  refine ks_cv (ls := [(0, ks_ref g y), (1, .int (nI e))]) ?_ rfl rfl rfl
  refine ks_iconst hκ 0 (nI 0) dX5_ownerSetAt_0 kq_i0 ?_
  refine ks_istore_n hκ 1 2 [(2, _), (0, _), (1, _)] dX5_ownerSetAt_1 rfl (by decide) rfl ?_
  refine ks_iconst hκ 2 (nI 0) dX5_ownerSetAt_2 kq_i0 ?_
  refine ks_istore_n hκ 3 3 [(3, _), (2, _), (0, _), (1, _)] dX5_ownerSetAt_3 rfl (by decide) rfl ?_
  have L4 : ∀ (fuel : Nat) (i : Nat) (acc : Int32) (hi : i ≤ L.length) (hinv : (L.drop i).foldl (kSetS e) acc = kSet e L) (hfuel : L.length - i < fuel), ks_K κ g 4 h 0 0 4 [(0, ks_ref g y), (1, .int (nI e)), (2, .int acc), (3, .int (nI i))] [] := by
    intro fuel
    induction fuel with
    | zero => intro i acc  hi hinv hfuel; exact absurd hfuel (Nat.not_lt_zero _)
    | succ fuel ih =>
      intro i acc  hi hinv hfuel
      refine ks_iload_n hκ 4 3 dX5_ownerSetAt_4 rfl ?_
      refine ks_aload_n hκ 5 0 dX5_ownerSetAt_5 rfl ?_
      refine ks_get hκ 6 dX5_ownerSetAt_6 kf_X5_18 hY rfl ?_
      refine ks_icmp_ge hκ 9 39 dX5_ownerSetAt_9 rfl (fun c9 => ?_) (fun c9 => ?_)
      · skip
        have c9 := (nI_leI (by omega) (by omega)).mp c9
        refine ks_iload_n hκ 39 2 dX5_ownerSetAt_39 rfl ?_
        refine ks_iret hκ 40 hRt dX5_ownerSetAt_40 (by decide) (by decide) rfl ?_
        exact ⟨by rw [← hinv, kdropN c9]; rfl, rfl⟩
      · skip
        have c9 := mt (nI_leI (by omega) (by omega)).mpr c9
        obtain ⟨⟨e1, o1⟩, hL1⟩ := kget (L := L) (i := i) (by omega)
        obtain ⟨hE1, hO1⟩ := hEO i e1 o1 hL1
        obtain ⟨hb1, hb2⟩ := hbd _ (List.mem_of_getElem? hL1)
        simp only at hb1 hb2
        rw [kdrop hL1] at hinv
        refine ks_aload_n hκ 12 0 dX5_ownerSetAt_12 rfl ?_
        refine ks_get hκ 13 dX5_ownerSetAt_13 kf_X5_9 hY rfl ?_
        refine ks_iload_n hκ 16 3 dX5_ownerSetAt_16 rfl ?_
        refine ks_iald hκ 17 (i) dX5_ownerSetAt_17 hE rfl (by omega) (by decide) ?_
        refine ks_top (nI e1) hE1 ?_
        refine ks_iload_n hκ 18 1 dX5_ownerSetAt_18 rfl ?_
        refine ks_icmp_ne hκ 19 33 dX5_ownerSetAt_19 rfl (fun c19 => ?_) (fun c19 => ?_)
        · skip
          have c19 := mt (nI_eq (by omega) (by omega)).mpr c19
          refine ks_iinc hκ 33 3 3 (nI (i + 1)) [(3, _), (0, _), (1, _), (2, _)] dX5_ownerSetAt_33 rfl (ks_inc1 _) (by decide) rfl ?_
          refine ks_goto hκ 36 4 dX5_ownerSetAt_36 rfl ?_
          refine ks_pick [1, 2, 3, 0] [(0, _), (1, _), (2, _), (3, _)] rfl ?_
          exact ks_cv (ih (i + 1) _  (by omega) (by clear ih; revert hinv; simp [List.foldl_cons, kSetS, kBit, *]) (by omega)) rfl rfl rfl
        · skip
          have c19 := (nI_eq (by omega) (by omega)).mp c19
          refine ks_iload_n hκ 22 2 dX5_ownerSetAt_22 rfl ?_
          refine ks_iconst hκ 23 (nI 1) dX5_ownerSetAt_23 kq_i1 ?_
          refine ks_aload_n hκ 24 0 dX5_ownerSetAt_24 rfl ?_
          refine ks_get hκ 25 dX5_ownerSetAt_25 kf_X5_15 hY rfl ?_
          refine ks_iload_n hκ 28 3 dX5_ownerSetAt_28 rfl ?_
          refine ks_iald hκ 29 (i) dX5_ownerSetAt_29 hO rfl (by omega) (by decide) ?_
          refine ks_top (nI o1) hO1 ?_
          refine ks_ishl hκ 30 dX5_ownerSetAt_30 ?_
          refine ks_ior hκ 31 dX5_ownerSetAt_31 ?_
          refine ks_istore_n hκ 32 2 [(2, _), (0, _), (1, _), (3, _)] dX5_ownerSetAt_32 rfl (by decide) rfl ?_
          refine ks_iinc hκ 33 3 3 (nI (i + 1)) [(3, _), (2, _), (0, _), (1, _)] dX5_ownerSetAt_33 rfl (ks_inc1 _) (by decide) rfl ?_
          refine ks_goto hκ 36 4 dX5_ownerSetAt_36 rfl ?_
          refine ks_pick [2, 3, 1, 0] [(0, _), (1, _), (2, _), (3, _)] rfl ?_
          exact ks_cv (ih (i + 1) _  (by omega) (by clear ih; revert hinv; simp [List.foldl_cons, kSetS, kBit, *]) (by omega)) rfl rfl rfl
  refine ks_pick [2, 3, 1, 0] [(0, _), (1, _), (2, _), (3, _)] rfl ?_
  exact ks_cv (L4 _ 0 _  (Nat.zero_le _) rfl (Nat.lt_succ_self _)) rfl rfl rfl
set_option maxRecDepth 100000 in
set_option maxHeartbeats 4000000 in
theorem c_Yarn_topOwner {g : ks_G} {h : ks_H} {y e : Nat} {L : List (Nat × Nat)} (hyarn : kYarn g h y L) (he : e < 15) : ks_Met g (yX5_topOwner, cX5_topOwner, 3, some .int) 0 0 0 [ks_ref g y, .int (nI e)] h (ks_Pi (kON (kTop e L)) h) := by
  obtain ⟨E, O, hY, hE, hO, hEO, hn, hbd⟩ := hyarn
  refine ks_intro (by decide) (Nat.le_of_ble_eq_true rfl) (fun κ hκ hRt => ?_)
  refine ks_cv (ls := [(0, ks_ref g y), (1, .int (nI e))]) ?_ rfl rfl rfl
  refine ks_aload_n hκ 0 0 dX5_topOwner_0 rfl ?_
  refine ks_get hκ 1 dX5_topOwner_1 kf_X5_18 hY rfl ?_
  refine ks_iconst hκ 4 (nI 1) dX5_topOwner_4 kq_i1 ?_
  refine ks_isub hκ 5 dX5_topOwner_5 ?_
  refine ks_istore_n hκ 6 2 [(2, _), (0, _), (1, _)] dX5_topOwner_6 rfl (by decide) rfl ?_
  have L7 : ∀ (fuel : Nat) (j : Nat) (hj : j ≤ L.length) (hinv : kTop e (L.take j) = kTop e L) (hfuel : j < fuel), ks_K κ g 3 h 0 0 7 [(0, ks_ref g y), (1, .int (nI e)), (2, .int (nI j - nI 1))] [] := by
    intro fuel
    induction fuel with
    | zero => intro j  hj hinv hfuel; exact absurd hfuel (Nat.not_lt_zero _)
    | succ fuel ih =>
      intro j  hj hinv hfuel
      refine ks_iload_n hκ 7 2 dX5_topOwner_7 rfl ?_
      refine ks_if_lt hκ 8 34 dX5_topOwner_8 rfl (fun c8 => ?_) (fun c8 => ?_)
      · skip
        have hj0 : j = 0 := by
          rcases Nat.eq_zero_or_pos j with q | q
          · exact q
          · exact absurd c8 (ks_neg1 q (by omega))
        refine ks_bipush hκ 34 (-6) dX5_topOwner_34 kq_bm6 ?_
        refine ks_iret hκ 36 hRt dX5_topOwner_36 (by decide) (by decide) rfl ?_
        exact ⟨by rw [← hinv, hj0]; rfl, rfl⟩
      · skip
        obtain ⟨i, rfl⟩ : ∃ i, j = i + 1 := by
          rcases j with _ | i
          · exact absurd ks_neg0 c8
          · exact ⟨i, rfl⟩
        obtain ⟨⟨e1, o1⟩, hL1⟩ := kget (L := L) (i := i) (by omega)
        obtain ⟨hE1, hO1⟩ := hEO i e1 o1 hL1
        obtain ⟨hb1, hb2⟩ := hbd _ (List.mem_of_getElem? hL1)
        simp only at hb1 hb2
        refine ks_aload_n hκ 11 0 dX5_topOwner_11 rfl ?_
        refine ks_get hκ 12 dX5_topOwner_12 kf_X5_9 hY rfl ?_
        refine ks_iload_n hκ 15 2 dX5_topOwner_15 rfl ?_
        refine ks_top (nI i) (by rw [pk_sub (by omega), Nat.add_sub_cancel]) ?_
        refine ks_iald hκ 16 (i) dX5_topOwner_16 hE rfl (by omega) (by decide) ?_
        refine ks_top (nI e1) hE1 ?_
        refine ks_iload_n hκ 17 1 dX5_topOwner_17 rfl ?_
        refine ks_icmp_ne hκ 18 28 dX5_topOwner_18 rfl (fun c18 => ?_) (fun c18 => ?_)
        · skip
          have c18 := mt (nI_eq (by omega) (by omega)).mpr c18
          refine ks_iinc hκ 28 2 2 _ [(2, _), (0, _), (1, _)] dX5_topOwner_28 rfl rfl (by decide) rfl ?_
          refine ks_goto hκ 31 7 dX5_topOwner_31 rfl ?_
          refine ks_pick [1, 2, 0] [(0, _), (1, _), (2, _)] rfl ?_
          exact ks_cv (ih i  (by omega) (by rw [← hinv, ktake hL1, ktop_snoc, if_neg c18]) (by omega)) rfl (by rw [ks_dec1I, pk_sub (show 1 ≤ i + 1 by omega), Nat.add_sub_cancel]) rfl
        · skip
          have c18 := (nI_eq (by omega) (by omega)).mp c18
          refine ks_aload_n hκ 21 0 dX5_topOwner_21 rfl ?_
          refine ks_get hκ 22 dX5_topOwner_22 kf_X5_15 hY rfl ?_
          refine ks_iload_n hκ 25 2 dX5_topOwner_25 rfl ?_
          refine ks_top (nI i) (by rw [pk_sub (by omega), Nat.add_sub_cancel]) ?_
          refine ks_iald hκ 26 (i) dX5_topOwner_26 hO rfl (by omega) (by decide) ?_
          refine ks_iret hκ 27 hRt dX5_topOwner_27 (by decide) (by decide) rfl ?_
          exact ⟨by rw [← hinv, ktake hL1, ktop_snoc, if_pos c18, hO1]; rfl, rfl⟩
  refine ks_pick [1, 2, 0] [(0, _), (1, _), (2, _)] rfl ?_
  exact ks_cv (L7 _ L.length  (Nat.le_refl _) (by rw [List.take_length]) (Nat.lt_succ_self _)) rfl rfl rfl
set_option maxRecDepth 100000 in
set_option maxHeartbeats 4000000 in
theorem c_Yarn_ownerAt {g : ks_G} {h : ks_H} {y e : Nat} {r : Int32} {L : List (Nat × Nat)} (hyarn : kYarn g h y L) (he : e < 15) : ks_Met g (yX5_ownerAt, cX5_ownerAt, 5, some .int) 0 0 0 [ks_ref g y, .int (nI e), .int r] h (ks_Pi (kRank e r L 0) h) := by
  obtain ⟨E, O, hY, hE, hO, hEO, hn, hbd⟩ := hyarn
  refine ks_intro (by decide) (Nat.le_of_ble_eq_true rfl) (fun κ hκ hRt => ?_)
  refine ks_cv (ls := [(0, ks_ref g y), (1, .int (nI e)), (2, .int r)]) ?_ rfl rfl rfl
  refine ks_iconst hκ 0 (nI 0) dX5_ownerAt_0 kq_i0 ?_
  refine ks_istore_n hκ 1 3 [(3, _), (0, _), (1, _), (2, _)] dX5_ownerAt_1 rfl (by decide) rfl ?_
  refine ks_iconst hκ 2 (nI 0) dX5_ownerAt_2 kq_i0 ?_
  refine ks_istore hκ 3 4 [(4, _), (3, _), (0, _), (1, _), (2, _)] dX5_ownerAt_3 (by decide) rfl ?_
  have L5 : ∀ (fuel : Nat) (i acc : Nat) (hi : i ≤ L.length) (hinv : kRank e r (L.drop i) acc = kRank e r L 0) (hfuel : L.length - i < fuel), ks_K κ g 5 h 0 0 5 [(0, ks_ref g y), (1, .int (nI e)), (2, .int r), (3, .int (nI acc)), (4, .int (nI i))] [] := by
    intro fuel
    induction fuel with
    | zero => intro i acc  hi hinv hfuel; exact absurd hfuel (Nat.not_lt_zero _)
    | succ fuel ih =>
      intro i acc  hi hinv hfuel
      refine ks_iload hκ 5 4 dX5_ownerAt_5 rfl ?_
      refine ks_aload_n hκ 7 0 dX5_ownerAt_7 rfl ?_
      refine ks_get hκ 8 dX5_ownerAt_8 kf_X5_18 hY rfl ?_
      refine ks_icmp_ge hκ 11 50 dX5_ownerAt_11 rfl (fun c11 => ?_) (fun c11 => ?_)
      · skip
        have c11 := (nI_leI (by omega) (by omega)).mp c11
        refine ks_iconst hκ 50 (-1) dX5_ownerAt_50 kq_im1 ?_
        refine ks_iret hκ 51 hRt dX5_ownerAt_51 (by decide) (by decide) rfl ?_
        exact ⟨by rw [← hinv, kdropN c11]; rfl, rfl⟩
      · skip
        have c11 := mt (nI_leI (by omega) (by omega)).mpr c11
        obtain ⟨⟨e1, o1⟩, hL1⟩ := kget (L := L) (i := i) (by omega)
        obtain ⟨hE1, hO1⟩ := hEO i e1 o1 hL1
        obtain ⟨hb1, hb2⟩ := hbd _ (List.mem_of_getElem? hL1)
        simp only at hb1 hb2
        rw [kdrop hL1] at hinv
        refine ks_aload_n hκ 14 0 dX5_ownerAt_14 rfl ?_
        refine ks_get hκ 15 dX5_ownerAt_15 kf_X5_9 hY rfl ?_
        refine ks_iload hκ 18 4 dX5_ownerAt_18 rfl ?_
        refine ks_iald hκ 20 (i) dX5_ownerAt_20 hE rfl (by omega) (by decide) ?_
        refine ks_top (nI e1) hE1 ?_
        refine ks_iload_n hκ 21 1 dX5_ownerAt_21 rfl ?_
        refine ks_icmp_eq hκ 22 28 dX5_ownerAt_22 rfl (fun c22 => ?_) (fun c22 => ?_)
        · skip
          have c22 := (nI_eq (by omega) (by omega)).mp c22
          refine ks_iload_n hκ 28 3 dX5_ownerAt_28 rfl ?_
          refine ks_iload_n hκ 29 2 dX5_ownerAt_29 rfl ?_
          refine ks_icmp_ne hκ 30 41 dX5_ownerAt_30 rfl (fun c30 => ?_) (fun c30 => ?_)
          · skip
            refine ks_iinc hκ 41 3 3 (nI (acc + 1)) [(3, _), (0, _), (1, _), (2, _), (4, _)] dX5_ownerAt_41 rfl (ks_inc1 _) (by decide) rfl ?_
            refine ks_iinc hκ 44 4 4 (nI (i + 1)) [(4, _), (3, _), (0, _), (1, _), (2, _)] dX5_ownerAt_44 rfl (ks_inc1 _) (by decide) rfl ?_
            refine ks_goto hκ 47 5 dX5_ownerAt_47 rfl ?_
            refine ks_pick [2, 3, 4, 1, 0] [(0, _), (1, _), (2, _), (3, _), (4, _)] rfl ?_
            exact ks_cv (ih (i + 1) _  (by omega) (by clear ih; revert hinv; simp [kRank, *]) (by omega)) rfl rfl rfl
          · skip
            refine ks_aload_n hκ 33 0 dX5_ownerAt_33 rfl ?_
            refine ks_get hκ 34 dX5_ownerAt_34 kf_X5_15 hY rfl ?_
            refine ks_iload hκ 37 4 dX5_ownerAt_37 rfl ?_
            refine ks_iald hκ 39 (i) dX5_ownerAt_39 hO rfl (by omega) (by decide) ?_
            refine ks_iret hκ 40 hRt dX5_ownerAt_40 (by decide) (by decide) rfl ?_
            exact ⟨by clear ih; revert hinv; simp [kRank, *], rfl⟩
        · skip
          have c22 := mt (nI_eq (by omega) (by omega)).mpr c22
          refine ks_goto hκ 25 44 dX5_ownerAt_25 rfl ?_
          refine ks_iinc hκ 44 4 4 (nI (i + 1)) [(4, _), (0, _), (1, _), (2, _), (3, _)] dX5_ownerAt_44 rfl (ks_inc1 _) (by decide) rfl ?_
          refine ks_goto hκ 47 5 dX5_ownerAt_47 rfl ?_
          refine ks_pick [1, 2, 3, 4, 0] [(0, _), (1, _), (2, _), (3, _), (4, _)] rfl ?_
          exact ks_cv (ih (i + 1) _  (by omega) (by clear ih; revert hinv; simp [kRank, *]) (by omega)) rfl rfl rfl
  refine ks_pick [2, 3, 4, 1, 0] [(0, _), (1, _), (2, _), (3, _), (4, _)] rfl ?_
  exact ks_cv (L5 _ 0 0  (Nat.zero_le _) rfl (Nat.lt_succ_self _)) rfl rfl rfl
end
section

/-! more of Yarn: what two kittens' strands do; laying, winding back, snipping, copying -/
abbrev kQ : Type := Int32 × Int32 × Int32 × Int32
def kbS (a b : Nat) (q : kQ) (p : Nat × Nat) : kQ :=
  if p.2 = a then (q.1 ||| kBit p.1, q.2.1 &&& (kBit p.1 ^^^ (-1)), q.2.2.1 ||| (kBit p.1 &&& q.2.1), q.2.2.2 ||| (kBit p.1 &&& q.2.1 &&& q.2.2.1))
  else if p.2 = b then (q.1 &&& (kBit p.1 ^^^ (-1)), q.2.1 ||| kBit p.1, q.2.2.1 ||| (kBit p.1 &&& q.1), q.2.2.2 ||| (kBit p.1 &&& q.1 &&& q.2.2.1))
  else q
def kBes (a b : Nat) (L : List (Nat × Nat)) : Int32 := (L.foldl (kbS a b) (nI 0, nI 0, nI 0, nI 0)).2.2.2
theorem kbS_1 {a b e o : Nat} {x y z w : Int32} (h : o = a) : kbS a b (x, y, z, w) (e, o) = (x ||| kBit e, y &&& (kBit e ^^^ (-1)), z ||| (kBit e &&& y), w ||| (kBit e &&& y &&& z)) := if_pos h
theorem kbS_2 {a b e o : Nat} {x y z w : Int32} (h : ¬ o = a) (h2 : o = b) : kbS a b (x, y, z, w) (e, o) = (x &&& (kBit e ^^^ (-1)), y ||| kBit e, z ||| (kBit e &&& x), w ||| (kBit e &&& x &&& z)) := (if_neg h).trans (if_pos h2)
theorem kbS_3 {a b e o : Nat} {q : kQ} (h : ¬ o = a) (h2 : ¬ o = b) : kbS a b q (e, o) = q := (if_neg h).trans (if_neg h2)
def kKeptS (e lo up : Nat) (q : Nat × Nat) (p : Nat × Nat) : Nat × Nat := if p.1 = e then (if p.2 = lo then (q.1 + 1, q.2) else if p.2 = up then (q.1, max q.2 q.1 + 1) else q) else q
theorem kKeptS_0 {e lo up e1 o1 x z : Nat} (h : ¬ e1 = e) : kKeptS e lo up (x, z) (e1, o1) = (x, z) := if_neg h
theorem kKeptS_1 {e lo up e1 o1 x z : Nat} (h : e1 = e) (h2 : o1 = lo) : kKeptS e lo up (x, z) (e1, o1) = (x + 1, z) := (if_pos h).trans (if_pos h2)
theorem kKeptS_2 {e lo up e1 o1 x z : Nat} (h : e1 = e) (h2 : ¬ o1 = lo) (h3 : o1 = up) : kKeptS e lo up (x, z) (e1, o1) = (x, max z x + 1) := (if_pos h).trans ((if_neg h2).trans (if_pos h3))
theorem kKeptS_3 {e lo up e1 o1 x z : Nat} (h : e1 = e) (h2 : ¬ o1 = lo) (h3 : ¬ o1 = up) : kKeptS e lo up (x, z) (e1, o1) = (x, z) := (if_pos h).trans ((if_neg h2).trans (if_neg h3))
def kKept (e lo up : Nat) (L : List (Nat × Nat)) : Nat := max (L.foldl (kKeptS e lo up) (0, 0)).2 (L.foldl (kKeptS e lo up) (0, 0)).1
theorem kKept_le0 (e lo up : Nat) (L : List (Nat × Nat)) : ∀ (q : Nat × Nat) (m : Nat), q.1 ≤ m → q.2 ≤ m → (L.foldl (kKeptS e lo up) q).1 ≤ m + L.length ∧ (L.foldl (kKeptS e lo up) q).2 ≤ m + L.length := by
  induction L with
  | nil => intro q m h1 h2; exact ⟨h1, h2⟩
  | cons p l ih =>
    intro q m h1 h2
    have hs : (kKeptS e lo up q p).1 ≤ m + 1 ∧ (kKeptS e lo up q p).2 ≤ m + 1 := by
      unfold kKeptS
      split
      · split
        · exact ⟨by simp only; omega, by simp only; omega⟩
        · split
          · exact ⟨by simp only; omega, by simp only; omega⟩
          · omega
      · omega
    obtain ⟨r1, r2⟩ := ih _ (m + 1) hs.1 hs.2
    rw [List.foldl_cons, List.length_cons]
    omega
theorem kKept_le (e lo up : Nat) (L : List (Nat × Nat)) : kKept e lo up L ≤ L.length := by
  obtain ⟨h1, h2⟩ := kKept_le0 e lo up L (0, 0) 0 (Nat.le_refl _) (Nat.le_refl _)
  unfold kKept
  omega
def kBothS (e a b : Nat) (n : Nat) (p : Nat × Nat) : Nat := if p.1 = e ∧ (p.2 = a ∨ p.2 = b) then n + 1 else n
def kBoth (e a b : Nat) (L : List (Nat × Nat)) : Nat := L.foldl (kBothS e a b) 0
def kGone (e a b : Nat) (L : List (Nat × Nat)) : Int32 := nI (kBoth e a b L) - nI (max (kKept e a b L) (kKept e b a L))
/-- the rows hold the strands -/
def kEO (E O : Nat → Int32) (L : List (Nat × Nat)) : Prop := ∀ (i e o : Nat), L[i]? = some (e, o) → E i = nI e ∧ O i = nI o
theorem kEO.snoc {E O : Nat → Int32} {L : List (Nat × Nat)} {e o : Nat} (h : kEO E O L) : kEO (upd E L.length (nI e)) (upd O L.length (nI o)) (L ++ [(e, o)]) := by
  intro i e1 o1 hi
  by_cases hl : i < L.length
  · rw [List.getElem?_append_left hl] at hi
    rw [pk_un (by omega), pk_un (by omega)]
    exact h i e1 o1 hi
  · have hz := (List.getElem?_eq_some_iff.mp hi).1
    rw [List.length_append] at hz
    have : i = L.length := by simp at hz; omega
    subst this
    simp at hi
    rw [pk_us, pk_us, hi.1, hi.2]
    exact ⟨rfl, rfl⟩
theorem kbd_snoc {L : List (Nat × Nat)} {e o : Nat} (h : ∀ p ∈ L, p.1 < 15 ∧ p.2 < 6) (he : e < 15) (ho : o < 6) : ∀ p ∈ L ++ [(e, o)], p.1 < 15 ∧ p.2 < 6 := by
  intro p hp
  rcases List.mem_append.mp hp with q | q
  · exact h p q
  · simp at q; subst q; exact ⟨he, ho⟩
/-- while cells are moved down one place: below the gap the new list, from i on the old one -/
def kMid (E O : Nat → Int32) (L L' : List (Nat × Nat)) (c i : Nat) : Prop := (∀ (k e o : Nat), k < c → L'[k]? = some (e, o) → E k = nI e ∧ O k = nI o) ∧ ∀ (k e o : Nat), i ≤ k → L[k]? = some (e, o) → E k = nI e ∧ O k = nI o
theorem kMid.start {E O : Nat → Int32} {L : List (Nat × Nat)} {t : Nat} (h : kEO E O L) : kMid E O L (L.eraseIdx t) t (t + 1) :=
  ⟨fun k e o hk hl => h k e o (by rw [List.getElem?_eraseIdx, if_pos hk] at hl; exact hl), fun k e o _ hl => h k e o hl⟩
theorem kMid.step {E O : Nat → Int32} {L L' : List (Nat × Nat)} {c i e o : Nat} (h : kMid E O L L' c i) (hci : c ≤ i) (hi : L[i]? = some (e, o)) (hc : L'[c]? = some (e, o)) : kMid (upd E c (E i)) (upd O c (O i)) L L' (c + 1) (i + 1) := by
  obtain ⟨hE, hO⟩ := h.2 i e o (Nat.le_refl _) hi
  refine ⟨fun k e1 o1 hk hl => ?_, fun k e1 o1 hk hl => ?_⟩
  · by_cases hkc : k = c
    · subst hkc
      rw [hc] at hl
      simp at hl
      rw [pk_us, pk_us, hE, hO, hl.1, hl.2]
      exact ⟨rfl, rfl⟩
    · rw [pk_un hkc, pk_un hkc]
      exact h.1 k e1 o1 (by omega) hl
  · rw [pk_un (by omega), pk_un (by omega)]
    exact h.2 k e1 o1 (by omega) hl
theorem kMid.skip {E O : Nat → Int32} {L L' : List (Nat × Nat)} {c i : Nat} (h : kMid E O L L' c i) : kMid E O L L' c (i + 1) := ⟨h.1, fun k e o hk hl => h.2 k e o (by omega) hl⟩
theorem kbd_erase {L : List (Nat × Nat)} {t : Nat} (h : ∀ p ∈ L, p.1 < 15 ∧ p.2 < 6) : ∀ p ∈ L.eraseIdx t, p.1 < 15 ∧ p.2 < 6 := fun p hp => h p (List.mem_of_mem_eraseIdx hp)
def kNot (e o : Nat) (p : Nat × Nat) : Bool := !(p.1 == e && p.2 == o)
/-- all strands of a kitten at an edge are gone -/
def kCut (e o : Nat) (L : List (Nat × Nat)) : List (Nat × Nat) := L.filter (kNot e o)
theorem kCut_take {e o : Nat} {L : List (Nat × Nat)} {i : Nat} {p : Nat × Nat} (h : L[i]? = some p) : kCut e o (L.take (i + 1)) = if kNot e o p then kCut e o (L.take i) ++ [p] else kCut e o (L.take i) := by
  unfold kCut
  rw [ktake h, List.filter_append]
  by_cases hp : kNot e o p = true
  · rw [if_pos hp]; simp [hp]
  · rw [if_neg hp]; simp [hp]
theorem kCut_at {e o : Nat} {L : List (Nat × Nat)} {i : Nat} {p : Nat × Nat} (h : L[i]? = some p) (hp : kNot e o p = true) : (kCut e o L)[(kCut e o (L.take i)).length]? = some p := by
  have h1 : L = L.take (i + 1) ++ L.drop (i + 1) := (List.take_append_drop _ _).symm
  have h2 : kCut e o L = kCut e o (L.take (i + 1)) ++ kCut e o (L.drop (i + 1)) := by
    unfold kCut
    rw [← List.filter_append, ← h1]
  rw [h2, kCut_take h, if_pos hp, List.append_assoc, List.getElem?_append_right (Nat.le_refl _), Nat.sub_self]
  rfl
theorem kCut_le (e o : Nat) (L : List (Nat × Nat)) : (kCut e o L).length ≤ L.length := List.length_filter_le _ _
theorem kCut_tle {e o : Nat} {L : List (Nat × Nat)} {i : Nat} : (kCut e o (L.take i)).length ≤ i := Nat.le_trans (kCut_le _ _ _) (by rw [List.length_take]; omega)
theorem kCut_tle2 {e o : Nat} {L : List (Nat × Nat)} {i : Nat} (h : i ≤ L.length) : (kCut e o (L.take i)).length ≤ i := Nat.le_trans (kCut_le _ _ _) (by rw [List.length_take]; omega)
theorem kYarn.fr {g : ks_G} {h h' : ks_H} {y : Nat} {L : List (Nat × Nat)} (x : kYarn g h y L) {lo hi : Nat} (f : ks_Fr h h' lo hi) (q : y + 3 ≤ lo ∨ hi ≤ y) : kYarn g h' y L := by
  obtain ⟨E, O, hY, hE, hO, r⟩ := x
  exact ⟨E, O, f.at hY (by omega), f.at hE (by omega), f.at hO (by omega), r⟩
theorem kYarn.ex {g : ks_G} {h h' : ks_H} {y : Nat} {L : List (Nat × Nat)} (x : kYarn g h y L) {lo : Nat} (f : ks_Ex h h' lo) (q : y + 3 ≤ lo) : kYarn g h' y L := by
  obtain ⟨E, O, hY, hE, hO, r⟩ := x
  exact ⟨E, O, (f y (by omega)).trans hY, (f (y + 1) (by omega)).trans hE, (f (y + 2) (by omega)).trans hO, r⟩
set_option maxRecDepth 100000 in
set_option maxHeartbeats 4000000 in
theorem c_Yarn_boundEdgeSet {g : ks_G} {h : ks_H} {y a b : Nat} {L : List (Nat × Nat)} (hyarn : kYarn g h y L) (ha : a < 6) (hb : b < 6) : ks_Met g (yX5_boundEdgeSet, cX5_boundEdgeSet, 9, some .int) 0 0 0 [ks_ref g y, .int (nI a), .int (nI b)] h (ks_Pi (kBes a b L) h) := by
  obtain ⟨E, O, hY, hE, hO, hEO, hn, hbd⟩ := hyarn
  refine ks_intro (by decide) (Nat.le_of_ble_eq_true rfl) (fun κ hκ hRt => ?_)
  refine ks_cv (ls := [(0, ks_ref g y), (1, .int (nI a)), (2, .int (nI b))]) ?_ rfl rfl rfl
  refine ks_iconst hκ 0 (nI 0) dX5_boundEdgeSet_0 kq_i0 ?_
  refine ks_istore_n hκ 1 3 [(3, _), (0, _), (1, _), (2, _)] dX5_boundEdgeSet_1 rfl (by decide) rfl ?_
  refine ks_iconst hκ 2 (nI 0) dX5_boundEdgeSet_2 kq_i0 ?_
  refine ks_istore hκ 3 4 [(4, _), (3, _), (0, _), (1, _), (2, _)] dX5_boundEdgeSet_3 (by decide) rfl ?_
  refine ks_iconst hκ 5 (nI 0) dX5_boundEdgeSet_5 kq_i0 ?_
  refine ks_istore hκ 6 5 [(5, _), (4, _), (3, _), (0, _), (1, _), (2, _)] dX5_boundEdgeSet_6 (by decide) rfl ?_
  refine ks_iconst hκ 8 (nI 0) dX5_boundEdgeSet_8 kq_i0 ?_
  refine ks_istore hκ 9 6 [(6, _), (5, _), (4, _), (3, _), (0, _), (1, _), (2, _)] dX5_boundEdgeSet_9 (by decide) rfl ?_
  refine ks_iconst hκ 11 (nI 0) dX5_boundEdgeSet_11 kq_i0 ?_
  refine ks_istore hκ 12 7 [(7, _), (6, _), (5, _), (4, _), (3, _), (0, _), (1, _), (2, _)] dX5_boundEdgeSet_12 (by decide) rfl ?_
  have L14 : ∀ (fuel : Nat) (i : Nat) (x0 y0 z0 w0 : Int32) (hi : i ≤ L.length) (hinv : ((L.drop i).foldl (kbS a b) (x0, y0, z0, w0)).2.2.2 = kBes a b L) (hfuel : L.length - i < fuel), ks_K κ g 9 h 0 0 14 [(0, ks_ref g y), (1, .int (nI a)), (2, .int (nI b)), (3, .int x0), (4, .int y0), (5, .int z0), (6, .int w0), (7, .int (nI i))] [] := by
    intro fuel
    induction fuel with
    | zero => intro i x0 y0 z0 w0  hi hinv hfuel; exact absurd hfuel (Nat.not_lt_zero _)
    | succ fuel ih =>
      intro i x0 y0 z0 w0  hi hinv hfuel
      refine ks_iload hκ 14 7 dX5_boundEdgeSet_14 rfl ?_
      refine ks_aload_n hκ 16 0 dX5_boundEdgeSet_16 rfl ?_
      refine ks_get hκ 17 dX5_boundEdgeSet_17 kf_X5_18 hY rfl ?_
      refine ks_icmp_ge hκ 20 137 dX5_boundEdgeSet_20 rfl (fun c20 => ?_) (fun c20 => ?_)
      · skip
        have c20 := (nI_leI (by omega) (by omega)).mp c20
        refine ks_iload hκ 137 6 dX5_boundEdgeSet_137 rfl ?_
        refine ks_iret hκ 139 hRt dX5_boundEdgeSet_139 (by decide) (by decide) rfl ?_
        exact ⟨by rw [← hinv, kdropN c20]; rfl, rfl⟩
      · skip
        have c20 := mt (nI_leI (by omega) (by omega)).mpr c20
        obtain ⟨⟨e1, o1⟩, hL1⟩ := kget (L := L) (i := i) (by omega)
        obtain ⟨hE1, hO1⟩ := hEO i e1 o1 hL1
        obtain ⟨hb1, hb2⟩ := hbd _ (List.mem_of_getElem? hL1)
        simp only at hb1 hb2
        rw [kdrop hL1] at hinv
        refine ks_iconst hκ 23 (nI 1) dX5_boundEdgeSet_23 kq_i1 ?_
        refine ks_aload_n hκ 24 0 dX5_boundEdgeSet_24 rfl ?_
        refine ks_get hκ 25 dX5_boundEdgeSet_25 kf_X5_9 hY rfl ?_
        refine ks_iload hκ 28 7 dX5_boundEdgeSet_28 rfl ?_
        refine ks_iald hκ 30 (i) dX5_boundEdgeSet_30 hE rfl (by omega) (by decide) ?_
        refine ks_top (nI e1) hE1 ?_
        refine ks_ishl hκ 31 dX5_boundEdgeSet_31 ?_
        refine ks_istore hκ 32 8 [(8, _), (0, _), (1, _), (2, _), (3, _), (4, _), (5, _), (6, _), (7, _)] dX5_boundEdgeSet_32 (by decide) rfl ?_
        refine ks_aload_n hκ 34 1 dX5_boundEdgeSet_34 rfl ?_
        refine ks_get hκ 35 dX5_boundEdgeSet_35 kf_X5_15 hY rfl ?_
        refine ks_iload hκ 38 8 dX5_boundEdgeSet_38 rfl ?_
        refine ks_iald hκ 40 (i) dX5_boundEdgeSet_40 hO rfl (by omega) (by decide) ?_
        refine ks_top (nI o1) hO1 ?_
        refine ks_iload_n hκ 41 2 dX5_boundEdgeSet_41 rfl ?_
        refine ks_icmp_ne hκ 42 85 dX5_boundEdgeSet_42 rfl (fun c42 => ?_) (fun c42 => ?_)
        · skip
          have c42 := mt (nI_eq (by omega) (by omega)).mpr c42
          refine ks_aload_n hκ 85 1 dX5_boundEdgeSet_85 rfl ?_
          refine ks_get hκ 86 dX5_boundEdgeSet_86 kf_X5_15 hY rfl ?_
          refine ks_iload hκ 89 8 dX5_boundEdgeSet_89 rfl ?_
          refine ks_iald hκ 91 (i) dX5_boundEdgeSet_91 hO rfl (by omega) (by decide) ?_
          refine ks_top (nI o1) hO1 ?_
          refine ks_iload_n hκ 92 3 dX5_boundEdgeSet_92 rfl ?_
          refine ks_icmp_ne hκ 93 131 dX5_boundEdgeSet_93 rfl (fun c93 => ?_) (fun c93 => ?_)
          · skip
            have c93 := mt (nI_eq (by omega) (by omega)).mpr c93
            refine ks_iinc hκ 131 7 8 (nI (i + 1)) [(7, _), (8, _), (0, _), (1, _), (2, _), (3, _), (4, _), (5, _), (6, _)] dX5_boundEdgeSet_131 rfl (ks_inc1 _) (by decide) rfl ?_
            refine ks_goto hκ 134 14 dX5_boundEdgeSet_134 rfl ?_
            refine ks_pick [2, 3, 4, 5, 6, 7, 8, 0] [(0, _), (1, _), (2, _), (3, _), (4, _), (5, _), (6, _), (7, _)] rfl ?_
            exact ks_cv (ih (i + 1) _ _ _ _  (by omega) (by rw [List.foldl_cons] at hinv; first | (rw [kbS_1 c42] at hinv; exact hinv) | (rw [kbS_2 c42 c93] at hinv; exact hinv) | (rw [kbS_3 c42 c93] at hinv; exact hinv)) (by omega)) rfl rfl rfl
          · skip
            have c93 := (nI_eq (by omega) (by omega)).mp c93
            refine ks_iload hκ 96 7 dX5_boundEdgeSet_96 rfl ?_
            refine ks_iload hκ 98 0 dX5_boundEdgeSet_98 rfl ?_
            refine ks_iload_n hκ 100 4 dX5_boundEdgeSet_100 rfl ?_
            refine ks_iand hκ 101 dX5_boundEdgeSet_101 ?_
            refine ks_iload hκ 102 6 dX5_boundEdgeSet_102 rfl ?_
            refine ks_iand hκ 104 dX5_boundEdgeSet_104 ?_
            refine ks_ior hκ 105 dX5_boundEdgeSet_105 ?_
            refine ks_istore hκ 106 6 [(6, _), (8, _), (0, _), (1, _), (2, _), (3, _), (4, _), (5, _), (7, _)] dX5_boundEdgeSet_106 (by decide) rfl ?_
            refine ks_iload hκ 108 7 dX5_boundEdgeSet_108 rfl ?_
            refine ks_iload hκ 110 1 dX5_boundEdgeSet_110 rfl ?_
            refine ks_iload_n hκ 112 5 dX5_boundEdgeSet_112 rfl ?_
            refine ks_iand hκ 113 dX5_boundEdgeSet_113 ?_
            refine ks_ior hκ 114 dX5_boundEdgeSet_114 ?_
            refine ks_istore hκ 115 5 [(5, _), (6, _), (8, _), (0, _), (1, _), (2, _), (3, _), (4, _), (7, _)] dX5_boundEdgeSet_115 (by decide) rfl ?_
            refine ks_iload_n hκ 117 6 dX5_boundEdgeSet_117 rfl ?_
            refine ks_iload hκ 118 2 dX5_boundEdgeSet_118 rfl ?_
            refine ks_iconst hκ 120 (-1) dX5_boundEdgeSet_120 kq_im1 ?_
            refine ks_ixor hκ 121 dX5_boundEdgeSet_121 ?_
            refine ks_iand hκ 122 dX5_boundEdgeSet_122 ?_
            refine ks_istore_n hκ 123 3 [(3, _), (5, _), (6, _), (8, _), (0, _), (1, _), (2, _), (4, _), (7, _)] dX5_boundEdgeSet_123 rfl (by decide) rfl ?_
            refine ks_iload hκ 124 7 dX5_boundEdgeSet_124 rfl ?_
            refine ks_iload hκ 126 3 dX5_boundEdgeSet_126 rfl ?_
            refine ks_ior hκ 128 dX5_boundEdgeSet_128 ?_
            refine ks_istore hκ 129 4 [(4, _), (3, _), (5, _), (6, _), (8, _), (0, _), (1, _), (2, _), (7, _)] dX5_boundEdgeSet_129 (by decide) rfl ?_
            refine ks_iinc hκ 131 7 8 (nI (i + 1)) [(7, _), (4, _), (3, _), (5, _), (6, _), (8, _), (0, _), (1, _), (2, _)] dX5_boundEdgeSet_131 rfl (ks_inc1 _) (by decide) rfl ?_
            refine ks_goto hκ 134 14 dX5_boundEdgeSet_134 rfl ?_
            refine ks_pick [6, 7, 8, 2, 1, 3, 4, 0] [(0, _), (1, _), (2, _), (3, _), (4, _), (5, _), (6, _), (7, _)] rfl ?_
            exact ks_cv (ih (i + 1) _ _ _ _  (by omega) (by rw [List.foldl_cons] at hinv; first | (rw [kbS_1 c42] at hinv; exact hinv) | (rw [kbS_2 c42 c93] at hinv; exact hinv) | (rw [kbS_3 c42 c93] at hinv; exact hinv)) (by omega)) rfl rfl rfl
        · skip
          have c42 := (nI_eq (by omega) (by omega)).mp c42
          refine ks_iload hκ 45 7 dX5_boundEdgeSet_45 rfl ?_
          refine ks_iload hκ 47 0 dX5_boundEdgeSet_47 rfl ?_
          refine ks_iload hκ 49 5 dX5_boundEdgeSet_49 rfl ?_
          refine ks_iand hκ 51 dX5_boundEdgeSet_51 ?_
          refine ks_iload hκ 52 6 dX5_boundEdgeSet_52 rfl ?_
          refine ks_iand hκ 54 dX5_boundEdgeSet_54 ?_
          refine ks_ior hκ 55 dX5_boundEdgeSet_55 ?_
          refine ks_istore hκ 56 6 [(6, _), (8, _), (0, _), (1, _), (2, _), (3, _), (4, _), (5, _), (7, _)] dX5_boundEdgeSet_56 (by decide) rfl ?_
          refine ks_iload hκ 58 7 dX5_boundEdgeSet_58 rfl ?_
          refine ks_iload hκ 60 1 dX5_boundEdgeSet_60 rfl ?_
          refine ks_iload hκ 62 6 dX5_boundEdgeSet_62 rfl ?_
          refine ks_iand hκ 64 dX5_boundEdgeSet_64 ?_
          refine ks_ior hκ 65 dX5_boundEdgeSet_65 ?_
          refine ks_istore hκ 66 5 [(5, _), (6, _), (8, _), (0, _), (1, _), (2, _), (3, _), (4, _), (7, _)] dX5_boundEdgeSet_66 (by decide) rfl ?_
          refine ks_iload hκ 68 7 dX5_boundEdgeSet_68 rfl ?_
          refine ks_iload hκ 70 2 dX5_boundEdgeSet_70 rfl ?_
          refine ks_iconst hκ 72 (-1) dX5_boundEdgeSet_72 kq_im1 ?_
          refine ks_ixor hκ 73 dX5_boundEdgeSet_73 ?_
          refine ks_iand hκ 74 dX5_boundEdgeSet_74 ?_
          refine ks_istore hκ 75 4 [(4, _), (5, _), (6, _), (8, _), (0, _), (1, _), (2, _), (3, _), (7, _)] dX5_boundEdgeSet_75 (by decide) rfl ?_
          refine ks_iload_n hκ 77 7 dX5_boundEdgeSet_77 rfl ?_
          refine ks_iload hκ 78 3 dX5_boundEdgeSet_78 rfl ?_
          refine ks_ior hκ 80 dX5_boundEdgeSet_80 ?_
          refine ks_istore_n hκ 81 3 [(3, _), (4, _), (5, _), (6, _), (8, _), (0, _), (1, _), (2, _), (7, _)] dX5_boundEdgeSet_81 rfl (by decide) rfl ?_
          refine ks_goto hκ 82 131 dX5_boundEdgeSet_82 rfl ?_
          refine ks_iinc hκ 131 7 8 (nI (i + 1)) [(7, _), (3, _), (4, _), (5, _), (6, _), (8, _), (0, _), (1, _), (2, _)] dX5_boundEdgeSet_131 rfl (ks_inc1 _) (by decide) rfl ?_
          refine ks_goto hκ 134 14 dX5_boundEdgeSet_134 rfl ?_
          refine ks_pick [6, 7, 8, 1, 2, 3, 4, 0] [(0, _), (1, _), (2, _), (3, _), (4, _), (5, _), (6, _), (7, _)] rfl ?_
          exact ks_cv (ih (i + 1) _ _ _ _  (by omega) (by rw [List.foldl_cons] at hinv; first | (rw [kbS_1 c42] at hinv; exact hinv) | (rw [kbS_2 c42 c93] at hinv; exact hinv) | (rw [kbS_3 c42 c93] at hinv; exact hinv)) (by omega)) rfl rfl rfl
  refine ks_pick [5, 6, 7, 4, 3, 2, 1, 0] [(0, _), (1, _), (2, _), (3, _), (4, _), (5, _), (6, _), (7, _)] rfl ?_
  exact ks_cv (L14 _ 0 _ _ _ _  (Nat.zero_le _) rfl (Nat.lt_succ_self _)) rfl rfl rfl
set_option maxRecDepth 100000 in
set_option maxHeartbeats 4000000 in
theorem c_Yarn_mostKept {g : ks_G} {h : ks_H} {y e a b : Nat} {L : List (Nat × Nat)} (hyarn : kYarn g h y L) (he : e < 15) (ha : a < 6) (hb : b < 6) : ks_Met g (yX5_mostKept, cX5_mostKept, 7, some .int) 1 0 0 [ks_ref g y, .int (nI e), .int (nI a), .int (nI b)] h (ks_Pi (nI (kKept e a b L)) h) := by
  obtain ⟨E, O, hY, hE, hO, hEO, hn, hbd⟩ := hyarn
  refine ks_intro (by decide) (Nat.le_of_ble_eq_true rfl) (fun κ hκ hRt => ?_)
  refine ks_cv (ls := [(0, ks_ref g y), (1, .int (nI e)), (2, .int (nI a)), (3, .int (nI b))]) ?_ rfl rfl rfl
  refine ks_iconst hκ 0 (nI 0) dX5_mostKept_0 kq_i0 ?_
  refine ks_istore hκ 1 4 [(4, _), (0, _), (1, _), (2, _), (3, _)] dX5_mostKept_1 (by decide) rfl ?_
  refine ks_iconst hκ 3 (nI 0) dX5_mostKept_3 kq_i0 ?_
  refine ks_istore hκ 4 5 [(5, _), (4, _), (0, _), (1, _), (2, _), (3, _)] dX5_mostKept_4 (by decide) rfl ?_
  refine ks_iconst hκ 6 (nI 0) dX5_mostKept_6 kq_i0 ?_
  refine ks_istore hκ 7 6 [(6, _), (5, _), (4, _), (0, _), (1, _), (2, _), (3, _)] dX5_mostKept_7 (by decide) rfl ?_
  have L9 : ∀ (fuel : Nat) (i la wu : Nat) (hi : i ≤ L.length) (hla : la ≤ i) (hwu : wu ≤ i) (hinv : max ((L.drop i).foldl (kKeptS e a b) (la, wu)).2 ((L.drop i).foldl (kKeptS e a b) (la, wu)).1 = kKept e a b L) (hfuel : L.length - i < fuel), ks_K κ g 7 h 0 0 9 [(0, ks_ref g y), (1, .int (nI e)), (2, .int (nI a)), (3, .int (nI b)), (4, .int (nI la)), (5, .int (nI wu)), (6, .int (nI i))] [] := by
    intro fuel
    induction fuel with
    | zero => intro i la wu  hi hla hwu hinv hfuel; exact absurd hfuel (Nat.not_lt_zero _)
    | succ fuel ih =>
      intro i la wu  hi hla hwu hinv hfuel
      refine ks_iload hκ 9 6 dX5_mostKept_9 rfl ?_
      refine ks_aload_n hκ 11 0 dX5_mostKept_11 rfl ?_
      refine ks_get hκ 12 dX5_mostKept_12 kf_X5_18 hY rfl ?_
      refine ks_icmp_ge hκ 15 77 dX5_mostKept_15 rfl (fun c15 => ?_) (fun c15 => ?_)
      · skip
        have c15 := (nI_leI (by omega) (by omega)).mp c15
        refine ks_iload hκ 77 5 dX5_mostKept_77 rfl ?_
        refine ks_iload hκ 79 4 dX5_mostKept_79 rfl ?_
        refine ks_maxN hκ 81 dX5_mostKept_81 kj_X5_32 (by omega) (by omega) (by decide) (by decide) (by decide) (Nat.le_of_ble_eq_true rfl) ?_
        refine ks_iret hκ 84 hRt dX5_mostKept_84 (by decide) (by decide) rfl ?_
        exact ⟨by rw [← hinv, kdropN c15]; rfl, rfl⟩
      · skip
        have c15 := mt (nI_leI (by omega) (by omega)).mpr c15
        obtain ⟨⟨e1, o1⟩, hL1⟩ := kget (L := L) (i := i) (by omega)
        obtain ⟨hE1, hO1⟩ := hEO i e1 o1 hL1
        obtain ⟨hb1, hb2⟩ := hbd _ (List.mem_of_getElem? hL1)
        simp only at hb1 hb2
        rw [kdrop hL1] at hinv
        refine ks_aload_n hκ 18 0 dX5_mostKept_18 rfl ?_
        refine ks_get hκ 19 dX5_mostKept_19 kf_X5_9 hY rfl ?_
        refine ks_iload hκ 22 6 dX5_mostKept_22 rfl ?_
        refine ks_iald hκ 24 (i) dX5_mostKept_24 hE rfl (by omega) (by decide) ?_
        refine ks_top (nI e1) hE1 ?_
        refine ks_iload_n hκ 25 1 dX5_mostKept_25 rfl ?_
        refine ks_icmp_eq hκ 26 32 dX5_mostKept_26 rfl (fun c26 => ?_) (fun c26 => ?_)
        · skip
          have c26 := (nI_eq (by omega) (by omega)).mp c26
          refine ks_aload_n hκ 32 0 dX5_mostKept_32 rfl ?_
          refine ks_get hκ 33 dX5_mostKept_33 kf_X5_15 hY rfl ?_
          refine ks_iload hκ 36 6 dX5_mostKept_36 rfl ?_
          refine ks_iald hκ 38 (i) dX5_mostKept_38 hO rfl (by omega) (by decide) ?_
          refine ks_top (nI o1) hO1 ?_
          refine ks_iload_n hκ 39 2 dX5_mostKept_39 rfl ?_
          refine ks_icmp_ne hκ 40 49 dX5_mostKept_40 rfl (fun c40 => ?_) (fun c40 => ?_)
          · skip
            have c40 := mt (nI_eq (by omega) (by omega)).mpr c40
            refine ks_aload_n hκ 49 0 dX5_mostKept_49 rfl ?_
            refine ks_get hκ 50 dX5_mostKept_50 kf_X5_15 hY rfl ?_
            refine ks_iload hκ 53 6 dX5_mostKept_53 rfl ?_
            refine ks_iald hκ 55 (i) dX5_mostKept_55 hO rfl (by omega) (by decide) ?_
            refine ks_top (nI o1) hO1 ?_
            refine ks_iload_n hκ 56 3 dX5_mostKept_56 rfl ?_
            refine ks_icmp_ne hκ 57 71 dX5_mostKept_57 rfl (fun c57 => ?_) (fun c57 => ?_)
            · skip
              have c57 := mt (nI_eq (by omega) (by omega)).mpr c57
              refine ks_iinc hκ 71 6 6 (nI (i + 1)) [(6, _), (0, _), (1, _), (2, _), (3, _), (4, _), (5, _)] dX5_mostKept_71 rfl (ks_inc1 _) (by decide) rfl ?_
              refine ks_goto hκ 74 9 dX5_mostKept_74 rfl ?_
              refine ks_pick [1, 2, 3, 4, 5, 6, 0] [(0, _), (1, _), (2, _), (3, _), (4, _), (5, _), (6, _)] rfl ?_
              exact ks_cv (ih (i + 1) _ _  (by omega) (by omega) (by omega) (by rw [List.foldl_cons] at hinv; first | (rw [kKeptS_0 c26] at hinv; exact hinv) | (rw [kKeptS_1 c26 c40] at hinv; exact hinv) | (rw [kKeptS_2 c26 c40 c57] at hinv; exact hinv) | (rw [kKeptS_3 c26 c40 c57] at hinv; exact hinv)) (by omega)) rfl rfl rfl
            · skip
              have c57 := (nI_eq (by omega) (by omega)).mp c57
              refine ks_iload hκ 60 5 dX5_mostKept_60 rfl ?_
              refine ks_iload hκ 62 4 dX5_mostKept_62 rfl ?_
              refine ks_maxN hκ 64 dX5_mostKept_64 kj_X5_32 (by omega) (by omega) (by decide) (by decide) (by decide) (Nat.le_of_ble_eq_true rfl) ?_
              refine ks_iconst hκ 67 (nI 1) dX5_mostKept_67 kq_i1 ?_
              refine ks_iaddN hκ 68 dX5_mostKept_68 ?_
              refine ks_istore hκ 69 5 [(5, _), (0, _), (1, _), (2, _), (3, _), (4, _), (6, _)] dX5_mostKept_69 (by decide) rfl ?_
              refine ks_iinc hκ 71 6 6 (nI (i + 1)) [(6, _), (5, _), (0, _), (1, _), (2, _), (3, _), (4, _)] dX5_mostKept_71 rfl (ks_inc1 _) (by decide) rfl ?_
              refine ks_goto hκ 74 9 dX5_mostKept_74 rfl ?_
              refine ks_pick [2, 3, 4, 5, 6, 1, 0] [(0, _), (1, _), (2, _), (3, _), (4, _), (5, _), (6, _)] rfl ?_
              exact ks_cv (ih (i + 1) _ _  (by omega) (by omega) (by omega) (by rw [List.foldl_cons] at hinv; first | (rw [kKeptS_0 c26] at hinv; exact hinv) | (rw [kKeptS_1 c26 c40] at hinv; exact hinv) | (rw [kKeptS_2 c26 c40 c57] at hinv; exact hinv) | (rw [kKeptS_3 c26 c40 c57] at hinv; exact hinv)) (by omega)) rfl rfl rfl
          · skip
            have c40 := (nI_eq (by omega) (by omega)).mp c40
            refine ks_iinc hκ 43 4 4 (nI (la + 1)) [(4, _), (0, _), (1, _), (2, _), (3, _), (5, _), (6, _)] dX5_mostKept_43 rfl (ks_inc1 _) (by decide) rfl ?_
            refine ks_goto hκ 46 71 dX5_mostKept_46 rfl ?_
            refine ks_iinc hκ 71 6 6 (nI (i + 1)) [(6, _), (4, _), (0, _), (1, _), (2, _), (3, _), (5, _)] dX5_mostKept_71 rfl (ks_inc1 _) (by decide) rfl ?_
            refine ks_goto hκ 74 9 dX5_mostKept_74 rfl ?_
            refine ks_pick [2, 3, 4, 5, 1, 6, 0] [(0, _), (1, _), (2, _), (3, _), (4, _), (5, _), (6, _)] rfl ?_
            exact ks_cv (ih (i + 1) _ _  (by omega) (by omega) (by omega) (by rw [List.foldl_cons] at hinv; first | (rw [kKeptS_0 c26] at hinv; exact hinv) | (rw [kKeptS_1 c26 c40] at hinv; exact hinv) | (rw [kKeptS_2 c26 c40 c57] at hinv; exact hinv) | (rw [kKeptS_3 c26 c40 c57] at hinv; exact hinv)) (by omega)) rfl rfl rfl
        · skip
          have c26 := mt (nI_eq (by omega) (by omega)).mpr c26
          refine ks_goto hκ 29 71 dX5_mostKept_29 rfl ?_
          refine ks_iinc hκ 71 6 6 (nI (i + 1)) [(6, _), (0, _), (1, _), (2, _), (3, _), (4, _), (5, _)] dX5_mostKept_71 rfl (ks_inc1 _) (by decide) rfl ?_
          refine ks_goto hκ 74 9 dX5_mostKept_74 rfl ?_
          refine ks_pick [1, 2, 3, 4, 5, 6, 0] [(0, _), (1, _), (2, _), (3, _), (4, _), (5, _), (6, _)] rfl ?_
          exact ks_cv (ih (i + 1) _ _  (by omega) (by omega) (by omega) (by rw [List.foldl_cons] at hinv; first | (rw [kKeptS_0 c26] at hinv; exact hinv) | (rw [kKeptS_1 c26 c40] at hinv; exact hinv) | (rw [kKeptS_2 c26 c40 c57] at hinv; exact hinv) | (rw [kKeptS_3 c26 c40 c57] at hinv; exact hinv)) (by omega)) rfl rfl rfl
  refine ks_pick [3, 4, 5, 6, 2, 1, 0] [(0, _), (1, _), (2, _), (3, _), (4, _), (5, _), (6, _)] rfl ?_
  exact ks_cv (L9 _ 0 0 0  (Nat.zero_le _) (Nat.zero_le _) (Nat.zero_le _) rfl (Nat.lt_succ_self _)) rfl rfl rfl
set_option maxRecDepth 100000 in
set_option maxHeartbeats 4000000 in
theorem c_Yarn_fewestGone {g : ks_G} {h : ks_H} {y e a b : Nat} {L : List (Nat × Nat)} (hyarn : kYarn g h y L) (he : e < 15) (ha : a < 6) (hb : b < 6) : ks_Met g (yX5_fewestGone, cX5_fewestGone, 6, some .int) 2 0 0 [ks_ref g y, .int (nI e), .int (nI a), .int (nI b)] h (ks_Pi (kGone e a b L) h) := by
  have hyarn0 := hyarn
  obtain ⟨E, O, hY, hE, hO, hEO, hn, hbd⟩ := hyarn
  refine ks_intro (by decide) (Nat.le_of_ble_eq_true rfl) (fun κ hκ hRt => ?_)
  refine ks_cv (ls := [(0, ks_ref g y), (1, .int (nI e)), (2, .int (nI a)), (3, .int (nI b))]) ?_ rfl rfl rfl
  refine ks_iconst hκ 0 (nI 0) dX5_fewestGone_0 kq_i0 ?_
  refine ks_istore hκ 1 4 [(4, _), (0, _), (1, _), (2, _), (3, _)] dX5_fewestGone_1 (by decide) rfl ?_
  refine ks_iconst hκ 3 (nI 0) dX5_fewestGone_3 kq_i0 ?_
  refine ks_istore hκ 4 5 [(5, _), (4, _), (0, _), (1, _), (2, _), (3, _)] dX5_fewestGone_4 (by decide) rfl ?_
  have L6 : ∀ (fuel : Nat) (i acc : Nat) (hi : i ≤ L.length) (hinv : (L.drop i).foldl (kBothS e a b) acc = kBoth e a b L) (hfuel : L.length - i < fuel), ks_K κ g 6 h 0 0 6 [(0, ks_ref g y), (1, .int (nI e)), (2, .int (nI a)), (3, .int (nI b)), (4, .int (nI acc)), (5, .int (nI i))] [] := by
    intro fuel
    induction fuel with
    | zero => intro i acc  hi hinv hfuel; exact absurd hfuel (Nat.not_lt_zero _)
    | succ fuel ih =>
      intro i acc  hi hinv hfuel
      refine ks_iload hκ 6 5 dX5_fewestGone_6 rfl ?_
      refine ks_aload_n hκ 8 0 dX5_fewestGone_8 rfl ?_
      refine ks_get hκ 9 dX5_fewestGone_9 kf_X5_18 hY rfl ?_
      refine ks_icmp_ge hκ 12 57 dX5_fewestGone_12 rfl (fun c12 => ?_) (fun c12 => ?_)
      · skip
        have c12 := (nI_leI (by omega) (by omega)).mp c12
        have hk1 := kKept_le e a b L
        have hk2 := kKept_le e b a L
        refine ks_iload hκ 57 4 dX5_fewestGone_57 rfl ?_
        refine ks_aload_n hκ 59 0 dX5_fewestGone_59 rfl ?_
        refine ks_iload_n hκ 60 1 dX5_fewestGone_60 rfl ?_
        refine ks_iload_n hκ 61 2 dX5_fewestGone_61 rfl ?_
        refine ks_iload_n hκ 62 3 dX5_fewestGone_62 rfl ?_
        refine ks_pureV3 hκ 63 dX5_fewestGone_63 kc_X5_28 (c_Yarn_mostKept hyarn0 he ha hb) hY rfl (by decide) (Nat.le_of_ble_eq_true rfl) (by decide) (by decide) ?_
        refine ks_aload_n hκ 66 0 dX5_fewestGone_66 rfl ?_
        refine ks_iload_n hκ 67 1 dX5_fewestGone_67 rfl ?_
        refine ks_iload_n hκ 68 3 dX5_fewestGone_68 rfl ?_
        refine ks_iload_n hκ 69 2 dX5_fewestGone_69 rfl ?_
        refine ks_pureV3 hκ 70 dX5_fewestGone_70 kc_X5_28 (c_Yarn_mostKept hyarn0 he hb ha) hY rfl (by decide) (Nat.le_of_ble_eq_true rfl) (by decide) (by decide) ?_
        refine ks_maxN hκ 73 dX5_fewestGone_73 kj_X5_32 (by omega) (by omega) (by decide) (by decide) (by decide) (Nat.le_of_ble_eq_true rfl) ?_
        refine ks_isub hκ 76 dX5_fewestGone_76 ?_
        refine ks_iret hκ 77 hRt dX5_fewestGone_77 (by decide) (by decide) rfl ?_
        refine ⟨?_, rfl⟩
        rw [kdropN c12] at hinv
        have q : acc = kBoth e a b L := hinv
        rw [q]; rfl
      · skip
        have c12 := mt (nI_leI (by omega) (by omega)).mpr c12
        obtain ⟨⟨e1, o1⟩, hL1⟩ := kget (L := L) (i := i) (by omega)
        obtain ⟨hE1, hO1⟩ := hEO i e1 o1 hL1
        obtain ⟨hb1, hb2⟩ := hbd _ (List.mem_of_getElem? hL1)
        simp only at hb1 hb2
        rw [kdrop hL1] at hinv
        refine ks_aload_n hκ 15 0 dX5_fewestGone_15 rfl ?_
        refine ks_get hκ 16 dX5_fewestGone_16 kf_X5_9 hY rfl ?_
        refine ks_iload hκ 19 5 dX5_fewestGone_19 rfl ?_
        refine ks_iald hκ 21 (i) dX5_fewestGone_21 hE rfl (by omega) (by decide) ?_
        refine ks_top (nI e1) hE1 ?_
        refine ks_iload_n hκ 22 1 dX5_fewestGone_22 rfl ?_
        refine ks_icmp_ne hκ 23 51 dX5_fewestGone_23 rfl (fun c23 => ?_) (fun c23 => ?_)
        · skip
          have c23 := mt (nI_eq (by omega) (by omega)).mpr c23
          refine ks_iinc hκ 51 5 5 (nI (i + 1)) [(5, _), (0, _), (1, _), (2, _), (3, _), (4, _)] dX5_fewestGone_51 rfl (ks_inc1 _) (by decide) rfl ?_
          refine ks_goto hκ 54 6 dX5_fewestGone_54 rfl ?_
          refine ks_pick [1, 2, 3, 4, 5, 0] [(0, _), (1, _), (2, _), (3, _), (4, _), (5, _)] rfl ?_
          exact ks_cv (ih (i + 1) _  (by omega) (by clear ih; revert hinv; simp [kBothS, *]) (by omega)) rfl rfl rfl
        · skip
          have c23 := (nI_eq (by omega) (by omega)).mp c23
          refine ks_aload_n hκ 26 0 dX5_fewestGone_26 rfl ?_
          refine ks_get hκ 27 dX5_fewestGone_27 kf_X5_15 hY rfl ?_
          refine ks_iload hκ 30 5 dX5_fewestGone_30 rfl ?_
          refine ks_iald hκ 32 (i) dX5_fewestGone_32 hO rfl (by omega) (by decide) ?_
          refine ks_top (nI o1) hO1 ?_
          refine ks_iload_n hκ 33 2 dX5_fewestGone_33 rfl ?_
          refine ks_icmp_eq hκ 34 48 dX5_fewestGone_34 rfl (fun c34 => ?_) (fun c34 => ?_)
          · skip
            have c34 := (nI_eq (by omega) (by omega)).mp c34
            refine ks_iinc hκ 48 4 4 (nI (acc + 1)) [(4, _), (0, _), (1, _), (2, _), (3, _), (5, _)] dX5_fewestGone_48 rfl (ks_inc1 _) (by decide) rfl ?_
            refine ks_iinc hκ 51 5 5 (nI (i + 1)) [(5, _), (4, _), (0, _), (1, _), (2, _), (3, _)] dX5_fewestGone_51 rfl (ks_inc1 _) (by decide) rfl ?_
            refine ks_goto hκ 54 6 dX5_fewestGone_54 rfl ?_
            refine ks_pick [2, 3, 4, 5, 1, 0] [(0, _), (1, _), (2, _), (3, _), (4, _), (5, _)] rfl ?_
            exact ks_cv (ih (i + 1) _  (by omega) (by clear ih; revert hinv; simp [kBothS, *]) (by omega)) rfl rfl rfl
          · skip
            have c34 := mt (nI_eq (by omega) (by omega)).mpr c34
            refine ks_aload_n hκ 37 0 dX5_fewestGone_37 rfl ?_
            refine ks_get hκ 38 dX5_fewestGone_38 kf_X5_15 hY rfl ?_
            refine ks_iload hκ 41 5 dX5_fewestGone_41 rfl ?_
            refine ks_iald hκ 43 (i) dX5_fewestGone_43 hO rfl (by omega) (by decide) ?_
            refine ks_top (nI o1) hO1 ?_
            refine ks_iload_n hκ 44 3 dX5_fewestGone_44 rfl ?_
            refine ks_icmp_ne hκ 45 51 dX5_fewestGone_45 rfl (fun c45 => ?_) (fun c45 => ?_)
            · skip
              have c45 := mt (nI_eq (by omega) (by omega)).mpr c45
              refine ks_iinc hκ 51 5 5 (nI (i + 1)) [(5, _), (0, _), (1, _), (2, _), (3, _), (4, _)] dX5_fewestGone_51 rfl (ks_inc1 _) (by decide) rfl ?_
              refine ks_goto hκ 54 6 dX5_fewestGone_54 rfl ?_
              refine ks_pick [1, 2, 3, 4, 5, 0] [(0, _), (1, _), (2, _), (3, _), (4, _), (5, _)] rfl ?_
              exact ks_cv (ih (i + 1) _  (by omega) (by clear ih; revert hinv; simp [kBothS, *]) (by omega)) rfl rfl rfl
            · skip
              have c45 := (nI_eq (by omega) (by omega)).mp c45
              refine ks_iinc hκ 48 4 4 (nI (acc + 1)) [(4, _), (0, _), (1, _), (2, _), (3, _), (5, _)] dX5_fewestGone_48 rfl (ks_inc1 _) (by decide) rfl ?_
              refine ks_iinc hκ 51 5 5 (nI (i + 1)) [(5, _), (4, _), (0, _), (1, _), (2, _), (3, _)] dX5_fewestGone_51 rfl (ks_inc1 _) (by decide) rfl ?_
              refine ks_goto hκ 54 6 dX5_fewestGone_54 rfl ?_
              refine ks_pick [2, 3, 4, 5, 1, 0] [(0, _), (1, _), (2, _), (3, _), (4, _), (5, _)] rfl ?_
              exact ks_cv (ih (i + 1) _  (by omega) (by clear ih; revert hinv; simp [kBothS, *]) (by omega)) rfl rfl rfl
  refine ks_pick [2, 3, 4, 5, 1, 0] [(0, _), (1, _), (2, _), (3, _), (4, _), (5, _)] rfl ?_
  exact ks_cv (L6 _ 0 0  (Nat.zero_le _) rfl (Nat.lt_succ_self _)) rfl rfl rfl
set_option maxRecDepth 100000 in
set_option maxHeartbeats 4000000 in
theorem c_Yarn_lay {g : ks_G} {h : ks_H} {y e o : Nat} {L : List (Nat × Nat)} (hyarn : kYarn g h y L) (he : e < 15) (ho : o < 6) (hlt : L.length < 240) : ks_Met g (yX5_lay, cX5_lay, 3, none) 0 0 0 [ks_ref g y, .int (nI e), .int (nI o)] h (ks_Pv (fun h' => kYarn g h' y (L ++ [(e, o)]) ∧ ks_Fr h h' y (y + 3))) := by
  obtain ⟨E, O, hY, hE, hO, hEO, hn, hbd⟩ := hyarn
  refine ks_intro (by decide) (Nat.le_of_ble_eq_true rfl) (fun κ hκ hRt => ?_)
  refine ks_cv (ls := [(0, ks_ref g y), (1, .int (nI e)), (2, .int (nI o))]) ?_ rfl rfl rfl
  have hF : ks_Fr h h y (y + 3) := ks_Fr.rf
  refine ks_aload_n hκ 0 0 dX5_lay_0 rfl ?_
  refine ks_get hκ 1 dX5_lay_1 kf_X5_18 hY rfl ?_
  refine ks_sipush hκ 4 (nI 240) dX5_lay_4 kq_s240 ?_
  refine ks_icmp_lt hκ 7 11 dX5_lay_7 rfl (fun c7 => ?_) (fun c7 => ?_)
  · skip
    have c7 := (nI_ltI (by omega) (by omega)).mp c7
    refine ks_aload_n hκ 11 0 dX5_lay_11 rfl ?_
    refine ks_get hκ 12 dX5_lay_12 kf_X5_9 hY rfl ?_
    refine ks_aload_n hκ 15 0 dX5_lay_15 rfl ?_
    refine ks_get hκ 16 dX5_lay_16 kf_X5_18 hY rfl ?_
    refine ks_iload_n hκ 19 1 dX5_lay_19 rfl ?_
    refine ks_iast hκ 20 (L.length) dX5_lay_20 hE rfl (by omega) (by decide) ?_
    refine ks_gen (fun h1 eh1 => ?_)
    have hY := ks_gn eh1 (by omega) hY
    have hE := ks_gs eh1 hE
    have hO := ks_gn eh1 (by omega) hO
    have hF := ks_Fr.st hF eh1 (by omega) (by omega)
    refine ks_aload_n hκ 21 0 dX5_lay_21 rfl ?_
    refine ks_get hκ 22 dX5_lay_22 kf_X5_15 hY rfl ?_
    refine ks_aload_n hκ 25 0 dX5_lay_25 rfl ?_
    refine ks_get hκ 26 dX5_lay_26 kf_X5_18 hY rfl ?_
    refine ks_iload_n hκ 29 2 dX5_lay_29 rfl ?_
    refine ks_iast hκ 30 (L.length) dX5_lay_30 hO rfl (by omega) (by decide) ?_
    refine ks_gen (fun h2 eh2 => ?_)
    have hY := ks_gn eh2 (by omega) hY
    have hE := ks_gn eh2 (by omega) hE
    have hO := ks_gs eh2 hO
    have hF := ks_Fr.st hF eh2 (by omega) (by omega)
    refine ks_aload_n hκ 31 0 dX5_lay_31 rfl ?_
    refine ks_dup hκ 32 dX5_lay_32 rfl ?_
    refine ks_get hκ 33 dX5_lay_33 kf_X5_18 hY rfl ?_
    refine ks_iconst hκ 36 (nI 1) dX5_lay_36 kq_i1 ?_
    refine ks_iaddN hκ 37 dX5_lay_37 ?_
    refine ks_putS hκ 38 [_, _, _] dX5_lay_38 kf_X5_18 hY rfl rfl (Nat.le_of_ble_eq_true rfl) rfl ?_
    refine ks_gen (fun h3 eh3 => ?_)
    have hY := ks_gs eh3 hY
    have hE := ks_gn eh3 (by omega) hE
    have hO := ks_gn eh3 (by omega) hO
    have hF := ks_Fr.st hF eh3 (by omega) (by omega)
    refine ks_vret hκ 41 hRt dX5_lay_41 (by decide) (by decide) ?_
    exact ⟨rfl, ⟨_, _, by rw [List.length_append]; exact hY, hE, hO, kEO.snoc hEO, by rw [List.length_append]; simp; omega, kbd_snoc hbd he ho⟩, hF⟩
  · exfalso
    have c7 := mt (nI_ltI (by omega) (by omega)).mpr c7
    exact c7 hlt
set_option maxRecDepth 100000 in
set_option maxHeartbeats 4000000 in
theorem c_Yarn_removeTop {g : ks_G} {h : ks_H} {y e o t : Nat} {L : List (Nat × Nat)} (hyarn : kYarn g h y L) (he : e < 15) (ht : L[t]? = some (e, o)) (hlast : ∀ (k : Nat) (p : Nat × Nat), t < k → L[k]? = some p → p.1 ≠ e) : ks_Met g (yX5_removeTop, cX5_removeTop, 4, none) 0 0 0 [ks_ref g y, .int (nI e)] h (ks_Pv (fun h' => kYarn g h' y (L.eraseIdx t) ∧ ks_Fr h h' y (y + 3))) := by
  obtain ⟨E, O, hY, hE, hO, hEO, hn, hbd⟩ := hyarn
  have htl : t < L.length := (List.getElem?_eq_some_iff.mp ht).1
  refine ks_intro (by decide) (Nat.le_of_ble_eq_true rfl) (fun κ hκ hRt => ?_)
  refine ks_cv (ls := [(0, ks_ref g y), (1, .int (nI e))]) ?_ rfl rfl rfl
  have hF : ks_Fr h h y (y + 3) := ks_Fr.rf
  refine ks_aload_n hκ 0 0 dX5_removeTop_0 rfl ?_
  refine ks_get hκ 1 dX5_removeTop_1 kf_X5_18 hY rfl ?_
  refine ks_iconst hκ 4 (nI 1) dX5_removeTop_4 kq_i1 ?_
  refine ks_isubN hκ 5 dX5_removeTop_5 (by omega) ?_
  refine ks_istore_n hκ 6 2 [(2, _), (0, _), (1, _)] dX5_removeTop_6 rfl (by decide) rfl ?_
  have L7 : ∀ (fuel : Nat) (i : Nat) (hi : i < L.length) (hit : t ≤ i) (hfuel : i < fuel), ks_K κ g 4 h 0 0 7 [(0, ks_ref g y), (1, .int (nI e)), (2, .int (nI i))] [] := by
    intro fuel
    induction fuel with
    | zero => intro i  hi hit hfuel; exact absurd hfuel (Nat.not_lt_zero _)
    | succ fuel ih =>
      intro i  hi hit hfuel
      obtain ⟨⟨e1, o1⟩, hL1⟩ := kget (L := L) (i := i) (by omega)
      obtain ⟨hE1, hO1⟩ := hEO i e1 o1 hL1
      obtain ⟨hb1, hb2⟩ := hbd _ (List.mem_of_getElem? hL1)
      simp only at hb1 hb2
      refine ks_iload_n hκ 7 2 dX5_removeTop_7 rfl ?_
      refine ks_if_lt hκ 8 27 dX5_removeTop_8 rfl (fun c8 => ?_) (fun c8 => ?_)
      · skip
        exact absurd c8 (ks_lt0 (by omega))
      · skip
        refine ks_aload_n hκ 11 0 dX5_removeTop_11 rfl ?_
        refine ks_get hκ 12 dX5_removeTop_12 kf_X5_9 hY rfl ?_
        refine ks_iload_n hκ 15 2 dX5_removeTop_15 rfl ?_
        refine ks_iald hκ 16 (i) dX5_removeTop_16 hE rfl (by omega) (by decide) ?_
        refine ks_top (nI e1) hE1 ?_
        refine ks_iload_n hκ 17 1 dX5_removeTop_17 rfl ?_
        refine ks_icmp_eq hκ 18 27 dX5_removeTop_18 rfl (fun c18 => ?_) (fun c18 => ?_)
        · skip
          have c18 := (nI_eq (by omega) (by omega)).mp c18
          have hie : i = t := by
            rcases Nat.lt_or_ge t i with q | q
            · exact absurd c18 (hlast i _ q hL1)
            · omega
          refine ks_iload_n hκ 27 2 dX5_removeTop_27 rfl ?_
          refine ks_if_ge hκ 28 32 dX5_removeTop_28 rfl (fun c28 => ?_) (fun c28 => ?_)
          · skip
            refine ks_iload_n hκ 32 2 dX5_removeTop_32 rfl ?_
            refine ks_iconst hκ 33 (nI 1) dX5_removeTop_33 kq_i1 ?_
            refine ks_iaddN hκ 34 dX5_removeTop_34 ?_
            refine ks_istore_n hκ 35 3 [(3, _), (0, _), (1, _), (2, _)] dX5_removeTop_35 rfl (by decide) rfl ?_
            have L36 : ∀ (fuel : Nat) (c : Nat) (E1 O1 : Nat → Int32) (hh : ks_H) (hY : hh[y]? = some (ks_O 5 [ks_ref g (y + 1), ks_ref g (y + 2), .int (nI L.length)])) (hE : hh[y + 1]? = some (ks_I g 240 E1)) (hO : hh[y + 2]? = some (ks_I g 240 O1)) (hF : ks_Fr h hh y (y + 3)) (hc : c + 1 ≤ L.length) (hct : t ≤ c) (hmid : kMid E1 O1 L (L.eraseIdx t) c (c + 1)) (hfuel : L.length - c < fuel), ks_K κ g 4 hh 0 0 36 [(0, ks_ref g y), (1, .int (nI e)), (3, .int (nI (c + 1)))] [] := by
              intro fuel
              induction fuel with
              | zero => intro c E1 O1 hh hY hE hO hF hc hct hmid hfuel; exact absurd hfuel (Nat.not_lt_zero _)
              | succ fuel ih =>
                intro c E1 O1 hh hY hE hO hF hc hct hmid hfuel
                refine ks_iload_n hκ 36 2 dX5_removeTop_36 rfl ?_
                refine ks_aload_n hκ 37 0 dX5_removeTop_37 rfl ?_
                refine ks_get hκ 38 dX5_removeTop_38 kf_X5_18 hY rfl ?_
                refine ks_icmp_ge hκ 41 78 dX5_removeTop_41 rfl (fun c41 => ?_) (fun c41 => ?_)
                · skip
                  have c41 := (nI_leI (by omega) (by omega)).mp c41
                  have hcn : c + 1 = L.length := by omega
                  refine ks_aload_n hκ 78 0 dX5_removeTop_78 rfl ?_
                  refine ks_dup hκ 79 dX5_removeTop_79 rfl ?_
                  refine ks_get hκ 80 dX5_removeTop_80 kf_X5_18 hY rfl ?_
                  refine ks_iconst hκ 83 (nI 1) dX5_removeTop_83 kq_i1 ?_
                  refine ks_isubN hκ 84 dX5_removeTop_84 (by omega) ?_
                  refine ks_putS hκ 85 [_, _, _] dX5_removeTop_85 kf_X5_18 hY rfl rfl (Nat.le_of_ble_eq_true rfl) rfl ?_
                  refine ks_gen (fun h1 eh1 => ?_)
                  have hY := ks_gs eh1 hY
                  have hE := ks_gn eh1 (by omega) hE
                  have hO := ks_gn eh1 (by omega) hO
                  have hF := ks_Fr.st hF eh1 (by omega) (by omega)
                  refine ks_vret hκ 88 hRt dX5_removeTop_88 (by decide) (by decide) ?_
                  exact ⟨rfl, ⟨_, _, by rw [List.length_eraseIdx_of_lt htl]; exact hY, hE, hO, fun k e3 o3 hk => hmid.1 k e3 o3 (by have := (List.getElem?_eq_some_iff.mp hk).1; rw [List.length_eraseIdx_of_lt htl] at this; omega) hk, by rw [List.length_eraseIdx_of_lt htl]; omega, kbd_erase hbd⟩, hF⟩
                · skip
                  have c41 := mt (nI_leI (by omega) (by omega)).mpr c41
                  obtain ⟨⟨e2, o2⟩, hL2⟩ := kget (L := L) (i := c + 1) (by omega)
                  refine ks_aload_n hκ 44 0 dX5_removeTop_44 rfl ?_
                  refine ks_get hκ 45 dX5_removeTop_45 kf_X5_9 hY rfl ?_
                  refine ks_iload_n hκ 48 2 dX5_removeTop_48 rfl ?_
                  refine ks_iconst hκ 49 (nI 1) dX5_removeTop_49 kq_i1 ?_
                  refine ks_isubN hκ 50 dX5_removeTop_50 (by omega) ?_
                  refine ks_top (nI c) (by rw [Nat.add_sub_cancel]) ?_
                  refine ks_aload_n hκ 51 0 dX5_removeTop_51 rfl ?_
                  refine ks_get hκ 52 dX5_removeTop_52 kf_X5_9 hY rfl ?_
                  refine ks_iload_n hκ 55 2 dX5_removeTop_55 rfl ?_
                  refine ks_iald hκ 56 ((c + 1)) dX5_removeTop_56 hE rfl (by omega) (by decide) ?_
                  refine ks_iast hκ 57 (c) dX5_removeTop_57 hE rfl (by omega) (by decide) ?_
                  refine ks_gen (fun h2 eh2 => ?_)
                  have hY := ks_gn eh2 (by omega) hY
                  have hE := ks_gs eh2 hE
                  have hO := ks_gn eh2 (by omega) hO
                  have hF := ks_Fr.st hF eh2 (by omega) (by omega)
                  refine ks_aload_n hκ 58 0 dX5_removeTop_58 rfl ?_
                  refine ks_get hκ 59 dX5_removeTop_59 kf_X5_15 hY rfl ?_
                  refine ks_iload_n hκ 62 2 dX5_removeTop_62 rfl ?_
                  refine ks_iconst hκ 63 (nI 1) dX5_removeTop_63 kq_i1 ?_
                  refine ks_isubN hκ 64 dX5_removeTop_64 (by omega) ?_
                  refine ks_top (nI c) (by rw [Nat.add_sub_cancel]) ?_
                  refine ks_aload_n hκ 65 0 dX5_removeTop_65 rfl ?_
                  refine ks_get hκ 66 dX5_removeTop_66 kf_X5_15 hY rfl ?_
                  refine ks_iload_n hκ 69 2 dX5_removeTop_69 rfl ?_
                  refine ks_iald hκ 70 ((c + 1)) dX5_removeTop_70 hO rfl (by omega) (by decide) ?_
                  refine ks_iast hκ 71 (c) dX5_removeTop_71 hO rfl (by omega) (by decide) ?_
                  refine ks_gen (fun h3 eh3 => ?_)
                  have hY := ks_gn eh3 (by omega) hY
                  have hE := ks_gn eh3 (by omega) hE
                  have hO := ks_gs eh3 hO
                  have hF := ks_Fr.st hF eh3 (by omega) (by omega)
                  refine ks_iinc hκ 72 3 2 (nI ((c + 1) + 1)) [(3, _), (0, _), (1, _)] dX5_removeTop_72 rfl (ks_inc1 _) (by decide) rfl ?_
                  refine ks_goto hκ 75 36 dX5_removeTop_75 rfl ?_
                  refine ks_pick [1, 2, 0] [(0, _), (1, _), (3, _)] rfl ?_
                  exact ks_cv (ih (c + 1) _ _ h3 hY hE hO hF (by omega) (by omega) (hmid.step (by omega) hL2 (by rw [List.getElem?_eraseIdx, if_neg (by omega)]; exact hL2)) (by omega)) rfl rfl rfl
            refine ks_pick [1, 2, 0] [(0, _), (1, _), (3, _)] rfl ?_
            exact ks_cv (L36 _ i _ _ h hY hE hO hF (by omega) (by omega) (hie ▸ kMid.start hEO) (Nat.lt_succ_self _)) rfl rfl rfl
          · skip
            exact absurd (ks_ge0 (by omega)) c28
        · skip
          have c18 := mt (nI_eq (by omega) (by omega)).mpr c18
          have hie : i ≠ t := by
            rintro rfl
            rw [ht] at hL1
            simp at hL1
            omega
          refine ks_iinc hκ 21 2 2 (nI (i - 1)) [(2, _), (0, _), (1, _)] dX5_removeTop_21 rfl (ks_dec1 (by omega)) (by decide) rfl ?_
          refine ks_goto hκ 24 7 dX5_removeTop_24 rfl ?_
          refine ks_pick [1, 2, 0] [(0, _), (1, _), (2, _)] rfl ?_
          exact ks_cv (ih (i - 1)  (by omega) (by omega) (by omega)) rfl rfl rfl
  refine ks_pick [1, 2, 0] [(0, _), (1, _), (2, _)] rfl ?_
  exact ks_cv (L7 _ (L.length - 1)  (by omega) (by omega) (Nat.lt_succ_self _)) rfl rfl rfl
set_option maxRecDepth 100000 in
set_option maxHeartbeats 4000000 in
theorem c_Yarn_removeAll {g : ks_G} {h : ks_H} {y e o : Nat} {L : List (Nat × Nat)} (hyarn : kYarn g h y L) (he : e < 15) (ho : o < 6) : ks_Met g (yX5_removeAll, cX5_removeAll, 5, some .int) 0 0 0 [ks_ref g y, .int (nI e), .int (nI o)] h (ks_Ph (fun r h' => r = nI (L.length - (kCut e o L).length) ∧ kYarn g h' y (kCut e o L) ∧ ks_Fr h h' y (y + 3))) := by
  obtain ⟨E, O, hY, hE, hO, hEO, hn, hbd⟩ := hyarn
  refine ks_intro (by decide) (Nat.le_of_ble_eq_true rfl) (fun κ hκ hRt => ?_)
  refine ks_cv (ls := [(0, ks_ref g y), (1, .int (nI e)), (2, .int (nI o))]) ?_ rfl rfl rfl
  have hF : ks_Fr h h y (y + 3) := ks_Fr.rf
  refine ks_iconst hκ 0 (nI 0) dX5_removeAll_0 kq_i0 ?_
  refine ks_istore_n hκ 1 3 [(3, _), (0, _), (1, _), (2, _)] dX5_removeAll_1 rfl (by decide) rfl ?_
  refine ks_iconst hκ 2 (nI 0) dX5_removeAll_2 kq_i0 ?_
  refine ks_istore hκ 3 4 [(4, _), (3, _), (0, _), (1, _), (2, _)] dX5_removeAll_3 (by decide) rfl ?_
  have L5 : ∀ (fuel : Nat) (i c : Nat) (E1 O1 : Nat → Int32) (hh : ks_H) (hY : hh[y]? = some (ks_O 5 [ks_ref g (y + 1), ks_ref g (y + 2), .int (nI L.length)])) (hE : hh[y + 1]? = some (ks_I g 240 E1)) (hO : hh[y + 2]? = some (ks_I g 240 O1)) (hF : ks_Fr h hh y (y + 3)) (hi : i ≤ L.length) (hc : c = (kCut e o (L.take i)).length) (hmid : kMid E1 O1 L (kCut e o L) c i) (hfuel : L.length - i < fuel), ks_K κ g 5 hh 0 0 5 [(0, ks_ref g y), (1, .int (nI e)), (2, .int (nI o)), (3, .int (nI c)), (4, .int (nI i))] [] := by
    intro fuel
    induction fuel with
    | zero => intro i c E1 O1 hh hY hE hO hF hi hc hmid hfuel; exact absurd hfuel (Nat.not_lt_zero _)
    | succ fuel ih =>
      intro i c E1 O1 hh hY hE hO hF hi hc hmid hfuel
      have hci : c ≤ i := hc ▸ kCut_tle
      refine ks_iload hκ 5 4 dX5_removeAll_5 rfl ?_
      refine ks_aload_n hκ 7 0 dX5_removeAll_7 rfl ?_
      refine ks_get hκ 8 dX5_removeAll_8 kf_X5_18 hY rfl ?_
      refine ks_icmp_ge hκ 11 74 dX5_removeAll_11 rfl (fun c11 => ?_) (fun c11 => ?_)
      · skip
        have c11 := (nI_leI (by omega) (by omega)).mp c11
        have hin : i = L.length := by omega
        refine ks_aload_n hκ 74 0 dX5_removeAll_74 rfl ?_
        refine ks_get hκ 75 dX5_removeAll_75 kf_X5_18 hY rfl ?_
        refine ks_iload_n hκ 78 3 dX5_removeAll_78 rfl ?_
        refine ks_isubN hκ 79 dX5_removeAll_79 (by omega) ?_
        refine ks_istore hκ 80 4 [(4, _), (0, _), (1, _), (2, _), (3, _)] dX5_removeAll_80 (by decide) rfl ?_
        refine ks_aload_n hκ 82 1 dX5_removeAll_82 rfl ?_
        refine ks_iload_n hκ 83 4 dX5_removeAll_83 rfl ?_
        refine ks_putS hκ 84 [_, _, _] dX5_removeAll_84 kf_X5_18 hY rfl rfl (Nat.le_of_ble_eq_true rfl) rfl ?_
        refine ks_gen (fun h1 eh1 => ?_)
        have hY := ks_gs eh1 hY
        have hE := ks_gn eh1 (by omega) hE
        have hO := ks_gn eh1 (by omega) hO
        have hF := ks_Fr.st hF eh1 (by omega) (by omega)
        refine ks_iload hκ 87 0 dX5_removeAll_87 rfl ?_
        refine ks_iret hκ 89 hRt dX5_removeAll_89 (by decide) (by decide) rfl ?_
        subst hin
        rw [List.take_length] at hc
        exact ⟨_, rfl, by rw [hc], ⟨_, _, hc ▸ hY, hE, hO, fun k e3 o3 hk => hmid.1 k e3 o3 (by have := (List.getElem?_eq_some_iff.mp hk).1; omega) hk, by have := kCut_le e o L; omega, fun p hp => hbd p (List.mem_filter.mp hp).1⟩, hF⟩
      · skip
        have c11 := mt (nI_leI (by omega) (by omega)).mpr c11
        obtain ⟨⟨e1, o1⟩, hL1⟩ := kget (L := L) (i := i) (by omega)
        obtain ⟨hE1, hO1⟩ := hmid.2 i e1 o1 (Nat.le_refl _) hL1
        obtain ⟨hb1, hb2⟩ := hbd _ (List.mem_of_getElem? hL1)
        simp only at hb1 hb2
        refine ks_aload_n hκ 14 0 dX5_removeAll_14 rfl ?_
        refine ks_get hκ 15 dX5_removeAll_15 kf_X5_9 hY rfl ?_
        refine ks_iload hκ 18 4 dX5_removeAll_18 rfl ?_
        refine ks_iald hκ 20 (i) dX5_removeAll_20 hE rfl (by omega) (by decide) ?_
        refine ks_top (nI e1) hE1 ?_
        refine ks_iload_n hκ 21 1 dX5_removeAll_21 rfl ?_
        refine ks_icmp_ne hκ 22 39 dX5_removeAll_22 rfl (fun c22 => ?_) (fun c22 => ?_)
        · skip
          have c22 := mt (nI_eq (by omega) (by omega)).mpr c22
          have hkeep : kNot e o (e1, o1) = true := by simp [kNot, c22]
          refine ks_aload_n hκ 39 0 dX5_removeAll_39 rfl ?_
          refine ks_get hκ 40 dX5_removeAll_40 kf_X5_9 hY rfl ?_
          refine ks_iload_n hκ 43 3 dX5_removeAll_43 rfl ?_
          refine ks_aload_n hκ 44 0 dX5_removeAll_44 rfl ?_
          refine ks_get hκ 45 dX5_removeAll_45 kf_X5_9 hY rfl ?_
          refine ks_iload hκ 48 4 dX5_removeAll_48 rfl ?_
          refine ks_iald hκ 50 (i) dX5_removeAll_50 hE rfl (by omega) (by decide) ?_
          refine ks_iast hκ 51 (c) dX5_removeAll_51 hE rfl (by omega) (by decide) ?_
          refine ks_gen (fun h2 eh2 => ?_)
          have hY := ks_gn eh2 (by omega) hY
          have hE := ks_gs eh2 hE
          have hO := ks_gn eh2 (by omega) hO
          have hF := ks_Fr.st hF eh2 (by omega) (by omega)
          refine ks_aload_n hκ 52 0 dX5_removeAll_52 rfl ?_
          refine ks_get hκ 53 dX5_removeAll_53 kf_X5_15 hY rfl ?_
          refine ks_iload_n hκ 56 3 dX5_removeAll_56 rfl ?_
          refine ks_aload_n hκ 57 0 dX5_removeAll_57 rfl ?_
          refine ks_get hκ 58 dX5_removeAll_58 kf_X5_15 hY rfl ?_
          refine ks_iload hκ 61 4 dX5_removeAll_61 rfl ?_
          refine ks_iald hκ 63 (i) dX5_removeAll_63 hO rfl (by omega) (by decide) ?_
          refine ks_iast hκ 64 (c) dX5_removeAll_64 hO rfl (by omega) (by decide) ?_
          refine ks_gen (fun h3 eh3 => ?_)
          have hY := ks_gn eh3 (by omega) hY
          have hE := ks_gn eh3 (by omega) hE
          have hO := ks_gs eh3 hO
          have hF := ks_Fr.st hF eh3 (by omega) (by omega)
          refine ks_iinc hκ 65 3 3 (nI (c + 1)) [(3, _), (0, _), (1, _), (2, _), (4, _)] dX5_removeAll_65 rfl (ks_inc1 _) (by decide) rfl ?_
          refine ks_iinc hκ 68 4 4 (nI (i + 1)) [(4, _), (3, _), (0, _), (1, _), (2, _)] dX5_removeAll_68 rfl (ks_inc1 _) (by decide) rfl ?_
          refine ks_goto hκ 71 5 dX5_removeAll_71 rfl ?_
          refine ks_pick [2, 3, 4, 1, 0] [(0, _), (1, _), (2, _), (3, _), (4, _)] rfl ?_
          exact ks_cv (ih (i + 1) (c + 1) _ _ h3 hY hE hO hF (by omega) (by rw [kCut_take hL1, if_pos hkeep, List.length_append, ← hc]; rfl) (hmid.step (by omega) hL1 (hc ▸ kCut_at hL1 hkeep)) (by omega)) rfl rfl rfl
        · skip
          have c22 := (nI_eq (by omega) (by omega)).mp c22
          refine ks_aload_n hκ 25 0 dX5_removeAll_25 rfl ?_
          refine ks_get hκ 26 dX5_removeAll_26 kf_X5_15 hY rfl ?_
          refine ks_iload hκ 29 4 dX5_removeAll_29 rfl ?_
          refine ks_iald hκ 31 (i) dX5_removeAll_31 hO rfl (by omega) (by decide) ?_
          refine ks_top (nI o1) hO1 ?_
          refine ks_iload_n hκ 32 2 dX5_removeAll_32 rfl ?_
          refine ks_icmp_ne hκ 33 39 dX5_removeAll_33 rfl (fun c33 => ?_) (fun c33 => ?_)
          · skip
            have c33 := mt (nI_eq (by omega) (by omega)).mpr c33
            have hkeep : kNot e o (e1, o1) = true := by simp [kNot, c33]
            refine ks_aload_n hκ 39 0 dX5_removeAll_39 rfl ?_
            refine ks_get hκ 40 dX5_removeAll_40 kf_X5_9 hY rfl ?_
            refine ks_iload_n hκ 43 3 dX5_removeAll_43 rfl ?_
            refine ks_aload_n hκ 44 0 dX5_removeAll_44 rfl ?_
            refine ks_get hκ 45 dX5_removeAll_45 kf_X5_9 hY rfl ?_
            refine ks_iload hκ 48 4 dX5_removeAll_48 rfl ?_
            refine ks_iald hκ 50 (i) dX5_removeAll_50 hE rfl (by omega) (by decide) ?_
            refine ks_iast hκ 51 (c) dX5_removeAll_51 hE rfl (by omega) (by decide) ?_
            refine ks_gen (fun h4 eh4 => ?_)
            have hY := ks_gn eh4 (by omega) hY
            have hE := ks_gs eh4 hE
            have hO := ks_gn eh4 (by omega) hO
            have hF := ks_Fr.st hF eh4 (by omega) (by omega)
            refine ks_aload_n hκ 52 0 dX5_removeAll_52 rfl ?_
            refine ks_get hκ 53 dX5_removeAll_53 kf_X5_15 hY rfl ?_
            refine ks_iload_n hκ 56 3 dX5_removeAll_56 rfl ?_
            refine ks_aload_n hκ 57 0 dX5_removeAll_57 rfl ?_
            refine ks_get hκ 58 dX5_removeAll_58 kf_X5_15 hY rfl ?_
            refine ks_iload hκ 61 4 dX5_removeAll_61 rfl ?_
            refine ks_iald hκ 63 (i) dX5_removeAll_63 hO rfl (by omega) (by decide) ?_
            refine ks_iast hκ 64 (c) dX5_removeAll_64 hO rfl (by omega) (by decide) ?_
            refine ks_gen (fun h5 eh5 => ?_)
            have hY := ks_gn eh5 (by omega) hY
            have hE := ks_gn eh5 (by omega) hE
            have hO := ks_gs eh5 hO
            have hF := ks_Fr.st hF eh5 (by omega) (by omega)
            refine ks_iinc hκ 65 3 3 (nI (c + 1)) [(3, _), (0, _), (1, _), (2, _), (4, _)] dX5_removeAll_65 rfl (ks_inc1 _) (by decide) rfl ?_
            refine ks_iinc hκ 68 4 4 (nI (i + 1)) [(4, _), (3, _), (0, _), (1, _), (2, _)] dX5_removeAll_68 rfl (ks_inc1 _) (by decide) rfl ?_
            refine ks_goto hκ 71 5 dX5_removeAll_71 rfl ?_
            refine ks_pick [2, 3, 4, 1, 0] [(0, _), (1, _), (2, _), (3, _), (4, _)] rfl ?_
            exact ks_cv (ih (i + 1) (c + 1) _ _ h5 hY hE hO hF (by omega) (by rw [kCut_take hL1, if_pos hkeep, List.length_append, ← hc]; rfl) (hmid.step (by omega) hL1 (hc ▸ kCut_at hL1 hkeep)) (by omega)) rfl rfl rfl
          · skip
            have c33 := (nI_eq (by omega) (by omega)).mp c33
            refine ks_goto hκ 36 68 dX5_removeAll_36 rfl ?_
            refine ks_iinc hκ 68 4 4 (nI (i + 1)) [(4, _), (0, _), (1, _), (2, _), (3, _)] dX5_removeAll_68 rfl (ks_inc1 _) (by decide) rfl ?_
            refine ks_goto hκ 71 5 dX5_removeAll_71 rfl ?_
            refine ks_pick [1, 2, 3, 4, 0] [(0, _), (1, _), (2, _), (3, _), (4, _)] rfl ?_
            exact ks_cv (ih (i + 1) c _ _ hh hY hE hO hF (by omega) (by rw [kCut_take hL1, if_neg (by simp [kNot, c22, c33])]; exact hc) hmid.skip (by omega)) rfl rfl rfl
  refine ks_pick [2, 3, 4, 1, 0] [(0, _), (1, _), (2, _), (3, _), (4, _)] rfl ?_
  exact ks_cv (L5 _ 0 0 _ _ h hY hE hO hF (Nat.zero_le _) rfl ⟨fun k e o hk => absurd hk (Nat.not_lt_zero _), fun k e o _ => hEO k e o⟩ (Nat.lt_succ_self _)) rfl rfl rfl
set_option maxRecDepth 100000 in
set_option maxHeartbeats 4000000 in
theorem c_Yarn_copyFrom {g : ks_G} {h : ks_H} {y z : Nat} {L L2 : List (Nat × Nat)} (hyarn : kYarn g h y L) (hother : kYarn g h z L2) (hap : y + 3 ≤ z ∨ z + 3 ≤ y) : ks_Met g (yX5_copyFrom, cX5_copyFrom, 2, none) 1 0 0 [ks_ref g y, ks_ref g z] h (ks_Pv (fun h' => kYarn g h' y L2 ∧ ks_Fr h h' y (y + 3))) := by
  obtain ⟨E, O, hY, hE, hO, hEO, hn, hbd⟩ := hyarn
  obtain ⟨E2, O2, hY2, hE2, hO2, hEO2, hn2, hbd2⟩ := hother
  refine ks_intro (by decide) (Nat.le_of_ble_eq_true rfl) (fun κ hκ hRt => ?_)
  refine ks_cv (ls := [(0, ks_ref g y), (1, ks_ref g z)]) ?_ rfl rfl rfl
  have hF : ks_Fr h h y (y + 3) := ks_Fr.rf
  refine ks_aload_n hκ 0 0 dX5_copyFrom_0 rfl ?_
  refine ks_aload_n hκ 1 1 dX5_copyFrom_1 rfl ?_
  refine ks_get hκ 2 dX5_copyFrom_2 kf_X5_18 hY2 rfl ?_
  refine ks_putS hκ 5 [_, _, _] dX5_copyFrom_5 kf_X5_18 hY rfl rfl (Nat.le_of_ble_eq_true rfl) rfl ?_
  refine ks_gen (fun h1 eh1 => ?_)
  have hY := ks_gs eh1 hY
  have hE := ks_gn eh1 (by omega) hE
  have hO := ks_gn eh1 (by omega) hO
  have hY2 := ks_gn eh1 (by omega) hY2
  have hE2 := ks_gn eh1 (by omega) hE2
  have hO2 := ks_gn eh1 (by omega) hO2
  have hF := ks_Fr.st hF eh1 (by omega) (by omega)
  refine ks_aload_n hκ 8 1 dX5_copyFrom_8 rfl ?_
  refine ks_get hκ 9 dX5_copyFrom_9 kf_X5_9 hY2 rfl ?_
  refine ks_iconst hκ 12 (nI 0) dX5_copyFrom_12 kq_i0 ?_
  refine ks_aload_n hκ 13 0 dX5_copyFrom_13 rfl ?_
  refine ks_get hκ 14 dX5_copyFrom_14 kf_X5_9 hY rfl ?_
  refine ks_iconst hκ 17 (nI 0) dX5_copyFrom_17 kq_i0 ?_
  refine ks_aload_n hκ 18 0 dX5_copyFrom_18 rfl ?_
  refine ks_get hκ 19 dX5_copyFrom_19 kf_X5_18 hY rfl ?_
  refine ks_acopy hκ 22 (L2.length) dX5_copyFrom_22 kj_X5_22 ku_cn ku_cs ku_ci (by decide) (Nat.le_of_ble_eq_true rfl) hE2 hE rfl rfl rfl (by omega) (by omega) (by omega) ?_
  refine ks_gen (fun h2 eh2 => ?_)
  have hY := ks_gn eh2 (by omega) hY
  have hE := ks_gs eh2 hE
  have hO := ks_gn eh2 (by omega) hO
  have hY2 := ks_gn eh2 (by omega) hY2
  have hE2 := ks_gn eh2 (by omega) hE2
  have hO2 := ks_gn eh2 (by omega) hO2
  have hF := ks_Fr.st hF eh2 (by omega) (by omega)
  refine ks_aload_n hκ 25 1 dX5_copyFrom_25 rfl ?_
  refine ks_get hκ 26 dX5_copyFrom_26 kf_X5_15 hY2 rfl ?_
  refine ks_iconst hκ 29 (nI 0) dX5_copyFrom_29 kq_i0 ?_
  refine ks_aload_n hκ 30 0 dX5_copyFrom_30 rfl ?_
  refine ks_get hκ 31 dX5_copyFrom_31 kf_X5_15 hY rfl ?_
  refine ks_iconst hκ 34 (nI 0) dX5_copyFrom_34 kq_i0 ?_
  refine ks_aload_n hκ 35 0 dX5_copyFrom_35 rfl ?_
  refine ks_get hκ 36 dX5_copyFrom_36 kf_X5_18 hY rfl ?_
  refine ks_acopy hκ 39 (L2.length) dX5_copyFrom_39 kj_X5_22 ku_cn ku_cs ku_ci (by decide) (Nat.le_of_ble_eq_true rfl) hO2 hO rfl rfl rfl (by omega) (by omega) (by omega) ?_
  refine ks_gen (fun h3 eh3 => ?_)
  have hY := ks_gn eh3 (by omega) hY
  have hE := ks_gn eh3 (by omega) hE
  have hO := ks_gs eh3 hO
  have hY2 := ks_gn eh3 (by omega) hY2
  have hE2 := ks_gn eh3 (by omega) hE2
  have hO2 := ks_gn eh3 (by omega) hO2
  have hF := ks_Fr.st hF eh3 (by omega) (by omega)
  refine ks_vret hκ 42 hRt dX5_copyFrom_42 (by decide) (by decide) ?_
  refine ⟨rfl, ⟨_, _, hY, hE, hO, fun k e o hk => ?_, hn2, hbd2⟩, hF⟩
  have hkl := (List.getElem?_eq_some_iff.mp hk).1
  rw [pk_cpy_in (Nat.zero_le _) (by omega), pk_cpy_in (Nat.zero_le _) (by omega), Nat.sub_zero, Nat.zero_add]
  exact hEO2 k e o hk
set_option maxRecDepth 100000 in
set_option maxHeartbeats 4000000 in
theorem c_Yarn_init {g : ks_G} {h : ks_H} {y : Nat} (hY : h[y]? = some (ks_O 5 [.null, .null, .int 0])) (hlen : h.length = y + 1) : ks_Met g (yX5_init, cX5_init, 1, none) 1 2 480 [ks_ref g y] h (ks_Pv (fun h' => kYarn g h' y [] ∧ ks_Ex h h' y ∧ h'.length = y + 3)) := by
  refine ks_intro (by decide) (Nat.le_of_ble_eq_true rfl) (fun κ hκ hRt => ?_)
  refine ks_cv (ls := [(0, ks_ref g y)]) ?_ rfl rfl rfl
  have hX : ks_Ex h h y := ks_Ex.rf
  refine ks_aload_n hκ 0 0 dX5_init_0 rfl ?_
  refine ks_objInit hκ 1 dX5_init_1 kj_X5_3 ku_oi ku_oc (by decide) (Nat.le_of_ble_eq_true rfl) ?_
  refine ks_aload_n hκ 4 0 dX5_init_4 rfl ?_
  refine ks_sipush hκ 5 (nI 240) dX5_init_5 kq_s240 ?_
  refine ks_newiB hκ 8 hlen dX5_init_8 (by decide) (by decide) (by decide) (fun h1 eh1 => ?_)
  have hY := ks_gb eh1 hY
  have hE := ks_ga eh1 hlen
  have hX := ks_Ex.ps hX eh1 (by omega)
  have hlen := ks_gl eh1 hlen
  refine ks_putT hκ 10 [_, _, _] dX5_init_10 rfl kf_X5_9 hY rfl rfl (Nat.le_of_ble_eq_true rfl) rfl ?_
  refine ks_gen (fun h2 eh2 => ?_)
  have hY := ks_gs eh2 hY
  have hE := ks_gn eh2 (by omega) hE
  have hX := ks_Ex.st hX eh2 (by omega)
  have hlen := ks_gz eh2 hlen
  refine ks_aload_n hκ 13 0 dX5_init_13 rfl ?_
  refine ks_sipush hκ 14 (nI 240) dX5_init_14 kq_s240 ?_
  refine ks_newiB hκ 17 hlen dX5_init_17 (by decide) (by decide) (by decide) (fun h3 eh3 => ?_)
  have hY := ks_gb eh3 hY
  have hE := ks_gb eh3 hE
  have hO := ks_ga eh3 hlen
  have hX := ks_Ex.ps hX eh3 (by omega)
  have hlen := ks_gl eh3 hlen
  refine ks_putT hκ 19 [_, _, _] dX5_init_19 rfl kf_X5_15 hY rfl rfl (Nat.le_of_ble_eq_true rfl) rfl ?_
  refine ks_gen (fun h4 eh4 => ?_)
  have hY := ks_gs eh4 hY
  have hE := ks_gn eh4 (by omega) hE
  have hO := ks_gn eh4 (by omega) hO
  have hX := ks_Ex.st hX eh4 (by omega)
  have hlen := ks_gz eh4 hlen
  refine ks_aload_n hκ 22 0 dX5_init_22 rfl ?_
  refine ks_iconst hκ 23 (nI 0) dX5_init_23 kq_i0 ?_
  refine ks_putS hκ 24 [_, _, _] dX5_init_24 kf_X5_18 hY rfl rfl (Nat.le_of_ble_eq_true rfl) rfl ?_
  refine ks_gen (fun h5 eh5 => ?_)
  have hY := ks_gs eh5 hY
  have hE := ks_gn eh5 (by omega) hE
  have hO := ks_gn eh5 (by omega) hO
  have hX := ks_Ex.st hX eh5 (by omega)
  have hlen := ks_gz eh5 hlen
  refine ks_vret hκ 27 hRt dX5_init_27 (by decide) (by decide) ?_
  exact ⟨rfl, ⟨_, _, hY, hE, hO, fun k e o hk => by simp at hk, Nat.zero_le _, fun p hp => by simp at hp⟩, hX, hlen⟩
end
