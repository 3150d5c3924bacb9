section
-- ===== PART A: goes FIRST, ahead of the names: the tables' words, and 'selects' of the private methods out of them =====
/-- a private method of a class that the tables say can be made, by its rows of tables_1 -/
def lw_okq (q : MethodName × Nat) : Prop := (q.1.cls ≠ "java/lang/invoke/MethodHandle" ∧ q.1.cls ≠ "java/lang/invoke/VarHandle") ∧ Cond.instantiable q.1.cls q.2 ∈ tables_1 ∧ Cond.privateMethod q.1 ∈ tables_1 ∧ Cond.instanceMethod q.1 ∈ tables_1
theorem lw_p0 : lw_okq (⟨"KittenStairs", "settled", "(I)I"⟩, 6) := ⟨⟨by decide +kernel, by decide +kernel⟩, List.mem_of_getElem? (i := 12) (by decide +kernel), List.mem_of_getElem? (i := 238) (by decide +kernel), List.mem_of_getElem? (i := 239) (by decide +kernel)⟩
theorem lw_p1 : lw_okq (⟨"KittenStairs$Stairs", "naps", "(I)Z"⟩, 14) := ⟨⟨by decide +kernel, by decide +kernel⟩, List.mem_of_getElem? (i := 20) (by decide +kernel), List.mem_of_getElem? (i := 273) (by decide +kernel), List.mem_of_getElem? (i := 274) (by decide +kernel)⟩
theorem lw_p2 : lw_okq (⟨"KittenStairs$Stairs", "isHeldBack", "(II)Z"⟩, 14) := ⟨⟨by decide +kernel, by decide +kernel⟩, List.mem_of_getElem? (i := 20) (by decide +kernel), List.mem_of_getElem? (i := 280) (by decide +kernel), List.mem_of_getElem? (i := 281) (by decide +kernel)⟩
theorem lw_p3 : lw_okq (⟨"KittenStairs$Stairs", "ballLasts", "(II)Z"⟩, 14) := ⟨⟨by decide +kernel, by decide +kernel⟩, List.mem_of_getElem? (i := 20) (by decide +kernel), List.mem_of_getElem? (i := 291) (by decide +kernel), List.mem_of_getElem? (i := 292) (by decide +kernel)⟩
theorem lw_p4 : lw_okq (⟨"KittenStairs$Stairs", "comeOver", "(II)V"⟩, 14) := ⟨⟨by decide +kernel, by decide +kernel⟩, List.mem_of_getElem? (i := 20) (by decide +kernel), List.mem_of_getElem? (i := 306) (by decide +kernel), List.mem_of_getElem? (i := 307) (by decide +kernel)⟩
theorem lw_p5 : lw_okq (⟨"KittenStairs$Plans", "isLater", "(III)Z"⟩, 4) := ⟨⟨by decide +kernel, by decide +kernel⟩, List.mem_of_getElem? (i := 44) (by decide +kernel), List.mem_of_getElem? (i := 353) (by decide +kernel), List.mem_of_getElem? (i := 354) (by decide +kernel)⟩
theorem lw_p6 : lw_okq (⟨"KittenStairs$Plans", "move", "(II)V"⟩, 4) := ⟨⟨by decide +kernel, by decide +kernel⟩, List.mem_of_getElem? (i := 44) (by decide +kernel), List.mem_of_getElem? (i := 357) (by decide +kernel), List.mem_of_getElem? (i := 358) (by decide +kernel)⟩
theorem lw_p7 : lw_okq (⟨"KittenStairs$Stairs", "wakeKittens", "()V"⟩, 14) := ⟨⟨by decide +kernel, by decide +kernel⟩, List.mem_of_getElem? (i := 20) (by decide +kernel), List.mem_of_getElem? (i := 373) (by decide +kernel), List.mem_of_getElem? (i := 374) (by decide +kernel)⟩
theorem lw_p8 : lw_okq (⟨"KittenStairs$Stairs", "refreshKittens", "()V"⟩, 14) := ⟨⟨by decide +kernel, by decide +kernel⟩, List.mem_of_getElem? (i := 20) (by decide +kernel), List.mem_of_getElem? (i := 385) (by decide +kernel), List.mem_of_getElem? (i := 386) (by decide +kernel)⟩
theorem lw_p9 : lw_okq (⟨"KittenStairs$Yarn", "mostKept", "(III)I"⟩, 3) := ⟨⟨by decide +kernel, by decide +kernel⟩, List.mem_of_getElem? (i := 26) (by decide +kernel), List.mem_of_getElem? (i := 473) (by decide +kernel), List.mem_of_getElem? (i := 474) (by decide +kernel)⟩
theorem lw_p10 : lw_okq (⟨"KittenStairs$Orders", "readOrder", "(LKittenStairs$Pad;)Z"⟩, 4) := ⟨⟨by decide +kernel, by decide +kernel⟩, List.mem_of_getElem? (i := 166) (by decide +kernel), List.mem_of_getElem? (i := 533) (by decide +kernel), List.mem_of_getElem? (i := 534) (by decide +kernel)⟩
theorem lw_p11 : lw_okq (⟨"KittenStairs$Orders", "readDigit", "(LKittenStairs$Pad;I)Z"⟩, 4) := ⟨⟨by decide +kernel, by decide +kernel⟩, List.mem_of_getElem? (i := 166) (by decide +kernel), List.mem_of_getElem? (i := 544) (by decide +kernel), List.mem_of_getElem? (i := 545) (by decide +kernel)⟩
theorem lw_p12 : lw_okq (⟨"KittenStairs$Orders", "digit", "(LKittenStairs$Pad;)I"⟩, 4) := ⟨⟨by decide +kernel, by decide +kernel⟩, List.mem_of_getElem? (i := 166) (by decide +kernel), List.mem_of_getElem? (i := 548) (by decide +kernel), List.mem_of_getElem? (i := 549) (by decide +kernel)⟩
theorem lw_p13 : lw_okq (⟨"KittenStairs$Orders", "keep", "(II)Z"⟩, 4) := ⟨⟨by decide +kernel, by decide +kernel⟩, List.mem_of_getElem? (i := 166) (by decide +kernel), List.mem_of_getElem? (i := 552) (by decide +kernel), List.mem_of_getElem? (i := 553) (by decide +kernel)⟩
theorem lw_p14 : lw_okq (⟨"KittenStairs$Orders", "readBy", "(LKittenStairs$Pad;I)Z"⟩, 4) := ⟨⟨by decide +kernel, by decide +kernel⟩, List.mem_of_getElem? (i := 166) (by decide +kernel), List.mem_of_getElem? (i := 559) (by decide +kernel), List.mem_of_getElem? (i := 560) (by decide +kernel)⟩
theorem lw_p15 : lw_okq (⟨"KittenStairs$Orders", "readSign", "(LKittenStairs$Pad;I)Z"⟩, 4) := ⟨⟨by decide +kernel, by decide +kernel⟩, List.mem_of_getElem? (i := 166) (by decide +kernel), List.mem_of_getElem? (i := 563) (by decide +kernel), List.mem_of_getElem? (i := 564) (by decide +kernel)⟩
def lw_privs_1 : List (MethodName × Nat) := [(⟨"KittenStairs", "settled", "(I)I"⟩, 6), (⟨"KittenStairs$Stairs", "naps", "(I)Z"⟩, 14), (⟨"KittenStairs$Stairs", "isHeldBack", "(II)Z"⟩, 14), (⟨"KittenStairs$Stairs", "ballLasts", "(II)Z"⟩, 14), (⟨"KittenStairs$Stairs", "comeOver", "(II)V"⟩, 14), (⟨"KittenStairs$Plans", "isLater", "(III)Z"⟩, 4), (⟨"KittenStairs$Plans", "move", "(II)V"⟩, 4), (⟨"KittenStairs$Stairs", "wakeKittens", "()V"⟩, 14), (⟨"KittenStairs$Stairs", "refreshKittens", "()V"⟩, 14), (⟨"KittenStairs$Yarn", "mostKept", "(III)I"⟩, 3), (⟨"KittenStairs$Orders", "readOrder", "(LKittenStairs$Pad;)Z"⟩, 4), (⟨"KittenStairs$Orders", "readDigit", "(LKittenStairs$Pad;I)Z"⟩, 4), (⟨"KittenStairs$Orders", "digit", "(LKittenStairs$Pad;)I"⟩, 4), (⟨"KittenStairs$Orders", "keep", "(II)Z"⟩, 4), (⟨"KittenStairs$Orders", "readBy", "(LKittenStairs$Pad;I)Z"⟩, 4), (⟨"KittenStairs$Orders", "readSign", "(LKittenStairs$Pad;I)Z"⟩, 4)]
theorem lw_r1 : ∀ q ∈ lw_privs_1, lw_okq q := List.forall_mem_cons.mpr ⟨lw_p0, List.forall_mem_cons.mpr ⟨lw_p1, List.forall_mem_cons.mpr ⟨lw_p2, List.forall_mem_cons.mpr ⟨lw_p3, List.forall_mem_cons.mpr ⟨lw_p4, List.forall_mem_cons.mpr ⟨lw_p5, List.forall_mem_cons.mpr ⟨lw_p6, List.forall_mem_cons.mpr ⟨lw_p7, List.forall_mem_cons.mpr ⟨lw_p8, List.forall_mem_cons.mpr ⟨lw_p9, List.forall_mem_cons.mpr ⟨lw_p10, List.forall_mem_cons.mpr ⟨lw_p11, List.forall_mem_cons.mpr ⟨lw_p12, List.forall_mem_cons.mpr ⟨lw_p13, List.forall_mem_cons.mpr ⟨lw_p14, List.forall_mem_cons.mpr ⟨lw_p15, fun _ h => absurd h List.not_mem_nil⟩⟩⟩⟩⟩⟩⟩⟩⟩⟩⟩⟩⟩⟩⟩⟩
theorem lw_p16 : lw_okq (⟨"KittenStairs$Orders", "number", "(LKittenStairs$Pad;)I"⟩, 4) := ⟨⟨by decide +kernel, by decide +kernel⟩, List.mem_of_getElem? (i := 166) (by decide +kernel), List.mem_of_getElem? (i := 567) (by decide +kernel), List.mem_of_getElem? (i := 568) (by decide +kernel)⟩
theorem lw_p17 : lw_okq (⟨"KittenStairs$Orders", "readNumber", "(LKittenStairs$Pad;I)Z"⟩, 4) := ⟨⟨by decide +kernel, by decide +kernel⟩, List.mem_of_getElem? (i := 166) (by decide +kernel), List.mem_of_getElem? (i := 571) (by decide +kernel), List.mem_of_getElem? (i := 572) (by decide +kernel)⟩
theorem lw_p18 : lw_okq (⟨"KittenStairs", "carryOneOut", "(I)I"⟩, 6) := ⟨⟨by decide +kernel, by decide +kernel⟩, List.mem_of_getElem? (i := 12) (by decide +kernel), List.mem_of_getElem? (i := 579) (by decide +kernel), List.mem_of_getElem? (i := 580) (by decide +kernel)⟩
theorem lw_p19 : lw_okq (⟨"KittenStairsModel", "changes", "()V"⟩, 10) := ⟨⟨by decide +kernel, by decide +kernel⟩, List.mem_of_getElem? (i := 608) (by decide +kernel), List.mem_of_getElem? (i := 661) (by decide +kernel), List.mem_of_getElem? (i := 662) (by decide +kernel)⟩
theorem lw_p20 : lw_okq (⟨"KittenStairsModel", "copies", "(II)V"⟩, 10) := ⟨⟨by decide +kernel, by decide +kernel⟩, List.mem_of_getElem? (i := 608) (by decide +kernel), List.mem_of_getElem? (i := 665) (by decide +kernel), List.mem_of_getElem? (i := 666) (by decide +kernel)⟩
theorem lw_p21 : lw_okq (⟨"KittenStairsModel", "kittenError", "(I)I"⟩, 10) := ⟨⟨by decide +kernel, by decide +kernel⟩, List.mem_of_getElem? (i := 608) (by decide +kernel), List.mem_of_getElem? (i := 673) (by decide +kernel), List.mem_of_getElem? (i := 674) (by decide +kernel)⟩
theorem lw_p22 : lw_okq (⟨"KittenStairsModel", "comes", "(I)I"⟩, 10) := ⟨⟨by decide +kernel, by decide +kernel⟩, List.mem_of_getElem? (i := 608) (by decide +kernel), List.mem_of_getElem? (i := 677) (by decide +kernel), List.mem_of_getElem? (i := 678) (by decide +kernel)⟩
theorem lw_p23 : lw_okq (⟨"KittenStairsModel", "leapError", "(II)I"⟩, 10) := ⟨⟨by decide +kernel, by decide +kernel⟩, List.mem_of_getElem? (i := 608) (by decide +kernel), List.mem_of_getElem? (i := 688) (by decide +kernel), List.mem_of_getElem? (i := 689) (by decide +kernel)⟩
theorem lw_p24 : lw_okq (⟨"KittenStairsModel", "isKitten", "(I)Z"⟩, 10) := ⟨⟨by decide +kernel, by decide +kernel⟩, List.mem_of_getElem? (i := 608) (by decide +kernel), List.mem_of_getElem? (i := 692) (by decide +kernel), List.mem_of_getElem? (i := 693) (by decide +kernel)⟩
theorem lw_p25 : lw_okq (⟨"KittenStairsModel", "reason", "(III)I"⟩, 10) := ⟨⟨by decide +kernel, by decide +kernel⟩, List.mem_of_getElem? (i := 608) (by decide +kernel), List.mem_of_getElem? (i := 700) (by decide +kernel), List.mem_of_getElem? (i := 701) (by decide +kernel)⟩
theorem lw_p26 : lw_okq (⟨"KittenStairsModel", "naps", "(II)Z"⟩, 10) := ⟨⟨by decide +kernel, by decide +kernel⟩, List.mem_of_getElem? (i := 608) (by decide +kernel), List.mem_of_getElem? (i := 704) (by decide +kernel), List.mem_of_getElem? (i := 705) (by decide +kernel)⟩
theorem lw_p27 : lw_okq (⟨"KittenStairsModel", "isHeldBack", "(III)Z"⟩, 10) := ⟨⟨by decide +kernel, by decide +kernel⟩, List.mem_of_getElem? (i := 608) (by decide +kernel), List.mem_of_getElem? (i := 711) (by decide +kernel), List.mem_of_getElem? (i := 712) (by decide +kernel)⟩
theorem lw_p28 : lw_okq (⟨"KittenStairsModel", "boundTo", "(II)I"⟩, 10) := ⟨⟨by decide +kernel, by decide +kernel⟩, List.mem_of_getElem? (i := 608) (by decide +kernel), List.mem_of_getElem? (i := 715) (by decide +kernel), List.mem_of_getElem? (i := 716) (by decide +kernel)⟩
theorem lw_p29 : lw_okq (⟨"KittenStairsModel", "boundEdges", "(III)I"⟩, 10) := ⟨⟨by decide +kernel, by decide +kernel⟩, List.mem_of_getElem? (i := 608) (by decide +kernel), List.mem_of_getElem? (i := 719) (by decide +kernel), List.mem_of_getElem? (i := 720) (by decide +kernel)⟩
theorem lw_p30 : lw_okq (⟨"KittenStairsModel", "areBoundAt", "(IIII)Z"⟩, 10) := ⟨⟨by decide +kernel, by decide +kernel⟩, List.mem_of_getElem? (i := 608) (by decide +kernel), List.mem_of_getElem? (i := 723) (by decide +kernel), List.mem_of_getElem? (i := 724) (by decide +kernel)⟩
theorem lw_p31 : lw_okq (⟨"KittenStairsModel", "ownerAt", "(III)I"⟩, 10) := ⟨⟨by decide +kernel, by decide +kernel⟩, List.mem_of_getElem? (i := 608) (by decide +kernel), List.mem_of_getElem? (i := 727) (by decide +kernel), List.mem_of_getElem? (i := 728) (by decide +kernel)⟩
def lw_privs_2 : List (MethodName × Nat) := [(⟨"KittenStairs$Orders", "number", "(LKittenStairs$Pad;)I"⟩, 4), (⟨"KittenStairs$Orders", "readNumber", "(LKittenStairs$Pad;I)Z"⟩, 4), (⟨"KittenStairs", "carryOneOut", "(I)I"⟩, 6), (⟨"KittenStairsModel", "changes", "()V"⟩, 10), (⟨"KittenStairsModel", "copies", "(II)V"⟩, 10), (⟨"KittenStairsModel", "kittenError", "(I)I"⟩, 10), (⟨"KittenStairsModel", "comes", "(I)I"⟩, 10), (⟨"KittenStairsModel", "leapError", "(II)I"⟩, 10), (⟨"KittenStairsModel", "isKitten", "(I)Z"⟩, 10), (⟨"KittenStairsModel", "reason", "(III)I"⟩, 10), (⟨"KittenStairsModel", "naps", "(II)Z"⟩, 10), (⟨"KittenStairsModel", "isHeldBack", "(III)Z"⟩, 10), (⟨"KittenStairsModel", "boundTo", "(II)I"⟩, 10), (⟨"KittenStairsModel", "boundEdges", "(III)I"⟩, 10), (⟨"KittenStairsModel", "areBoundAt", "(IIII)Z"⟩, 10), (⟨"KittenStairsModel", "ownerAt", "(III)I"⟩, 10)]
theorem lw_r2 : ∀ q ∈ lw_privs_2, lw_okq q := List.forall_mem_cons.mpr ⟨lw_p16, List.forall_mem_cons.mpr ⟨lw_p17, List.forall_mem_cons.mpr ⟨lw_p18, List.forall_mem_cons.mpr ⟨lw_p19, List.forall_mem_cons.mpr ⟨lw_p20, List.forall_mem_cons.mpr ⟨lw_p21, List.forall_mem_cons.mpr ⟨lw_p22, List.forall_mem_cons.mpr ⟨lw_p23, List.forall_mem_cons.mpr ⟨lw_p24, List.forall_mem_cons.mpr ⟨lw_p25, List.forall_mem_cons.mpr ⟨lw_p26, List.forall_mem_cons.mpr ⟨lw_p27, List.forall_mem_cons.mpr ⟨lw_p28, List.forall_mem_cons.mpr ⟨lw_p29, List.forall_mem_cons.mpr ⟨lw_p30, List.forall_mem_cons.mpr ⟨lw_p31, fun _ h => absurd h List.not_mem_nil⟩⟩⟩⟩⟩⟩⟩⟩⟩⟩⟩⟩⟩⟩⟩⟩
theorem lw_p32 : lw_okq (⟨"KittenStairsModel", "isTooShort", "(III)Z"⟩, 10) := ⟨⟨by decide +kernel, by decide +kernel⟩, List.mem_of_getElem? (i := 608) (by decide +kernel), List.mem_of_getElem? (i := 734) (by decide +kernel), List.mem_of_getElem? (i := 735) (by decide +kernel)⟩
theorem lw_p33 : lw_okq (⟨"KittenStairsModel", "edgeOf", "(IIII)I"⟩, 10) := ⟨⟨by decide +kernel, by decide +kernel⟩, List.mem_of_getElem? (i := 608) (by decide +kernel), List.mem_of_getElem? (i := 738) (by decide +kernel), List.mem_of_getElem? (i := 739) (by decide +kernel)⟩
theorem lw_p34 : lw_okq (⟨"KittenStairsModel", "windsBack", "(III)Z"⟩, 10) := ⟨⟨by decide +kernel, by decide +kernel⟩, List.mem_of_getElem? (i := 608) (by decide +kernel), List.mem_of_getElem? (i := 742) (by decide +kernel), List.mem_of_getElem? (i := 743) (by decide +kernel)⟩
theorem lw_p35 : lw_okq (⟨"KittenStairsModel", "top", "(II)I"⟩, 10) := ⟨⟨by decide +kernel, by decide +kernel⟩, List.mem_of_getElem? (i := 608) (by decide +kernel), List.mem_of_getElem? (i := 746) (by decide +kernel), List.mem_of_getElem? (i := 747) (by decide +kernel)⟩
theorem lw_p36 : lw_okq (⟨"KittenStairsModel", "leaps", "(III)I"⟩, 10) := ⟨⟨by decide +kernel, by decide +kernel⟩, List.mem_of_getElem? (i := 608) (by decide +kernel), List.mem_of_getElem? (i := 750) (by decide +kernel), List.mem_of_getElem? (i := 751) (by decide +kernel)⟩
theorem lw_p37 : lw_okq (⟨"KittenStairsModel", "crosses", "(III)V"⟩, 10) := ⟨⟨by decide +kernel, by decide +kernel⟩, List.mem_of_getElem? (i := 608) (by decide +kernel), List.mem_of_getElem? (i := 754) (by decide +kernel), List.mem_of_getElem? (i := 755) (by decide +kernel)⟩
theorem lw_p38 : lw_okq (⟨"KittenStairsModel", "removesStrand", "(II)V"⟩, 10) := ⟨⟨by decide +kernel, by decide +kernel⟩, List.mem_of_getElem? (i := 608) (by decide +kernel), List.mem_of_getElem? (i := 758) (by decide +kernel), List.mem_of_getElem? (i := 759) (by decide +kernel)⟩
theorem lw_p39 : lw_okq (⟨"KittenStairsModel", "napError", "(I)I"⟩, 10) := ⟨⟨by decide +kernel, by decide +kernel⟩, List.mem_of_getElem? (i := 608) (by decide +kernel), List.mem_of_getElem? (i := 766) (by decide +kernel), List.mem_of_getElem? (i := 767) (by decide +kernel)⟩
theorem lw_p40 : lw_okq (⟨"KittenStairsModel", "sleeps", "(I)I"⟩, 10) := ⟨⟨by decide +kernel, by decide +kernel⟩, List.mem_of_getElem? (i := 608) (by decide +kernel), List.mem_of_getElem? (i := 770) (by decide +kernel), List.mem_of_getElem? (i := 771) (by decide +kernel)⟩
theorem lw_p41 : lw_okq (⟨"KittenStairsModel", "snipError", "(II)I"⟩, 10) := ⟨⟨by decide +kernel, by decide +kernel⟩, List.mem_of_getElem? (i := 608) (by decide +kernel), List.mem_of_getElem? (i := 778) (by decide +kernel), List.mem_of_getElem? (i := 779) (by decide +kernel)⟩
theorem lw_p42 : lw_okq (⟨"KittenStairsModel", "strandsAt", "(II)I"⟩, 10) := ⟨⟨by decide +kernel, by decide +kernel⟩, List.mem_of_getElem? (i := 608) (by decide +kernel), List.mem_of_getElem? (i := 786) (by decide +kernel), List.mem_of_getElem? (i := 787) (by decide +kernel)⟩
theorem lw_p43 : lw_okq (⟨"KittenStairsModel", "snips", "(II)I"⟩, 10) := ⟨⟨by decide +kernel, by decide +kernel⟩, List.mem_of_getElem? (i := 608) (by decide +kernel), List.mem_of_getElem? (i := 790) (by decide +kernel), List.mem_of_getElem? (i := 791) (by decide +kernel)⟩
theorem lw_p44 : lw_okq (⟨"KittenStairsModel", "planError", "(III)I"⟩, 10) := ⟨⟨by decide +kernel, by decide +kernel⟩, List.mem_of_getElem? (i := 608) (by decide +kernel), List.mem_of_getElem? (i := 798) (by decide +kernel), List.mem_of_getElem? (i := 799) (by decide +kernel)⟩
theorem lw_p45 : lw_okq (⟨"KittenStairsModel", "plans", "(III)I"⟩, 10) := ⟨⟨by decide +kernel, by decide +kernel⟩, List.mem_of_getElem? (i := 608) (by decide +kernel), List.mem_of_getElem? (i := 803) (by decide +kernel), List.mem_of_getElem? (i := 804) (by decide +kernel)⟩
theorem lw_p46 : lw_okq (⟨"KittenStairsModel", "passError", "(I)I"⟩, 10) := ⟨⟨by decide +kernel, by decide +kernel⟩, List.mem_of_getElem? (i := 608) (by decide +kernel), List.mem_of_getElem? (i := 814) (by decide +kernel), List.mem_of_getElem? (i := 815) (by decide +kernel)⟩
theorem lw_p47 : lw_okq (⟨"KittenStairsModel", "turns", "(II)I"⟩, 10) := ⟨⟨by decide +kernel, by decide +kernel⟩, List.mem_of_getElem? (i := 608) (by decide +kernel), List.mem_of_getElem? (i := 818) (by decide +kernel), List.mem_of_getElem? (i := 819) (by decide +kernel)⟩
def lw_privs_3 : List (MethodName × Nat) := [(⟨"KittenStairsModel", "isTooShort", "(III)Z"⟩, 10), (⟨"KittenStairsModel", "edgeOf", "(IIII)I"⟩, 10), (⟨"KittenStairsModel", "windsBack", "(III)Z"⟩, 10), (⟨"KittenStairsModel", "top", "(II)I"⟩, 10), (⟨"KittenStairsModel", "leaps", "(III)I"⟩, 10), (⟨"KittenStairsModel", "crosses", "(III)V"⟩, 10), (⟨"KittenStairsModel", "removesStrand", "(II)V"⟩, 10), (⟨"KittenStairsModel", "napError", "(I)I"⟩, 10), (⟨"KittenStairsModel", "sleeps", "(I)I"⟩, 10), (⟨"KittenStairsModel", "snipError", "(II)I"⟩, 10), (⟨"KittenStairsModel", "strandsAt", "(II)I"⟩, 10), (⟨"KittenStairsModel", "snips", "(II)I"⟩, 10), (⟨"KittenStairsModel", "planError", "(III)I"⟩, 10), (⟨"KittenStairsModel", "plans", "(III)I"⟩, 10), (⟨"KittenStairsModel", "passError", "(I)I"⟩, 10), (⟨"KittenStairsModel", "turns", "(II)I"⟩, 10)]
theorem lw_r3 : ∀ q ∈ lw_privs_3, lw_okq q := List.forall_mem_cons.mpr ⟨lw_p32, List.forall_mem_cons.mpr ⟨lw_p33, List.forall_mem_cons.mpr ⟨lw_p34, List.forall_mem_cons.mpr ⟨lw_p35, List.forall_mem_cons.mpr ⟨lw_p36, List.forall_mem_cons.mpr ⟨lw_p37, List.forall_mem_cons.mpr ⟨lw_p38, List.forall_mem_cons.mpr ⟨lw_p39, List.forall_mem_cons.mpr ⟨lw_p40, List.forall_mem_cons.mpr ⟨lw_p41, List.forall_mem_cons.mpr ⟨lw_p42, List.forall_mem_cons.mpr ⟨lw_p43, List.forall_mem_cons.mpr ⟨lw_p44, List.forall_mem_cons.mpr ⟨lw_p45, List.forall_mem_cons.mpr ⟨lw_p46, List.forall_mem_cons.mpr ⟨lw_p47, fun _ h => absurd h List.not_mem_nil⟩⟩⟩⟩⟩⟩⟩⟩⟩⟩⟩⟩⟩⟩⟩⟩
theorem lw_p48 : lw_okq (⟨"KittenStairsModel", "turn", "(I)I"⟩, 10) := ⟨⟨by decide +kernel, by decide +kernel⟩, List.mem_of_getElem? (i := 608) (by decide +kernel), List.mem_of_getElem? (i := 822) (by decide +kernel), List.mem_of_getElem? (i := 823) (by decide +kernel)⟩
theorem lw_p49 : lw_okq (⟨"KittenStairsModel", "strandsOf", "(I)I"⟩, 10) := ⟨⟨by decide +kernel, by decide +kernel⟩, List.mem_of_getElem? (i := 608) (by decide +kernel), List.mem_of_getElem? (i := 830) (by decide +kernel), List.mem_of_getElem? (i := 831) (by decide +kernel)⟩
theorem lw_p50 : lw_okq (⟨"KittenStairsModel", "stepsOf", "(I)I"⟩, 10) := ⟨⟨by decide +kernel, by decide +kernel⟩, List.mem_of_getElem? (i := 608) (by decide +kernel), List.mem_of_getElem? (i := 834) (by decide +kernel), List.mem_of_getElem? (i := 835) (by decide +kernel)⟩
theorem lw_p51 : lw_okq (⟨"KittenStairsModel", "thickness", "(I)I"⟩, 10) := ⟨⟨by decide +kernel, by decide +kernel⟩, List.mem_of_getElem? (i := 608) (by decide +kernel), List.mem_of_getElem? (i := 842) (by decide +kernel), List.mem_of_getElem? (i := 843) (by decide +kernel)⟩
theorem lw_p52 : lw_okq (⟨"KittenStairsModel", "kittensAt", "(I)I"⟩, 10) := ⟨⟨by decide +kernel, by decide +kernel⟩, List.mem_of_getElem? (i := 608) (by decide +kernel), List.mem_of_getElem? (i := 846) (by decide +kernel), List.mem_of_getElem? (i := 847) (by decide +kernel)⟩
theorem lw_p53 : lw_okq (⟨"KittenStairsModel", "pairsAt", "(I)I"⟩, 10) := ⟨⟨by decide +kernel, by decide +kernel⟩, List.mem_of_getElem? (i := 608) (by decide +kernel), List.mem_of_getElem? (i := 850) (by decide +kernel), List.mem_of_getElem? (i := 851) (by decide +kernel)⟩
theorem lw_p54 : lw_okq (⟨"KittenStairsModel", "napping", "()I"⟩, 10) := ⟨⟨by decide +kernel, by decide +kernel⟩, List.mem_of_getElem? (i := 608) (by decide +kernel), List.mem_of_getElem? (i := 870) (by decide +kernel), List.mem_of_getElem? (i := 871) (by decide +kernel)⟩
theorem lw_p55 : lw_okq (⟨"KittenStairsModel", "all", "(I)I"⟩, 10) := ⟨⟨by decide +kernel, by decide +kernel⟩, List.mem_of_getElem? (i := 608) (by decide +kernel), List.mem_of_getElem? (i := 874) (by decide +kernel), List.mem_of_getElem? (i := 875) (by decide +kernel)⟩
theorem lw_p56 : lw_okq (⟨"KittenStairsModel", "pairs", "()I"⟩, 10) := ⟨⟨by decide +kernel, by decide +kernel⟩, List.mem_of_getElem? (i := 608) (by decide +kernel), List.mem_of_getElem? (i := 878) (by decide +kernel), List.mem_of_getElem? (i := 879) (by decide +kernel)⟩
theorem lw_p57 : lw_okq (⟨"KittenStairsModel", "sorting", "(III)I"⟩, 10) := ⟨⟨by decide +kernel, by decide +kernel⟩, List.mem_of_getElem? (i := 608) (by decide +kernel), List.mem_of_getElem? (i := 898) (by decide +kernel), List.mem_of_getElem? (i := 899) (by decide +kernel)⟩
theorem lw_p58 : lw_okq (⟨"KittenStairsModel", "readsOrder", "()Z"⟩, 10) := ⟨⟨by decide +kernel, by decide +kernel⟩, List.mem_of_getElem? (i := 608) (by decide +kernel), List.mem_of_getElem? (i := 932) (by decide +kernel), List.mem_of_getElem? (i := 933) (by decide +kernel)⟩
theorem lw_p59 : lw_okq (⟨"KittenStairsModel", "readsNumber", "()Z"⟩, 10) := ⟨⟨by decide +kernel, by decide +kernel⟩, List.mem_of_getElem? (i := 608) (by decide +kernel), List.mem_of_getElem? (i := 936) (by decide +kernel), List.mem_of_getElem? (i := 937) (by decide +kernel)⟩
theorem lw_p60 : lw_okq (⟨"KittenStairsModel", "number", "()I"⟩, 10) := ⟨⟨by decide +kernel, by decide +kernel⟩, List.mem_of_getElem? (i := 608) (by decide +kernel), List.mem_of_getElem? (i := 940) (by decide +kernel), List.mem_of_getElem? (i := 941) (by decide +kernel)⟩
theorem lw_p61 : lw_okq (⟨"KittenStairsModel", "digit", "()I"⟩, 10) := ⟨⟨by decide +kernel, by decide +kernel⟩, List.mem_of_getElem? (i := 608) (by decide +kernel), List.mem_of_getElem? (i := 944) (by decide +kernel), List.mem_of_getElem? (i := 945) (by decide +kernel)⟩
theorem lw_p62 : lw_okq (⟨"KittenStairsModel", "isHere", "(II)Z"⟩, 10) := ⟨⟨by decide +kernel, by decide +kernel⟩, List.mem_of_getElem? (i := 608) (by decide +kernel), List.mem_of_getElem? (i := 948) (by decide +kernel), List.mem_of_getElem? (i := 949) (by decide +kernel)⟩
theorem lw_p63 : lw_okq (⟨"KittenStairsModel", "readsKitten", "()Z"⟩, 10) := ⟨⟨by decide +kernel, by decide +kernel⟩, List.mem_of_getElem? (i := 608) (by decide +kernel), List.mem_of_getElem? (i := 952) (by decide +kernel), List.mem_of_getElem? (i := 953) (by decide +kernel)⟩
def lw_privs_4 : List (MethodName × Nat) := [(⟨"KittenStairsModel", "turn", "(I)I"⟩, 10), (⟨"KittenStairsModel", "strandsOf", "(I)I"⟩, 10), (⟨"KittenStairsModel", "stepsOf", "(I)I"⟩, 10), (⟨"KittenStairsModel", "thickness", "(I)I"⟩, 10), (⟨"KittenStairsModel", "kittensAt", "(I)I"⟩, 10), (⟨"KittenStairsModel", "pairsAt", "(I)I"⟩, 10), (⟨"KittenStairsModel", "napping", "()I"⟩, 10), (⟨"KittenStairsModel", "all", "(I)I"⟩, 10), (⟨"KittenStairsModel", "pairs", "()I"⟩, 10), (⟨"KittenStairsModel", "sorting", "(III)I"⟩, 10), (⟨"KittenStairsModel", "readsOrder", "()Z"⟩, 10), (⟨"KittenStairsModel", "readsNumber", "()Z"⟩, 10), (⟨"KittenStairsModel", "number", "()I"⟩, 10), (⟨"KittenStairsModel", "digit", "()I"⟩, 10), (⟨"KittenStairsModel", "isHere", "(II)Z"⟩, 10), (⟨"KittenStairsModel", "readsKitten", "()Z"⟩, 10)]
theorem lw_r4 : ∀ q ∈ lw_privs_4, lw_okq q := List.forall_mem_cons.mpr ⟨lw_p48, List.forall_mem_cons.mpr ⟨lw_p49, List.forall_mem_cons.mpr ⟨lw_p50, List.forall_mem_cons.mpr ⟨lw_p51, List.forall_mem_cons.mpr ⟨lw_p52, List.forall_mem_cons.mpr ⟨lw_p53, List.forall_mem_cons.mpr ⟨lw_p54, List.forall_mem_cons.mpr ⟨lw_p55, List.forall_mem_cons.mpr ⟨lw_p56, List.forall_mem_cons.mpr ⟨lw_p57, List.forall_mem_cons.mpr ⟨lw_p58, List.forall_mem_cons.mpr ⟨lw_p59, List.forall_mem_cons.mpr ⟨lw_p60, List.forall_mem_cons.mpr ⟨lw_p61, List.forall_mem_cons.mpr ⟨lw_p62, List.forall_mem_cons.mpr ⟨lw_p63, fun _ h => absurd h List.not_mem_nil⟩⟩⟩⟩⟩⟩⟩⟩⟩⟩⟩⟩⟩⟩⟩⟩
theorem lw_p64 : lw_okq (⟨"KittenStairsModel", "readsBy", "()Z"⟩, 10) := ⟨⟨by decide +kernel, by decide +kernel⟩, List.mem_of_getElem? (i := 608) (by decide +kernel), List.mem_of_getElem? (i := 956) (by decide +kernel), List.mem_of_getElem? (i := 957) (by decide +kernel)⟩
theorem lw_p65 : lw_okq (⟨"KittenStairsModel", "takes", "(I)Z"⟩, 10) := ⟨⟨by decide +kernel, by decide +kernel⟩, List.mem_of_getElem? (i := 608) (by decide +kernel), List.mem_of_getElem? (i := 960) (by decide +kernel), List.mem_of_getElem? (i := 961) (by decide +kernel)⟩
theorem lw_p66 : lw_okq (⟨"KittenStairsModel", "orderError", "()I"⟩, 10) := ⟨⟨by decide +kernel, by decide +kernel⟩, List.mem_of_getElem? (i := 608) (by decide +kernel), List.mem_of_getElem? (i := 969) (by decide +kernel), List.mem_of_getElem? (i := 970) (by decide +kernel)⟩
theorem lw_p67 : lw_okq (⟨"KittenStairsModel", "does", "()I"⟩, 10) := ⟨⟨by decide +kernel, by decide +kernel⟩, List.mem_of_getElem? (i := 608) (by decide +kernel), List.mem_of_getElem? (i := 973) (by decide +kernel), List.mem_of_getElem? (i := 974) (by decide +kernel)⟩
def lw_privs_5 : List (MethodName × Nat) := [(⟨"KittenStairsModel", "readsBy", "()Z"⟩, 10), (⟨"KittenStairsModel", "takes", "(I)Z"⟩, 10), (⟨"KittenStairsModel", "orderError", "()I"⟩, 10), (⟨"KittenStairsModel", "does", "()I"⟩, 10)]
theorem lw_r5 : ∀ q ∈ lw_privs_5, lw_okq q := List.forall_mem_cons.mpr ⟨lw_p64, List.forall_mem_cons.mpr ⟨lw_p65, List.forall_mem_cons.mpr ⟨lw_p66, List.forall_mem_cons.mpr ⟨lw_p67, fun _ h => absurd h List.not_mem_nil⟩⟩⟩⟩
def lw_privs : List (MethodName × Nat) := lw_privs_1 ++ (lw_privs_2 ++ (lw_privs_3 ++ (lw_privs_4 ++ (lw_privs_5))))
def lw_tbl : List Cond := k2_sels lw_privs ++ tables_1
theorem lw_privs_ok : ∀ q ∈ lw_privs, lw_okq q := by
  show ∀ q ∈ lw_privs_1 ++ (lw_privs_2 ++ (lw_privs_3 ++ (lw_privs_4 ++ (lw_privs_5)))), lw_okq q
  exact List.forall_mem_append.mpr ⟨lw_r1, List.forall_mem_append.mpr ⟨lw_r2, List.forall_mem_append.mpr ⟨lw_r3, List.forall_mem_append.mpr ⟨lw_r4, lw_r5⟩⟩⟩⟩
end
section
def RX0 : String := "KittenStairs$History"
def TX0 : u_T := fun k => match k with
  | 0 => ("KittenStairs$History", "states", "[LKittenStairs$Stairs;", true)
  | 1 => ("KittenStairs$History", "draftPlace", "I", false)
  | _ => ("KittenStairs$History", "size", "I", false)
def tyX0 : Nat → FieldType := fun k => match k with
  | 0 => .array (.object "KittenStairs$Stairs")
  | 1 => .int
  | _ => .int
abbrev wsX00 : List Cond := u_ws RX0 TX0 3
theorem nmX0 : ∀ a, a < 3 → ∀ b, b < 3 → a ≠ b → (TX0 a).2.1 ≠ (TX0 b).2.1 := by decide +kernel
theorem tyX0_ok : ∀ k, k < 3 → parseFieldDescriptor (TX0 k).2.2.1 = some (tyX0 k) := by decide +kernel
abbrev cX0_init : ByteArray := prog_2_method_1_code
def yX0_init : MethodName := ⟨RX0, "<init>", "()V"⟩
abbrev cX0_draft : ByteArray := prog_2_method_2_code
def yX0_draft : MethodName := ⟨RX0, "draft", "(LKittenStairs$Stairs;)V"⟩
abbrev cX0_keepDraft : ByteArray := prog_2_method_3_code
def yX0_keepDraft : MethodName := ⟨RX0, "keepDraft", "()V"⟩
abbrev cX0_takeBack : ByteArray := prog_2_method_4_code
def yX0_takeBack : MethodName := ⟨RX0, "takeBack", "(LKittenStairs$Stairs;)V"⟩
def RX1 : String := "KittenStairs$Orders"
def TX1 : u_T := fun k => match k with
  | 0 => ("KittenStairs$Orders", "letters", "[I", true)
  | 1 => ("KittenStairs$Orders", "parts", "[I", true)
  | 2 => ("KittenStairs$Orders", "size", "I", false)
  | _ => ("KittenStairs$Orders", "at", "I", false)
def tyX1 : Nat → FieldType := fun k => match k with
  | 0 => .array .int
  | 1 => .array .int
  | 2 => .int
  | _ => .int
abbrev wsX10 : List Cond := u_ws RX1 TX1 4
theorem nmX1 : ∀ a, a < 4 → ∀ b, b < 4 → a ≠ b → (TX1 a).2.1 ≠ (TX1 b).2.1 := by decide +kernel
theorem tyX1_ok : ∀ k, k < 4 → parseFieldDescriptor (TX1 k).2.2.1 = some (tyX1 k) := by decide +kernel
abbrev cX1_init : ByteArray := prog_3_method_1_code
def yX1_init : MethodName := ⟨RX1, "<init>", "()V"⟩
abbrev cX1_letter : ByteArray := prog_3_method_2_code
def yX1_letter : MethodName := ⟨RX1, "letter", "(I)I"⟩
abbrev cX1_part : ByteArray := prog_3_method_3_code
def yX1_part : MethodName := ⟨RX1, "part", "(II)I"⟩
abbrev cX1_hasPart : ByteArray := prog_3_method_4_code
def yX1_hasPart : MethodName := ⟨RX1, "hasPart", "(II)Z"⟩
abbrev cX1_read : ByteArray := prog_3_method_5_code
def yX1_read : MethodName := ⟨RX1, "read", "(LKittenStairs$Pad;)I"⟩
abbrev cX1_readOrder : ByteArray := prog_3_method_6_code
def yX1_readOrder : MethodName := ⟨RX1, "readOrder", "(LKittenStairs$Pad;)Z"⟩
abbrev cX1_isLetter : ByteArray := prog_3_method_7_code
def yX1_isLetter : MethodName := ⟨RX1, "isLetter", "(I)Z"⟩
abbrev cX1_readSign : ByteArray := prog_3_method_8_code
def yX1_readSign : MethodName := ⟨RX1, "readSign", "(LKittenStairs$Pad;I)Z"⟩
abbrev cX1_readDigit : ByteArray := prog_3_method_9_code
def yX1_readDigit : MethodName := ⟨RX1, "readDigit", "(LKittenStairs$Pad;I)Z"⟩
abbrev cX1_readNumber : ByteArray := prog_3_method_10_code
def yX1_readNumber : MethodName := ⟨RX1, "readNumber", "(LKittenStairs$Pad;I)Z"⟩
abbrev cX1_readBy : ByteArray := prog_3_method_11_code
def yX1_readBy : MethodName := ⟨RX1, "readBy", "(LKittenStairs$Pad;I)Z"⟩
abbrev cX1_keep : ByteArray := prog_3_method_12_code
def yX1_keep : MethodName := ⟨RX1, "keep", "(II)Z"⟩
abbrev cX1_number : ByteArray := prog_3_method_13_code
def yX1_number : MethodName := ⟨RX1, "number", "(LKittenStairs$Pad;)I"⟩
abbrev cX1_digit : ByteArray := prog_3_method_14_code
def yX1_digit : MethodName := ⟨RX1, "digit", "(LKittenStairs$Pad;)I"⟩
def RX2 : String := "KittenStairs$Pad"
def TX2 : u_T := fun k => match k with
  | 0 => ("KittenStairs$Pad", "signs", "[I", true)
  | _ => ("KittenStairs$Pad", "length", "I", false)
def tyX2 : Nat → FieldType := fun k => match k with
  | 0 => .array .int
  | _ => .int
abbrev wsX20 : List Cond := u_ws RX2 TX2 2
theorem nmX2 : ∀ a, a < 2 → ∀ b, b < 2 → a ≠ b → (TX2 a).2.1 ≠ (TX2 b).2.1 := by decide +kernel
theorem tyX2_ok : ∀ k, k < 2 → parseFieldDescriptor (TX2 k).2.2.1 = some (tyX2 k) := by decide +kernel
abbrev cX2_init : ByteArray := prog_4_method_1_code
def yX2_init : MethodName := ⟨RX2, "<init>", "()V"⟩
abbrev cX2_append : ByteArray := prog_4_method_2_code
def yX2_append : MethodName := ⟨RX2, "append", "(J)I"⟩
abbrev cX2_signsIn : ByteArray := prog_4_method_3_code
def yX2_signsIn : MethodName := ⟨RX2, "signsIn", "(J)I"⟩
abbrev cX2_empty : ByteArray := prog_4_method_4_code
def yX2_empty : MethodName := ⟨RX2, "empty", "()I"⟩
abbrev cX2_signAt : ByteArray := prog_4_method_5_code
def yX2_signAt : MethodName := ⟨RX2, "signAt", "(I)I"⟩
def RX3 : String := "KittenStairs$Plans"
def TX3 : u_T := fun k => match k with
  | 0 => ("KittenStairs$Plans", "turns", "[I", true)
  | 1 => ("KittenStairs$Plans", "kittens", "[I", true)
  | 2 => ("KittenStairs$Plans", "bys", "[I", true)
  | _ => ("KittenStairs$Plans", "size", "I", false)
def tyX3 : Nat → FieldType := fun k => match k with
  | 0 => .array .int
  | 1 => .array .int
  | 2 => .array .int
  | _ => .int
abbrev wsX30 : List Cond := u_ws RX3 TX3 4
theorem nmX3 : ∀ a, a < 4 → ∀ b, b < 4 → a ≠ b → (TX3 a).2.1 ≠ (TX3 b).2.1 := by decide +kernel
theorem tyX3_ok : ∀ k, k < 4 → parseFieldDescriptor (TX3 k).2.2.1 = some (tyX3 k) := by decide +kernel
abbrev cX3_init : ByteArray := prog_5_method_1_code
def yX3_init : MethodName := ⟨RX3, "<init>", "()V"⟩
abbrev cX3_copyFrom : ByteArray := prog_5_method_2_code
def yX3_copyFrom : MethodName := ⟨RX3, "copyFrom", "(LKittenStairs$Plans;)V"⟩
abbrev cX3_insert : ByteArray := prog_5_method_3_code
def yX3_insert : MethodName := ⟨RX3, "insert", "(III)V"⟩
abbrev cX3_isLater : ByteArray := prog_5_method_4_code
def yX3_isLater : MethodName := ⟨RX3, "isLater", "(III)Z"⟩
abbrev cX3_removeFirst : ByteArray := prog_5_method_5_code
def yX3_removeFirst : MethodName := ⟨RX3, "removeFirst", "()V"⟩
abbrev cX3_move : ByteArray := prog_5_method_6_code
def yX3_move : MethodName := ⟨RX3, "move", "(II)V"⟩
abbrev cX3_firstTurn : ByteArray := prog_5_method_7_code
def yX3_firstTurn : MethodName := ⟨RX3, "firstTurn", "()I"⟩
abbrev cX3_lastTurn : ByteArray := prog_5_method_8_code
def yX3_lastTurn : MethodName := ⟨RX3, "lastTurn", "()I"⟩
def RX4 : String := "KittenStairs$Stairs"
def TX4 : u_T := fun k => match k with
  | 0 => ("KittenStairs$Stairs", "settings", "[I", true)
  | 1 => ("KittenStairs$Stairs", "turn", "I", false)
  | 2 => ("KittenStairs$Stairs", "kittens", "I", false)
  | 3 => ("KittenStairs$Stairs", "leapsMade", "I", false)
  | 4 => ("KittenStairs$Stairs", "plansRefused", "I", false)
  | 5 => ("KittenStairs$Stairs", "step", "[I", true)
  | 6 => ("KittenStairs$Stairs", "vim", "[I", true)
  | 7 => ("KittenStairs$Stairs", "wakes", "[I", true)
  | 8 => ("KittenStairs$Stairs", "ball", "[I", true)
  | 9 => ("KittenStairs$Stairs", "laid", "[I", true)
  | 10 => ("KittenStairs$Stairs", "wound", "[I", true)
  | 11 => ("KittenStairs$Stairs", "snipped", "[I", true)
  | 12 => ("KittenStairs$Stairs", "yarn", "LKittenStairs$Yarn;", true)
  | _ => ("KittenStairs$Stairs", "plans", "LKittenStairs$Plans;", true)
def tyX4 : Nat → FieldType := fun k => match k with
  | 0 => .array .int
  | 1 => .int
  | 2 => .int
  | 3 => .int
  | 4 => .int
  | 5 => .array .int
  | 6 => .array .int
  | 7 => .array .int
  | 8 => .array .int
  | 9 => .array .int
  | 10 => .array .int
  | 11 => .array .int
  | 12 => .object "KittenStairs$Yarn"
  | _ => .object "KittenStairs$Plans"
abbrev wsX40 : List Cond := u_ws RX4 TX4 14
theorem nmX4 : ∀ a, a < 14 → ∀ b, b < 14 → a ≠ b → (TX4 a).2.1 ≠ (TX4 b).2.1 := by decide +kernel
theorem tyX4_ok : ∀ k, k < 14 → parseFieldDescriptor (TX4 k).2.2.1 = some (tyX4 k) := by decide +kernel
abbrev cX4_init : ByteArray := prog_6_method_1_code
def yX4_init : MethodName := ⟨RX4, "<init>", "()V"⟩
abbrev cX4_copyFrom : ByteArray := prog_6_method_2_code
def yX4_copyFrom : MethodName := ⟨RX4, "copyFrom", "(LKittenStairs$Stairs;)V"⟩
abbrev cX4_hasKitten : ByteArray := prog_6_method_3_code
def yX4_hasKitten : MethodName := ⟨RX4, "hasKitten", "(I)Z"⟩
abbrev cX4_changeSetting : ByteArray := prog_6_method_4_code
def yX4_changeSetting : MethodName := ⟨RX4, "changeSetting", "(II)I"⟩
abbrev cX4_addKitten : ByteArray := prog_6_method_5_code
def yX4_addKitten : MethodName := ⟨RX4, "addKitten", "(I)I"⟩
abbrev cX4_tryLeap : ByteArray := prog_6_method_6_code
def yX4_tryLeap : MethodName := ⟨RX4, "tryLeap", "(II)I"⟩
abbrev cX4_beginNap : ByteArray := prog_6_method_7_code
def yX4_beginNap : MethodName := ⟨RX4, "beginNap", "(I)I"⟩
abbrev cX4_snipStrands : ByteArray := prog_6_method_8_code
def yX4_snipStrands : MethodName := ⟨RX4, "snipStrands", "(II)I"⟩
abbrev cX4_planLeap : ByteArray := prog_6_method_9_code
def yX4_planLeap : MethodName := ⟨RX4, "planLeap", "(III)I"⟩
abbrev cX4_passTurns : ByteArray := prog_6_method_10_code
def yX4_passTurns : MethodName := ⟨RX4, "passTurns", "(I)I"⟩
abbrev cX4_passOneTurn : ByteArray := prog_6_method_11_code
def yX4_passOneTurn : MethodName := ⟨RX4, "passOneTurn", "()I"⟩
abbrev cX4_wakeKittens : ByteArray := prog_6_method_12_code
def yX4_wakeKittens : MethodName := ⟨RX4, "wakeKittens", "()V"⟩
abbrev cX4_refreshKittens : ByteArray := prog_6_method_13_code
def yX4_refreshKittens : MethodName := ⟨RX4, "refreshKittens", "()V"⟩
abbrev cX4_naps : ByteArray := prog_6_method_14_code
def yX4_naps : MethodName := ⟨RX4, "naps", "(I)Z"⟩
abbrev cX4_refusal : ByteArray := prog_6_method_15_code
def yX4_refusal : MethodName := ⟨RX4, "refusal", "(II)I"⟩
abbrev cX4_cost : ByteArray := prog_6_method_16_code
def yX4_cost : MethodName := ⟨RX4, "cost", "(I)I"⟩
abbrev cX4_isHeldBack : ByteArray := prog_6_method_17_code
def yX4_isHeldBack : MethodName := ⟨RX4, "isHeldBack", "(II)Z"⟩
abbrev cX4_ballLasts : ByteArray := prog_6_method_18_code
def yX4_ballLasts : MethodName := ⟨RX4, "ballLasts", "(II)Z"⟩
abbrev cX4_makeLeap : ByteArray := prog_6_method_19_code
def yX4_makeLeap : MethodName := ⟨RX4, "makeLeap", "(II)V"⟩
abbrev cX4_edgeOnWay : ByteArray := prog_6_method_20_code
def yX4_edgeOnWay : MethodName := ⟨RX4, "edgeOnWay", "(III)I"⟩
abbrev cX4_comeOver : ByteArray := prog_6_method_21_code
def yX4_comeOver : MethodName := ⟨RX4, "comeOver", "(II)V"⟩
abbrev cX4_boundSet : ByteArray := prog_6_method_22_code
def yX4_boundSet : MethodName := ⟨RX4, "boundSet", "(I)I"⟩
abbrev cX4_boundPairs : ByteArray := prog_6_method_23_code
def yX4_boundPairs : MethodName := ⟨RX4, "boundPairs", "(I)I"⟩
abbrev cX4_reachSet : ByteArray := prog_6_method_24_code
def yX4_reachSet : MethodName := ⟨RX4, "reachSet", "(I)I"⟩
abbrev cX4_nappingSet : ByteArray := prog_6_method_25_code
def yX4_nappingSet : MethodName := ⟨RX4, "nappingSet", "()I"⟩
abbrev cX4_lastWaking : ByteArray := prog_6_method_26_code
def yX4_lastWaking : MethodName := ⟨RX4, "lastWaking", "()I"⟩
abbrev cX4_sumOfAll : ByteArray := prog_6_method_27_code
def yX4_sumOfAll : MethodName := ⟨RX4, "sumOfAll", "([I)I"⟩
def RX5 : String := "KittenStairs$Yarn"
def TX5 : u_T := fun k => match k with
  | 0 => ("KittenStairs$Yarn", "edges", "[I", true)
  | 1 => ("KittenStairs$Yarn", "owners", "[I", true)
  | _ => ("KittenStairs$Yarn", "lying", "I", false)
def tyX5 : Nat → FieldType := fun k => match k with
  | 0 => .array .int
  | 1 => .array .int
  | _ => .int
abbrev wsX50 : List Cond := u_ws RX5 TX5 3
theorem nmX5 : ∀ a, a < 3 → ∀ b, b < 3 → a ≠ b → (TX5 a).2.1 ≠ (TX5 b).2.1 := by decide +kernel
theorem tyX5_ok : ∀ k, k < 3 → parseFieldDescriptor (TX5 k).2.2.1 = some (tyX5 k) := by decide +kernel
abbrev cX5_init : ByteArray := prog_7_method_1_code
def yX5_init : MethodName := ⟨RX5, "<init>", "()V"⟩
abbrev cX5_copyFrom : ByteArray := prog_7_method_2_code
def yX5_copyFrom : MethodName := ⟨RX5, "copyFrom", "(LKittenStairs$Yarn;)V"⟩
abbrev cX5_lay : ByteArray := prog_7_method_3_code
def yX5_lay : MethodName := ⟨RX5, "lay", "(II)V"⟩
abbrev cX5_removeTop : ByteArray := prog_7_method_4_code
def yX5_removeTop : MethodName := ⟨RX5, "removeTop", "(I)V"⟩
abbrev cX5_removeAll : ByteArray := prog_7_method_5_code
def yX5_removeAll : MethodName := ⟨RX5, "removeAll", "(II)I"⟩
abbrev cX5_topOwner : ByteArray := prog_7_method_6_code
def yX5_topOwner : MethodName := ⟨RX5, "topOwner", "(I)I"⟩
abbrev cX5_ownerAt : ByteArray := prog_7_method_7_code
def yX5_ownerAt : MethodName := ⟨RX5, "ownerAt", "(II)I"⟩
abbrev cX5_lyingAt : ByteArray := prog_7_method_8_code
def yX5_lyingAt : MethodName := ⟨RX5, "lyingAt", "(I)I"⟩
abbrev cX5_lyingOf : ByteArray := prog_7_method_9_code
def yX5_lyingOf : MethodName := ⟨RX5, "lyingOf", "(I)I"⟩
abbrev cX5_ownerSetAt : ByteArray := prog_7_method_10_code
def yX5_ownerSetAt : MethodName := ⟨RX5, "ownerSetAt", "(I)I"⟩
abbrev cX5_boundEdgeSet : ByteArray := prog_7_method_11_code
def yX5_boundEdgeSet : MethodName := ⟨RX5, "boundEdgeSet", "(II)I"⟩
abbrev cX5_fewestGone : ByteArray := prog_7_method_12_code
def yX5_fewestGone : MethodName := ⟨RX5, "fewestGone", "(III)I"⟩
abbrev cX5_mostKept : ByteArray := prog_7_method_13_code
def yX5_mostKept : MethodName := ⟨RX5, "mostKept", "(III)I"⟩
def RX6 : String := "KittenStairs"
def TX6 : u_T := fun k => match k with
  | 0 => ("KittenStairs", "now", "LKittenStairs$Stairs;", true)
  | 1 => ("KittenStairs", "trial", "LKittenStairs$Stairs;", true)
  | 2 => ("KittenStairs", "history", "LKittenStairs$History;", true)
  | 3 => ("KittenStairs", "slots", "[LKittenStairs$Stairs;", true)
  | 4 => ("KittenStairs", "pad", "LKittenStairs$Pad;", true)
  | _ => ("KittenStairs", "orders", "LKittenStairs$Orders;", true)
def tyX6 : Nat → FieldType := fun k => match k with
  | 0 => .object "KittenStairs$Stairs"
  | 1 => .object "KittenStairs$Stairs"
  | 2 => .object "KittenStairs$History"
  | 3 => .array (.object "KittenStairs$Stairs")
  | 4 => .object "KittenStairs$Pad"
  | _ => .object "KittenStairs$Orders"
abbrev wsX60 : List Cond := u_ws RX6 TX6 6
theorem nmX6 : ∀ a, a < 6 → ∀ b, b < 6 → a ≠ b → (TX6 a).2.1 ≠ (TX6 b).2.1 := by decide +kernel
theorem tyX6_ok : ∀ k, k < 6 → parseFieldDescriptor (TX6 k).2.2.1 = some (tyX6 k) := by decide +kernel
abbrev cX6_init : ByteArray := prog_1_method_1_code
def yX6_init : MethodName := ⟨RX6, "<init>", "()V"⟩
abbrev cX6_set : ByteArray := prog_1_method_2_code
def yX6_set : MethodName := ⟨RX6, "set", "(II)I"⟩
abbrev cX6_kitten : ByteArray := prog_1_method_3_code
def yX6_kitten : MethodName := ⟨RX6, "kitten", "(I)I"⟩
abbrev cX6_leap : ByteArray := prog_1_method_4_code
def yX6_leap : MethodName := ⟨RX6, "leap", "(II)I"⟩
abbrev cX6_nap : ByteArray := prog_1_method_5_code
def yX6_nap : MethodName := ⟨RX6, "nap", "(I)I"⟩
abbrev cX6_snip : ByteArray := prog_1_method_6_code
def yX6_snip : MethodName := ⟨RX6, "snip", "(II)I"⟩
abbrev cX6_plan : ByteArray := prog_1_method_7_code
def yX6_plan : MethodName := ⟨RX6, "plan", "(III)I"⟩
abbrev cX6_pass : ByteArray := prog_1_method_8_code
def yX6_pass : MethodName := ⟨RX6, "pass", "(I)I"⟩
abbrev cX6_of : ByteArray := prog_1_method_9_code
def yX6_of : MethodName := ⟨RX6, "of", "(II)I"⟩
abbrev cX6_ofEdge : ByteArray := prog_1_method_10_code
def yX6_ofEdge : MethodName := ⟨RX6, "ofEdge", "(II)I"⟩
abbrev cX6_strand : ByteArray := prog_1_method_11_code
def yX6_strand : MethodName := ⟨RX6, "strand", "(II)I"⟩
abbrev cX6_bound : ByteArray := prog_1_method_12_code
def yX6_bound : MethodName := ⟨RX6, "bound", "(II)I"⟩
abbrev cX6_planned : ByteArray := prog_1_method_13_code
def yX6_planned : MethodName := ⟨RX6, "planned", "(II)I"⟩
abbrev cX6_count : ByteArray := prog_1_method_14_code
def yX6_count : MethodName := ⟨RX6, "count", "(I)I"⟩
abbrev cX6_why : ByteArray := prog_1_method_15_code
def yX6_why : MethodName := ⟨RX6, "why", "(II)I"⟩
abbrev cX6_ifLeapt : ByteArray := prog_1_method_16_code
def yX6_ifLeapt : MethodName := ⟨RX6, "ifLeapt", "(III)I"⟩
abbrev cX6_frees : ByteArray := prog_1_method_17_code
def yX6_frees : MethodName := ⟨RX6, "frees", "(II)I"⟩
abbrev cX6_quietIn : ByteArray := prog_1_method_18_code
def yX6_quietIn : MethodName := ⟨RX6, "quietIn", "()I"⟩
abbrev cX6_stepIn : ByteArray := prog_1_method_19_code
def yX6_stepIn : MethodName := ⟨RX6, "stepIn", "(II)I"⟩
abbrev cX6_thickest : ByteArray := prog_1_method_20_code
def yX6_thickest : MethodName := ⟨RX6, "thickest", "()I"⟩
abbrev cX6_put : ByteArray := prog_1_method_21_code
def yX6_put : MethodName := ⟨RX6, "put", "(J)I"⟩
abbrev cX6_wipe : ByteArray := prog_1_method_22_code
def yX6_wipe : MethodName := ⟨RX6, "wipe", "()I"⟩
abbrev cX6_fault : ByteArray := prog_1_method_23_code
def yX6_fault : MethodName := ⟨RX6, "fault", "()I"⟩
abbrev cX6_carryOut : ByteArray := prog_1_method_24_code
def yX6_carryOut : MethodName := ⟨RX6, "carryOut", "()I"⟩
abbrev cX6_undo : ByteArray := prog_1_method_25_code
def yX6_undo : MethodName := ⟨RX6, "undo", "()I"⟩
abbrev cX6_save : ByteArray := prog_1_method_26_code
def yX6_save : MethodName := ⟨RX6, "save", "(I)I"⟩
abbrev cX6_restore : ByteArray := prog_1_method_27_code
def yX6_restore : MethodName := ⟨RX6, "restore", "(I)I"⟩
abbrev cX6_settled : ByteArray := prog_1_method_28_code
def yX6_settled : MethodName := ⟨RX6, "settled", "(I)I"⟩
abbrev cX6_carryOneOut : ByteArray := prog_1_method_29_code
def yX6_carryOneOut : MethodName := ⟨RX6, "carryOneOut", "(I)I"⟩
abbrev cX6_isEdge : ByteArray := prog_1_method_30_code
def yX6_isEdge : MethodName := ⟨RX6, "isEdge", "(I)Z"⟩
abbrev cX6_isLeap : ByteArray := prog_1_method_31_code
def yX6_isLeap : MethodName := ⟨RX6, "isLeap", "(I)Z"⟩
abbrev cX6_roomAt : ByteArray := prog_1_method_32_code
def yX6_roomAt : MethodName := ⟨RX6, "roomAt", "([LKittenStairs$Stairs;I)LKittenStairs$Stairs;"⟩
def RX7 : String := "KittenStairsModel"
def TX7 : u_T := fun k => match k with
  | 0 => ("KittenStairsModel", "s", "[I", true)
  | 1 => ("KittenStairsModel", "states", "I", false)
  | 2 => ("KittenStairsModel", "isSaved", "[Z", true)
  | 3 => ("KittenStairsModel", "text", "[I", true)
  | 4 => ("KittenStairsModel", "typed", "I", false)
  | 5 => ("KittenStairsModel", "spot", "I", false)
  | 6 => ("KittenStairsModel", "kind", "C", false)
  | 7 => ("KittenStairsModel", "one", "I", false)
  | 8 => ("KittenStairsModel", "two", "I", false)
  | _ => ("KittenStairsModel", "by", "I", false)
def tyX7 : Nat → FieldType := fun k => match k with
  | 0 => .array .int
  | 1 => .int
  | 2 => .array .boolean
  | 3 => .array .int
  | 4 => .int
  | 5 => .int
  | 6 => .char
  | 7 => .int
  | 8 => .int
  | _ => .int
abbrev wsX70 : List Cond := u_ws RX7 TX7 10
theorem nmX7 : ∀ a, a < 10 → ∀ b, b < 10 → a ≠ b → (TX7 a).2.1 ≠ (TX7 b).2.1 := by decide +kernel
theorem tyX7_ok : ∀ k, k < 10 → parseFieldDescriptor (TX7 k).2.2.1 = some (tyX7 k) := by decide +kernel
abbrev cX7_init : ByteArray := prog_9_method_1_code
def yX7_init : MethodName := ⟨RX7, "<init>", "()V"⟩
abbrev cX7_in : ByteArray := prog_9_method_3_code
def yX7_in : MethodName := ⟨RX7, "in", "(JJJ)Z"⟩
abbrev cX7_copies : ByteArray := prog_9_method_4_code
def yX7_copies : MethodName := ⟨RX7, "copies", "(II)V"⟩
abbrev cX7_changes : ByteArray := prog_9_method_5_code
def yX7_changes : MethodName := ⟨RX7, "changes", "()V"⟩
abbrev cX7_size : ByteArray := prog_9_method_6_code
def yX7_size : MethodName := ⟨RX7, "size", "(I)I"⟩
abbrev cX7_kittenAt : ByteArray := prog_9_method_7_code
def yX7_kittenAt : MethodName := ⟨RX7, "kittenAt", "(II)I"⟩
abbrev cX7_planAt : ByteArray := prog_9_method_8_code
def yX7_planAt : MethodName := ⟨RX7, "planAt", "(II)I"⟩
abbrev cX7_naps : ByteArray := prog_9_method_9_code
def yX7_naps : MethodName := ⟨RX7, "naps", "(II)Z"⟩
abbrev cX7_ownerAt : ByteArray := prog_9_method_10_code
def yX7_ownerAt : MethodName := ⟨RX7, "ownerAt", "(III)I"⟩
abbrev cX7_top : ByteArray := prog_9_method_11_code
def yX7_top : MethodName := ⟨RX7, "top", "(II)I"⟩
abbrev cX7_removesStrand : ByteArray := prog_9_method_12_code
def yX7_removesStrand : MethodName := ⟨RX7, "removesStrand", "(II)V"⟩
abbrev cX7_windsBack : ByteArray := prog_9_method_13_code
def yX7_windsBack : MethodName := ⟨RX7, "windsBack", "(III)Z"⟩
abbrev cX7_crosses : ByteArray := prog_9_method_14_code
def yX7_crosses : MethodName := ⟨RX7, "crosses", "(III)V"⟩
abbrev cX7_areBoundAt : ByteArray := prog_9_method_15_code
def yX7_areBoundAt : MethodName := ⟨RX7, "areBoundAt", "(IIII)Z"⟩
abbrev cX7_boundEdges : ByteArray := prog_9_method_16_code
def yX7_boundEdges : MethodName := ⟨RX7, "boundEdges", "(III)I"⟩
abbrev cX7_boundTo : ByteArray := prog_9_method_17_code
def yX7_boundTo : MethodName := ⟨RX7, "boundTo", "(II)I"⟩
abbrev cX7_edgeOf : ByteArray := prog_9_method_18_code
def yX7_edgeOf : MethodName := ⟨RX7, "edgeOf", "(IIII)I"⟩
abbrev cX7_cost : ByteArray := prog_9_method_19_code
def yX7_cost : MethodName := ⟨RX7, "cost", "(I)I"⟩
abbrev cX7_isHeldBack : ByteArray := prog_9_method_20_code
def yX7_isHeldBack : MethodName := ⟨RX7, "isHeldBack", "(III)Z"⟩
abbrev cX7_isTooShort : ByteArray := prog_9_method_21_code
def yX7_isTooShort : MethodName := ⟨RX7, "isTooShort", "(III)Z"⟩
abbrev cX7_reason : ByteArray := prog_9_method_22_code
def yX7_reason : MethodName := ⟨RX7, "reason", "(III)I"⟩
abbrev cX7_leaps : ByteArray := prog_9_method_23_code
def yX7_leaps : MethodName := ⟨RX7, "leaps", "(III)I"⟩
abbrev cX7_turn : ByteArray := prog_9_method_24_code
def yX7_turn : MethodName := ⟨RX7, "turn", "(I)I"⟩
abbrev cX7_turns : ByteArray := prog_9_method_25_code
def yX7_turns : MethodName := ⟨RX7, "turns", "(II)I"⟩
abbrev cX7_isKitten : ByteArray := prog_9_method_26_code
def yX7_isKitten : MethodName := ⟨RX7, "isKitten", "(I)Z"⟩
abbrev cX7_isEdge : ByteArray := prog_9_method_27_code
def yX7_isEdge : MethodName := ⟨RX7, "isEdge", "(I)Z"⟩
abbrev cX7_areSteps : ByteArray := prog_9_method_28_code
def yX7_areSteps : MethodName := ⟨RX7, "areSteps", "(I)Z"⟩
abbrev cX7_kittenError : ByteArray := prog_9_method_29_code
def yX7_kittenError : MethodName := ⟨RX7, "kittenError", "(I)I"⟩
abbrev cX7_leapError : ByteArray := prog_9_method_30_code
def yX7_leapError : MethodName := ⟨RX7, "leapError", "(II)I"⟩
abbrev cX7_napError : ByteArray := prog_9_method_31_code
def yX7_napError : MethodName := ⟨RX7, "napError", "(I)I"⟩
abbrev cX7_strandsAt : ByteArray := prog_9_method_32_code
def yX7_strandsAt : MethodName := ⟨RX7, "strandsAt", "(II)I"⟩
abbrev cX7_snipError : ByteArray := prog_9_method_33_code
def yX7_snipError : MethodName := ⟨RX7, "snipError", "(II)I"⟩
abbrev cX7_planError : ByteArray := prog_9_method_34_code
def yX7_planError : MethodName := ⟨RX7, "planError", "(III)I"⟩
abbrev cX7_passError : ByteArray := prog_9_method_35_code
def yX7_passError : MethodName := ⟨RX7, "passError", "(I)I"⟩
abbrev cX7_comes : ByteArray := prog_9_method_36_code
def yX7_comes : MethodName := ⟨RX7, "comes", "(I)I"⟩
abbrev cX7_sleeps : ByteArray := prog_9_method_37_code
def yX7_sleeps : MethodName := ⟨RX7, "sleeps", "(I)I"⟩
abbrev cX7_snips : ByteArray := prog_9_method_38_code
def yX7_snips : MethodName := ⟨RX7, "snips", "(II)I"⟩
abbrev cX7_plans : ByteArray := prog_9_method_39_code
def yX7_plans : MethodName := ⟨RX7, "plans", "(III)I"⟩
abbrev cX7_isValue : ByteArray := prog_9_method_40_code
def yX7_isValue : MethodName := ⟨RX7, "isValue", "(II)Z"⟩
abbrev cX7_set : ByteArray := prog_9_method_41_code
def yX7_set : MethodName := ⟨RX7, "set", "(II)I"⟩
abbrev cX7_kitten : ByteArray := prog_9_method_42_code
def yX7_kitten : MethodName := ⟨RX7, "kitten", "(I)I"⟩
abbrev cX7_leap : ByteArray := prog_9_method_43_code
def yX7_leap : MethodName := ⟨RX7, "leap", "(II)I"⟩
abbrev cX7_nap : ByteArray := prog_9_method_44_code
def yX7_nap : MethodName := ⟨RX7, "nap", "(I)I"⟩
abbrev cX7_snip : ByteArray := prog_9_method_45_code
def yX7_snip : MethodName := ⟨RX7, "snip", "(II)I"⟩
abbrev cX7_plan : ByteArray := prog_9_method_46_code
def yX7_plan : MethodName := ⟨RX7, "plan", "(III)I"⟩
abbrev cX7_pass : ByteArray := prog_9_method_47_code
def yX7_pass : MethodName := ⟨RX7, "pass", "(I)I"⟩
abbrev cX7_ones : ByteArray := prog_9_method_48_code
def yX7_ones : MethodName := ⟨RX7, "ones", "(I)I"⟩
abbrev cX7_strandsOf : ByteArray := prog_9_method_49_code
def yX7_strandsOf : MethodName := ⟨RX7, "strandsOf", "(I)I"⟩
abbrev cX7_stepsOf : ByteArray := prog_9_method_50_code
def yX7_stepsOf : MethodName := ⟨RX7, "stepsOf", "(I)I"⟩
abbrev cX7_of : ByteArray := prog_9_method_51_code
def yX7_of : MethodName := ⟨RX7, "of", "(II)I"⟩
abbrev cX7_thickness : ByteArray := prog_9_method_52_code
def yX7_thickness : MethodName := ⟨RX7, "thickness", "(I)I"⟩
abbrev cX7_kittensAt : ByteArray := prog_9_method_53_code
def yX7_kittensAt : MethodName := ⟨RX7, "kittensAt", "(I)I"⟩
abbrev cX7_pairsAt : ByteArray := prog_9_method_54_code
def yX7_pairsAt : MethodName := ⟨RX7, "pairsAt", "(I)I"⟩
abbrev cX7_ofEdge : ByteArray := prog_9_method_55_code
def yX7_ofEdge : MethodName := ⟨RX7, "ofEdge", "(II)I"⟩
abbrev cX7_strand : ByteArray := prog_9_method_56_code
def yX7_strand : MethodName := ⟨RX7, "strand", "(II)I"⟩
abbrev cX7_bound : ByteArray := prog_9_method_57_code
def yX7_bound : MethodName := ⟨RX7, "bound", "(II)I"⟩
abbrev cX7_planned : ByteArray := prog_9_method_58_code
def yX7_planned : MethodName := ⟨RX7, "planned", "(II)I"⟩
abbrev cX7_napping : ByteArray := prog_9_method_59_code
def yX7_napping : MethodName := ⟨RX7, "napping", "()I"⟩
abbrev cX7_all : ByteArray := prog_9_method_60_code
def yX7_all : MethodName := ⟨RX7, "all", "(I)I"⟩
abbrev cX7_pairs : ByteArray := prog_9_method_61_code
def yX7_pairs : MethodName := ⟨RX7, "pairs", "()I"⟩
abbrev cX7_count : ByteArray := prog_9_method_62_code
def yX7_count : MethodName := ⟨RX7, "count", "(I)I"⟩
abbrev cX7_why : ByteArray := prog_9_method_63_code
def yX7_why : MethodName := ⟨RX7, "why", "(II)I"⟩
abbrev cX7_ifLeapt : ByteArray := prog_9_method_64_code
def yX7_ifLeapt : MethodName := ⟨RX7, "ifLeapt", "(III)I"⟩
abbrev cX7_sorting : ByteArray := prog_9_method_65_code
def yX7_sorting : MethodName := ⟨RX7, "sorting", "(III)I"⟩
abbrev cX7_frees : ByteArray := prog_9_method_66_code
def yX7_frees : MethodName := ⟨RX7, "frees", "(II)I"⟩
abbrev cX7_quietIn : ByteArray := prog_9_method_67_code
def yX7_quietIn : MethodName := ⟨RX7, "quietIn", "()I"⟩
abbrev cX7_stepIn : ByteArray := prog_9_method_68_code
def yX7_stepIn : MethodName := ⟨RX7, "stepIn", "(II)I"⟩
abbrev cX7_thickest : ByteArray := prog_9_method_69_code
def yX7_thickest : MethodName := ⟨RX7, "thickest", "()I"⟩
abbrev cX7_charactersOf : ByteArray := prog_9_method_70_code
def yX7_charactersOf : MethodName := ⟨RX7, "charactersOf", "(J)I"⟩
abbrev cX7_put : ByteArray := prog_9_method_71_code
def yX7_put : MethodName := ⟨RX7, "put", "(J)I"⟩
abbrev cX7_wipe : ByteArray := prog_9_method_72_code
def yX7_wipe : MethodName := ⟨RX7, "wipe", "()I"⟩
abbrev cX7_isHere : ByteArray := prog_9_method_73_code
def yX7_isHere : MethodName := ⟨RX7, "isHere", "(II)Z"⟩
abbrev cX7_takes : ByteArray := prog_9_method_74_code
def yX7_takes : MethodName := ⟨RX7, "takes", "(I)Z"⟩
abbrev cX7_digit : ByteArray := prog_9_method_75_code
def yX7_digit : MethodName := ⟨RX7, "digit", "()I"⟩
abbrev cX7_number : ByteArray := prog_9_method_76_code
def yX7_number : MethodName := ⟨RX7, "number", "()I"⟩
abbrev cX7_readsBy : ByteArray := prog_9_method_77_code
def yX7_readsBy : MethodName := ⟨RX7, "readsBy", "()Z"⟩
abbrev cX7_readsKitten : ByteArray := prog_9_method_78_code
def yX7_readsKitten : MethodName := ⟨RX7, "readsKitten", "()Z"⟩
abbrev cX7_readsNumber : ByteArray := prog_9_method_79_code
def yX7_readsNumber : MethodName := ⟨RX7, "readsNumber", "()Z"⟩
abbrev cX7_readsOrder : ByteArray := prog_9_method_80_code
def yX7_readsOrder : MethodName := ⟨RX7, "readsOrder", "()Z"⟩
abbrev cX7_fault : ByteArray := prog_9_method_81_code
def yX7_fault : MethodName := ⟨RX7, "fault", "()I"⟩
abbrev cX7_orderError : ByteArray := prog_9_method_82_code
def yX7_orderError : MethodName := ⟨RX7, "orderError", "()I"⟩
abbrev cX7_does : ByteArray := prog_9_method_83_code
def yX7_does : MethodName := ⟨RX7, "does", "()I"⟩
abbrev cX7_carryOut : ByteArray := prog_9_method_84_code
def yX7_carryOut : MethodName := ⟨RX7, "carryOut", "()I"⟩
abbrev cX7_undo : ByteArray := prog_9_method_85_code
def yX7_undo : MethodName := ⟨RX7, "undo", "()I"⟩
abbrev cX7_isSlot : ByteArray := prog_9_method_86_code
def yX7_isSlot : MethodName := ⟨RX7, "isSlot", "(I)Z"⟩
abbrev cX7_save : ByteArray := prog_9_method_87_code
def yX7_save : MethodName := ⟨RX7, "save", "(I)I"⟩
abbrev cX7_restore : ByteArray := prog_9_method_88_code
def yX7_restore : MethodName := ⟨RX7, "restore", "(I)I"⟩
def RJ9 : String := "java/lang/Math"
def TJ9 : u_T := fun k => match k with
  | _ => ("", "", "", false)
def tyJ9 : Nat → FieldType := fun k => match k with
  | _ => .int
abbrev cJ9_abs_0f7a4 : ByteArray := prog_10_method_59_code
def yJ9_abs_0f7a4 : MethodName := ⟨RJ9, "abs", "(I)I"⟩
abbrev cJ9_max_7cf53 : ByteArray := prog_10_method_65_code
def yJ9_max_7cf53 : MethodName := ⟨RJ9, "max", "(II)I"⟩
def RJ10 : String := "java/lang/System"
def TJ10 : u_T := fun k => match k with
  | _ => ("", "", "", false)
def tyJ10 : Nat → FieldType := fun k => match k with
  | _ => .int
def RL : String := "KittenStairsLaw"
abbrev cL_law : ByteArray := code
def yL_law : MethodName := ⟨RL, "law", "([I)Z"⟩
abbrev vwCl : List vw_C := [(RX0, TX0, 3), (RX1, TX1, 4), (RX2, TX2, 2), (RX3, TX3, 4), (RX4, TX4, 14), (RX5, TX5, 3), (RX6, TX6, 6), (RX7, TX7, 10)]
end
section

/-! THE ABSTRACT HEAP: the cells that the law's run makes, in the order in which they are made: cell i lies at the address z + i -/
abbrev ks_H : Type := List va_E
/-- z; the classes; the classes of int[], boolean[] and Stairs[]; the addresses of the three static rows -/
abbrev ks_G : Type := Nat × va_G × (ClassId × ClassId × ClassId) × (Nat × Nat × Nat)
def ks_ref (g : ks_G) (i : Nat) : Value := .ref (g.1 + i)
def ks_I (g : ks_G) (n : Nat) (f : Nat → Int32) : va_E := .inl (g.2.2.1.1, (n, .inl f))
def ks_Z (g : ks_G) (n : Nat) (f : Nat → Int32) : va_E := .inl (g.2.2.1.2.1, (n, .inl f))
def ks_S (g : ks_G) (n : Nat) (f : Nat → Option Nat) : va_E := .inl (g.2.2.1.2.2, (n, .inr (.inr (.inr (.inr (fun k => (f k).map (fun i => g.1 + i)))))))
def ks_O (ci : Nat) (fs : List Value) : va_E := .inr (ci, fs)
def ks_tys (g : ks_G) : List (ClassId × FieldType) := [(g.2.2.1.1, .int), (g.2.2.1.2.1, .boolean), (g.2.2.1.2.2, .object RX4)]
def ks_A (g : ks_G) : Nat → Prop := fun q => g.1 ≤ q
def ks_wl (z : Nat) (h : ks_H) : va_W := h.mapIdx (fun i e => (z + i, e))
theorem ks_wl_get {z : Nat} {h : ks_H} {i : Nat} {e : va_E} (hi : h[i]? = some e) : (ks_wl z h)[i]? = some (z + i, e) := by
  simp [ks_wl, hi]
theorem ks_wl_inv {z : Nat} {h : ks_H} {i : Nat} {q : Nat × va_E} (hi : (ks_wl z h)[i]? = some q) : ∃ e, h[i]? = some e ∧ q = (z + i, e) := by
  simp only [ks_wl, List.getElem?_mapIdx, Option.map_eq_some_iff] at hi
  obtain ⟨e, h1, h2⟩ := hi
  exact ⟨e, h1, h2.symm⟩
theorem ks_wl_set {z : Nat} {h : ks_H} {i : Nat} {e : va_E} : (ks_wl z h).set i (z + i, e) = ks_wl z (h.set i e) := by
  simp [ks_wl, List.mapIdx_set]
theorem ks_wl_push {z : Nat} {h : ks_H} {e : va_E} : ks_wl z h ++ [(z + h.length, e)] = ks_wl z (h ++ [e]) := by
  simp [ks_wl, List.mapIdx_append]
theorem ks_wl_D {g : ks_G} {h : ks_H} : va_D (ks_A g) (ks_wl g.1 h) := by
  refine ⟨fun i j p q hi hj hpq => ?_, fun k q hk => ?_⟩
  · obtain ⟨e1, -, rfl⟩ := ks_wl_inv hi
    obtain ⟨e2, -, rfl⟩ := ks_wl_inv hj
    have : g.1 + i = g.1 + j := hpq
    omega
  · obtain ⟨e1, -, rfl⟩ := ks_wl_inv hk
    exact Nat.le_add_right _ _
def ks_R (g : ks_G) (h : ks_H) (H : Heap) : Prop := H.size = g.1 + h.length ∧ va_P g.2.1 vwCl (ks_wl g.1 h) H
def ks_St1 (g : ks_G) (nm : String) (a : Nat) (vs : List Int32) (U : State) (H : Heap) : Prop := va_Z RX6 nm "[I" (.ref a) (ks_A g) U H ∧ va_T .int a 4 (fun j => .int (vs.getD j 0)) (ks_A g) U H
def ks_St (g : ks_G) (U : State) (H : Heap) : Prop := ks_St1 g "FIRST_VALUE" g.2.2.2.1 [3, 4, 5, 14] U H ∧ ks_St1 g "LOWEST" g.2.2.2.2.1 [1, 0, 1, 2] U H ∧ ks_St1 g "HIGHEST" g.2.2.2.2.2 [8, 15, 30, 60] U H
theorem ks_St1.moved {g : ks_G} {nm : String} {a : Nat} {vs : List Int32} {u U : State} {H : Heap} (hvm : u.vm.Alike U.vm) (x : ks_St1 g nm a vs u H) : ks_St1 g nm a vs U H := ⟨x.1.moved hvm, x.2.moved hvm⟩
theorem ks_St1.kept {g : ks_G} {nm : String} {a : Nat} {vs : List Int32} {U : State} {H H1 : Heap} (x : ks_St1 g nm a vs U H) (hq : ∀ a : Nat, a < H.size → ¬ ks_A g a → H1[a]? = H[a]?) : ks_St1 g nm a vs U H1 := ⟨x.1.kept hq, x.2.kept hq⟩
theorem ks_St.moved {g : ks_G} {u U : State} {H : Heap} (hvm : u.vm.Alike U.vm) (x : ks_St g u H) : ks_St g U H := ⟨x.1.moved hvm, x.2.1.moved hvm, x.2.2.moved hvm⟩
theorem ks_St.kept {g : ks_G} {U : State} {H H1 : Heap} (x : ks_St g U H) (hq : ∀ a : Nat, a < H.size → ¬ ks_A g a → H1[a]? = H[a]?) : ks_St g U H1 := ⟨x.1.kept hq, x.2.1.kept hq, x.2.2.kept hq⟩
/-- the words that every call hands on -/
def lw_g : List Cond := lw_tbl.filter goodWord
theorem ks_mg {w : Cond} (i : Nat) (hi : lw_tbl[i]? = some w) (hg : goodWord w = true) : w ∈ lw_g := List.mem_filter.mpr ⟨List.mem_of_getElem? hi, hg⟩
def ks_nm : List (String × Nat × MethodName × String) := [(RX4, 51, yX5_init, RX6), (RX4, 58, yX3_init, RX6), (RX6, 21, yX0_init, RX6), (RX6, 32, yX2_init, RX6), (RX6, 39, yX1_init, RX6), (RX0, 24, yX6_roomAt, RX6), (RX4, 89, yX6_isLeap, RX6), (RX4, 103, yX6_isEdge, RX6)]
def ks_nf : List (String × Nat × String × String × String × String) := [(RX4, 63, RX6, "FIRST_VALUE", "[I", RX6), (RX4, 79, RX6, "LOWEST", "[I", RX6), (RX4, 82, RX6, "HIGHEST", "[I", RX6)]
def ks_Nw (U : State) : Prop := (∀ q ∈ ks_nm, va_Nw (.methodLinkNest q.1 q.2.1 q.2.2.1 q.2.2.2) U) ∧ (∀ q ∈ ks_nf, va_Nw (.fieldLinkNest q.1 q.2.1 q.2.2.1 q.2.2.2.1 q.2.2.2.2.1 q.2.2.2.2.2) U) ∧ va_AO RX4 U
theorem ks_Nw.warm {s U : State} (hW : s.WarmedH U.vm) (x : ks_Nw s) : ks_Nw U := ⟨fun q hq => (x.1 q hq).warmM hW, fun q hq => (x.2.1 q hq).warmF hW, x.2.2.moved hW.alike⟩
theorem ks_Nw.same {u U : State} (hv : u.vm = U.vm) (x : ks_Nw u) : ks_Nw U := ⟨fun q hq => (x.1 q hq).same rfl hv, fun q hq => (x.2.1 q hq).same rfl hv, x.2.2.moved (hv ▸ Vm.Alike.refl u.vm)⟩
/-- the world at a state -/
def ks_W (g : ks_G) (h : ks_H) (U : State) : Prop := ks_R g h U.heap ∧ va_K g.2.1 vwCl (ks_tys g) U ∧ ks_St g U U.heap ∧ ks_Nw U
abbrev ks_C : Type := Program × Launch × Env × Room × State × MethodId × Array Value × List Frame × Method × Code × (State → Prop)
/-- the machine stands at pc with these locals and this stack, over the abstract heap h; k cells and n slots were made; it comes to its end -/
def ks_K (κ : ks_C) (g : ks_G) (nL : Nat) (h : ks_H) (k n pc : Nat) (ls : List (Nat × Value)) (st : List Value) : Prop :=
  match κ with
  | (p, l, e, R, s, m, args, below, meth, c, Q) => ∀ (H : Heap) (locs : List Loc) (la : Array Slot), ks_R g h H → va_S (ks_A g) s.heap H locs → lv_has la nL ls → W p l e R s m args below meth c H locs k n Q (F0 m pc la st)
def ks_Ok (κ : ks_C) (g : ks_G) (own nm : String) (cc : ByteArray) (nL d mc ms : Nat) : Prop :=
  match κ with
  | (p, _, _, R, s, m, args, _, meth, c, _) => p.tables.exec = Jvm.exec ∧ c.code = cc ∧ c.maxLocals = nL ∧ s.vm.findClass own = some m.cls ∧ (∀ w ∈ lw_g, w.before args s = true) ∧ meth.name = nm ∧ R.frames = d ∧ 40 * d ≤ R.locals ∧ R.cells = mc ∧ R.slots = ms ∧ va_K g.2.1 vwCl (ks_tys g) s ∧ ks_St g s s.heap ∧ ks_Nw s ∧ g.1 ≤ s.heap.size
def ks_Q (g : ks_G) (Post : Option Value → ks_H → Prop) : Array Value → State → Outcome → State → Prop := fun _ st o t => (∃ (v : Option Value) (h' : ks_H), o = .returned v ∧ Post v h' ∧ ks_R g h' t.heap) ∧ va_F (ks_A g) st t
def ks_Rt (κ : ks_C) (g : ks_G) (ret : Option FieldType) (mc ms : Nat) (Post : Option Value → ks_H → Prop) : Prop :=
  match κ with
  | (_, _, _, _, s, _, args, below, meth, _, Q) => meth.sig.returnType = ret ∧ meth.locks = false ∧ Q = MQ below (ks_Q g Post) args s mc ms (ks_A g)
abbrev ks_M : Type := MethodName × ByteArray × Nat × Option FieldType
def ks_room (d mc ms : Nat) : Room := { frames := d, cells := mc, slots := ms, locals := 40 * d }
/-- method M, called with these arguments over h, comes to its end with an answer and a heap of which Post holds -/
def ks_Met (g : ks_G) (M : ks_M) (d mc ms : Nat) (av : List Value) (h : ks_H) (Post : Option Value → ks_H → Prop) : Prop :=
  ∀ l : Launch, Met l M.1 (.code M.1 M.2.1 M.2.2.1 M.2.2.2 :: lw_g) (ks_room d mc ms) (va_Pc av (ks_W g h)) (ks_Q g Post) mc ms (ks_A g)
theorem ks_good {y : MethodName} {cc : ByteArray} {nL : Nat} {ret : Option FieldType} (hc : Cond.code y cc nL ret ∈ lw_g) : GoodIn lw_g (.code y cc nL ret :: lw_g) := by
  intro w hw
  rcases List.mem_cons.mp hw with rfl | hw
  · exact ⟨hc, good_of_word (List.mem_filter.mp hc).2⟩
  · exact ⟨hw, good_of_word (List.mem_filter.mp hw).2⟩
theorem ks_intro {g : ks_G} {y : MethodName} {cc : ByteArray} {nL : Nat} {ret : Option FieldType} {d mc ms : Nat} {av : List Value} {h : ks_H} {Post : Option Value → ks_H → Prop} (hy : plainName y.cls = true) (hnl : (lg_sl av).length ≤ nL)
    (kk : ∀ κ : ks_C, ks_Ok κ g y.cls y.name cc nL d mc ms → ks_Rt κ g ret mc ms Post → ks_K κ g nL h 0 0 0 (lv_args 0 av) []) : ks_Met g (y, cc, nL, ret) d mc ms av h Post := by
  intro l
  refine Met.ofW (cc := cc) (maxL := nL) (ret := ret) hy rfl ?_
  intro p e s m args below meth c s₁ B hml hv
  obtain ⟨rfl, hR, hK, hSt, hNw⟩ := hv
  have hts := atoms_spec (ws := .code y cc nL ret :: lw_g) B.pre
  have hown : s.vm.findClass y.cls = some m.cls := findClass_of_methodNamed B.named
  have hin : meth.name = y.name := (name_of_methodNamed B.named B.method).1
  have hl := lv_entry av hnl
  rw [lg_entry_eq]
  exact kk (p, l, e, _, s, m, _, below, meth, c, _) ⟨B.exec, B.bytes, hml, hown, fun w hw => hts w (List.mem_cons_of_mem _ hw), hin, rfl, Nat.le_refl _, rfl, rfl, hK, hSt, hNw, by rw [hR.1]; exact Nat.le_add_right _ _⟩ ⟨B.returns, B.notSynchronized, rfl⟩ s.heap [] _ hR va_S.rf hl
section KSR
variable {κ : ks_C} {g : ks_G} {own nm : String} {cc : ByteArray} {nL d mc ms k n : Nat} {h : ks_H} {ls : List (Nat × Value)} {st : List Value}
theorem ks_iconst (hκ : ks_Ok κ g own nm cc nL d mc ms) (pc : Nat) {q : Int} (v : Int32) (hd : decode cc pc = .ok (.iconst q, 1)) (hv : Int32.ofInt q = v) (kk : ks_K κ g nL h k n (pc + 1) ls (.int v :: st)) : ks_K κ g nL h k n pc ls st := by
  obtain ⟨p, l, e, R, s, m, args, below, meth, c, Q⟩ := κ
  obtain ⟨hx, hb, hml, hown, hts, hin, hfr, hlo, hce, hsl, hK, hSt, hNw, hz⟩ := hκ
  exact fun H locs la hR hS hl => lv_iconst hx hb hd hv (kk H locs la hR hS hl)
theorem ks_bipush (hκ : ks_Ok κ g own nm cc nL d mc ms) (pc : Nat) {q : Int} (v : Int32) (hd : decode cc pc = .ok (.bipush q, 2)) (hv : (Int8.ofInt q).toInt32 = v) (kk : ks_K κ g nL h k n (pc + 2) ls (.int v :: st)) : ks_K κ g nL h k n pc ls st := by
  obtain ⟨p, l, e, R, s, m, args, below, meth, c, Q⟩ := κ
  obtain ⟨hx, hb, hml, hown, hts, hin, hfr, hlo, hce, hsl, hK, hSt, hNw, hz⟩ := hκ
  exact fun H locs la hR hS hl => lv_bipush hx hb hd hv (kk H locs la hR hS hl)
theorem ks_sipush (hκ : ks_Ok κ g own nm cc nL d mc ms) (pc : Nat) {q : Int} (v : Int32) (hd : decode cc pc = .ok (.sipush q, 3)) (hv : (Int16.ofInt q).toInt32 = v) (kk : ks_K κ g nL h k n (pc + 3) ls (.int v :: st)) : ks_K κ g nL h k n pc ls st := by
  obtain ⟨p, l, e, R, s, m, args, below, meth, c, Q⟩ := κ
  obtain ⟨hx, hb, hml, hown, hts, hin, hfr, hlo, hce, hsl, hK, hSt, hNw, hz⟩ := hκ
  exact fun H locs la hR hS hl => lv_sipush hx hb hd hv (kk H locs la hR hS hl)
theorem ks_lconst (hκ : ks_Ok κ g own nm cc nL d mc ms) (pc : Nat) {q : Fin 2} (v : Int64) (hd : decode cc pc = .ok (.lconst q, 1)) (hv : Int64.ofNat (q : Nat) = v) (kk : ks_K κ g nL h k n (pc + 1) ls (.long v :: st)) : ks_K κ g nL h k n pc ls st := by
  obtain ⟨p, l, e, R, s, m, args, below, meth, c, Q⟩ := κ
  obtain ⟨hx, hb, hml, hown, hts, hin, hfr, hlo, hce, hsl, hK, hSt, hNw, hz⟩ := hκ
  exact fun H locs la hR hS hl => lv_lconst hx hb hd hv (kk H locs la hR hS hl)
theorem ks_iadd (hκ : ks_Ok κ g own nm cc nL d mc ms) (pc : Nat) {x y : Int32} (hd : decode cc pc = .ok (.iadd, 1))  (kk : ks_K κ g nL h k n (pc + 1) ls (.int (x + y) :: st)) : ks_K κ g nL h k n pc ls (.int y :: .int x :: st) := by
  obtain ⟨p, l, e, R, s, m, args, below, meth, c, Q⟩ := κ
  obtain ⟨hx, hb, hml, hown, hts, hin, hfr, hlo, hce, hsl, hK, hSt, hNw, hz⟩ := hκ
  exact fun H locs la hR hS hl => lv_iadd hx hb hd  (kk H locs la hR hS hl)
theorem ks_isub (hκ : ks_Ok κ g own nm cc nL d mc ms) (pc : Nat) {x y : Int32} (hd : decode cc pc = .ok (.isub, 1))  (kk : ks_K κ g nL h k n (pc + 1) ls (.int (x - y) :: st)) : ks_K κ g nL h k n pc ls (.int y :: .int x :: st) := by
  obtain ⟨p, l, e, R, s, m, args, below, meth, c, Q⟩ := κ
  obtain ⟨hx, hb, hml, hown, hts, hin, hfr, hlo, hce, hsl, hK, hSt, hNw, hz⟩ := hκ
  exact fun H locs la hR hS hl => lv_isub hx hb hd  (kk H locs la hR hS hl)
theorem ks_imul (hκ : ks_Ok κ g own nm cc nL d mc ms) (pc : Nat) {x y : Int32} (hd : decode cc pc = .ok (.imul, 1))  (kk : ks_K κ g nL h k n (pc + 1) ls (.int (x * y) :: st)) : ks_K κ g nL h k n pc ls (.int y :: .int x :: st) := by
  obtain ⟨p, l, e, R, s, m, args, below, meth, c, Q⟩ := κ
  obtain ⟨hx, hb, hml, hown, hts, hin, hfr, hlo, hce, hsl, hK, hSt, hNw, hz⟩ := hκ
  exact fun H locs la hR hS hl => lv_imul hx hb hd  (kk H locs la hR hS hl)
theorem ks_iand (hκ : ks_Ok κ g own nm cc nL d mc ms) (pc : Nat) {x y : Int32} (hd : decode cc pc = .ok (.iand, 1))  (kk : ks_K κ g nL h k n (pc + 1) ls (.int (x &&& y) :: st)) : ks_K κ g nL h k n pc ls (.int y :: .int x :: st) := by
  obtain ⟨p, l, e, R, s, m, args, below, meth, c, Q⟩ := κ
  obtain ⟨hx, hb, hml, hown, hts, hin, hfr, hlo, hce, hsl, hK, hSt, hNw, hz⟩ := hκ
  exact fun H locs la hR hS hl => lv_iand hx hb hd  (kk H locs la hR hS hl)
theorem ks_ior (hκ : ks_Ok κ g own nm cc nL d mc ms) (pc : Nat) {x y : Int32} (hd : decode cc pc = .ok (.ior, 1))  (kk : ks_K κ g nL h k n (pc + 1) ls (.int (x ||| y) :: st)) : ks_K κ g nL h k n pc ls (.int y :: .int x :: st) := by
  obtain ⟨p, l, e, R, s, m, args, below, meth, c, Q⟩ := κ
  obtain ⟨hx, hb, hml, hown, hts, hin, hfr, hlo, hce, hsl, hK, hSt, hNw, hz⟩ := hκ
  exact fun H locs la hR hS hl => lv_ior hx hb hd  (kk H locs la hR hS hl)
theorem ks_ixor (hκ : ks_Ok κ g own nm cc nL d mc ms) (pc : Nat) {x y : Int32} (hd : decode cc pc = .ok (.ixor, 1))  (kk : ks_K κ g nL h k n (pc + 1) ls (.int (x ^^^ y) :: st)) : ks_K κ g nL h k n pc ls (.int y :: .int x :: st) := by
  obtain ⟨p, l, e, R, s, m, args, below, meth, c, Q⟩ := κ
  obtain ⟨hx, hb, hml, hown, hts, hin, hfr, hlo, hce, hsl, hK, hSt, hNw, hz⟩ := hκ
  exact fun H locs la hR hS hl => lv_ixor hx hb hd  (kk H locs la hR hS hl)
theorem ks_idiv (hκ : ks_Ok κ g own nm cc nL d mc ms) (pc : Nat) {x y : Int32} (hd : decode cc pc = .ok (.idiv, 1)) (hy : ¬ y = 0) (kk : ks_K κ g nL h k n (pc + 1) ls (.int (x / y) :: st)) : ks_K κ g nL h k n pc ls (.int y :: .int x :: st) := by
  obtain ⟨p, l, e, R, s, m, args, below, meth, c, Q⟩ := κ
  obtain ⟨hx, hb, hml, hown, hts, hin, hfr, hlo, hce, hsl, hK, hSt, hNw, hz⟩ := hκ
  exact fun H locs la hR hS hl => lv_idiv hx hb hd hy (kk H locs la hR hS hl)
theorem ks_irem (hκ : ks_Ok κ g own nm cc nL d mc ms) (pc : Nat) {x y : Int32} (hd : decode cc pc = .ok (.irem, 1)) (hy : ¬ y = 0) (kk : ks_K κ g nL h k n (pc + 1) ls (.int (x - (x / y) * y) :: st)) : ks_K κ g nL h k n pc ls (.int y :: .int x :: st) := by
  obtain ⟨p, l, e, R, s, m, args, below, meth, c, Q⟩ := κ
  obtain ⟨hx, hb, hml, hown, hts, hin, hfr, hlo, hce, hsl, hK, hSt, hNw, hz⟩ := hκ
  exact fun H locs la hR hS hl => lv_irem hx hb hd hy (kk H locs la hR hS hl)
theorem ks_ineg (hκ : ks_Ok κ g own nm cc nL d mc ms) (pc : Nat) {x : Int32} (hd : decode cc pc = .ok (.ineg, 1))  (kk : ks_K κ g nL h k n (pc + 1) ls (.int (0 - x) :: st)) : ks_K κ g nL h k n pc ls (.int x :: st) := by
  obtain ⟨p, l, e, R, s, m, args, below, meth, c, Q⟩ := κ
  obtain ⟨hx, hb, hml, hown, hts, hin, hfr, hlo, hce, hsl, hK, hSt, hNw, hz⟩ := hκ
  exact fun H locs la hR hS hl => lv_ineg hx hb hd  (kk H locs la hR hS hl)
theorem ks_land (hκ : ks_Ok κ g own nm cc nL d mc ms) (pc : Nat) {x y : Int64} (hd : decode cc pc = .ok (.land, 1))  (kk : ks_K κ g nL h k n (pc + 1) ls (.long (x &&& y) :: st)) : ks_K κ g nL h k n pc ls (.long y :: .long x :: st) := by
  obtain ⟨p, l, e, R, s, m, args, below, meth, c, Q⟩ := κ
  obtain ⟨hx, hb, hml, hown, hts, hin, hfr, hlo, hce, hsl, hK, hSt, hNw, hz⟩ := hκ
  exact fun H locs la hR hS hl => lv_land hx hb hd  (kk H locs la hR hS hl)
theorem ks_lor (hκ : ks_Ok κ g own nm cc nL d mc ms) (pc : Nat) {x y : Int64} (hd : decode cc pc = .ok (.lor, 1))  (kk : ks_K κ g nL h k n (pc + 1) ls (.long (x ||| y) :: st)) : ks_K κ g nL h k n pc ls (.long y :: .long x :: st) := by
  obtain ⟨p, l, e, R, s, m, args, below, meth, c, Q⟩ := κ
  obtain ⟨hx, hb, hml, hown, hts, hin, hfr, hlo, hce, hsl, hK, hSt, hNw, hz⟩ := hκ
  exact fun H locs la hR hS hl => lv_lor hx hb hd  (kk H locs la hR hS hl)
theorem ks_ishl (hκ : ks_Ok κ g own nm cc nL d mc ms) (pc : Nat) {x y : Int32} (hd : decode cc pc = .ok (.ishl, 1))  (kk : ks_K κ g nL h k n (pc + 1) ls (.int (x <<< (y &&& 31)) :: st)) : ks_K κ g nL h k n pc ls (.int y :: .int x :: st) := by
  obtain ⟨p, l, e, R, s, m, args, below, meth, c, Q⟩ := κ
  obtain ⟨hx, hb, hml, hown, hts, hin, hfr, hlo, hce, hsl, hK, hSt, hNw, hz⟩ := hκ
  exact fun H locs la hR hS hl => lv_ishl hx hb hd  (kk H locs la hR hS hl)
theorem ks_ishr (hκ : ks_Ok κ g own nm cc nL d mc ms) (pc : Nat) {x y : Int32} (hd : decode cc pc = .ok (.ishr, 1))  (kk : ks_K κ g nL h k n (pc + 1) ls (.int (x >>> (y &&& 31)) :: st)) : ks_K κ g nL h k n pc ls (.int y :: .int x :: st) := by
  obtain ⟨p, l, e, R, s, m, args, below, meth, c, Q⟩ := κ
  obtain ⟨hx, hb, hml, hown, hts, hin, hfr, hlo, hce, hsl, hK, hSt, hNw, hz⟩ := hκ
  exact fun H locs la hR hS hl => lv_ishr hx hb hd  (kk H locs la hR hS hl)
theorem ks_i2l (hκ : ks_Ok κ g own nm cc nL d mc ms) (pc : Nat) {x : Int32} (hd : decode cc pc = .ok (.i2l, 1))  (kk : ks_K κ g nL h k n (pc + 1) ls (.long x.toInt64 :: st)) : ks_K κ g nL h k n pc ls (.int x :: st) := by
  obtain ⟨p, l, e, R, s, m, args, below, meth, c, Q⟩ := κ
  obtain ⟨hx, hb, hml, hown, hts, hin, hfr, hlo, hce, hsl, hK, hSt, hNw, hz⟩ := hκ
  exact fun H locs la hR hS hl => lv_i2l hx hb hd rfl (kk H locs la hR hS hl)
theorem ks_l2i (hκ : ks_Ok κ g own nm cc nL d mc ms) (pc : Nat) {x : Int64} (hd : decode cc pc = .ok (.l2i, 1))  (kk : ks_K κ g nL h k n (pc + 1) ls (.int x.toInt32 :: st)) : ks_K κ g nL h k n pc ls (.long x :: st) := by
  obtain ⟨p, l, e, R, s, m, args, below, meth, c, Q⟩ := κ
  obtain ⟨hx, hb, hml, hown, hts, hin, hfr, hlo, hce, hsl, hK, hSt, hNw, hz⟩ := hκ
  exact fun H locs la hR hS hl => lv_l2i hx hb hd rfl (kk H locs la hR hS hl)
theorem ks_i2c (hκ : ks_Ok κ g own nm cc nL d mc ms) (pc : Nat) {x : Int32} (hd : decode cc pc = .ok (.i2c, 1))  (kk : ks_K κ g nL h k n (pc + 1) ls (.int (x.toUInt32 % 65536).toInt32 :: st)) : ks_K κ g nL h k n pc ls (.int x :: st) := by
  obtain ⟨p, l, e, R, s, m, args, below, meth, c, Q⟩ := κ
  obtain ⟨hx, hb, hml, hown, hts, hin, hfr, hlo, hce, hsl, hK, hSt, hNw, hz⟩ := hκ
  exact fun H locs la hR hS hl => lv_i2c hx hb hd rfl (kk H locs la hR hS hl)
theorem ks_lushr (hκ : ks_Ok κ g own nm cc nL d mc ms) (pc : Nat) {x : Int64} {y : Int32} (hd : decode cc pc = .ok (.lushr, 1))  (kk : ks_K κ g nL h k n (pc + 1) ls (.long (x.toUInt64 >>> (y.toInt64.toUInt64 &&& Int64.toUInt64 63)).toInt64 :: st)) : ks_K κ g nL h k n pc ls (.int y :: .long x :: st) := by
  obtain ⟨p, l, e, R, s, m, args, below, meth, c, Q⟩ := κ
  obtain ⟨hx, hb, hml, hown, hts, hin, hfr, hlo, hce, hsl, hK, hSt, hNw, hz⟩ := hκ
  exact fun H locs la hR hS hl => lv_lushr hx hb hd rfl (kk H locs la hR hS hl)
theorem ks_lshl (hκ : ks_Ok κ g own nm cc nL d mc ms) (pc : Nat) {x : Int64} {y : Int32} (hd : decode cc pc = .ok (.lshl, 1))  (kk : ks_K κ g nL h k n (pc + 1) ls (.long (x <<< (y.toInt64 &&& 63)) :: st)) : ks_K κ g nL h k n pc ls (.int y :: .long x :: st) := by
  obtain ⟨p, l, e, R, s, m, args, below, meth, c, Q⟩ := κ
  obtain ⟨hx, hb, hml, hown, hts, hin, hfr, hlo, hce, hsl, hK, hSt, hNw, hz⟩ := hκ
  exact fun H locs la hR hS hl => lv_lshl hx hb hd rfl (kk H locs la hR hS hl)
theorem ks_lcmp (hκ : ks_Ok κ g own nm cc nL d mc ms) (pc : Nat) {x y : Int64} (hd : decode cc pc = .ok (.lcmp, 1))  (kk : ks_K κ g nL h k n (pc + 1) ls (.int (lg_cmp x y) :: st)) : ks_K κ g nL h k n pc ls (.long y :: .long x :: st) := by
  obtain ⟨p, l, e, R, s, m, args, below, meth, c, Q⟩ := κ
  obtain ⟨hx, hb, hml, hown, hts, hin, hfr, hlo, hce, hsl, hK, hSt, hNw, hz⟩ := hκ
  exact fun H locs la hR hS hl => W.lcmp hx hb hd  (kk H locs la hR hS hl)
theorem ks_dup (hκ : ks_Ok κ g own nm cc nL d mc ms) (pc : Nat) {v : Value} (hd : decode cc pc = .ok (.dup, 1)) (hv : v.category = 1) (kk : ks_K κ g nL h k n (pc + 1) ls (v :: v :: st)) : ks_K κ g nL h k n pc ls (v :: st) := by
  obtain ⟨p, l, e, R, s, m, args, below, meth, c, Q⟩ := κ
  obtain ⟨hx, hb, hml, hown, hts, hin, hfr, hlo, hce, hsl, hK, hSt, hNw, hz⟩ := hκ
  exact fun H locs la hR hS hl => lv_dup hx hb hd hv (kk H locs la hR hS hl)
theorem ks_pop (hκ : ks_Ok κ g own nm cc nL d mc ms) (pc : Nat) {v : Value} (hd : decode cc pc = .ok (.pop, 1)) (hv : v.category = 1) (kk : ks_K κ g nL h k n (pc + 1) ls st) : ks_K κ g nL h k n pc ls (v :: st) := by
  obtain ⟨p, l, e, R, s, m, args, below, meth, c, Q⟩ := κ
  obtain ⟨hx, hb, hml, hown, hts, hin, hfr, hlo, hce, hsl, hK, hSt, hNw, hz⟩ := hκ
  exact fun H locs la hR hS hl => lv_pop hx hb hd hv (kk H locs la hR hS hl)
theorem ks_dup2 (hκ : ks_Ok κ g own nm cc nL d mc ms) (pc : Nat) {va vb : Value} (hd : decode cc pc = .ok (.dup2, 1)) (hva : va.category = 1) (hvb : vb.category = 1) (kk : ks_K κ g nL h k n (pc + 1) ls (va :: vb :: va :: vb :: st)) : ks_K κ g nL h k n pc ls (va :: vb :: st) := by
  obtain ⟨p, l, e, R, s, m, args, below, meth, c, Q⟩ := κ
  obtain ⟨hx, hb, hml, hown, hts, hin, hfr, hlo, hce, hsl, hK, hSt, hNw, hz⟩ := hκ
  exact fun H locs la hR hS hl => lv_dup2_11 hx hb hd hva hvb (kk H locs la hR hS hl)
theorem ks_null (hκ : ks_Ok κ g own nm cc nL d mc ms) (pc : Nat)  (hd : decode cc pc = .ok (.aconst_null, 1))  (kk : ks_K κ g nL h k n (pc + 1) ls (.null :: st)) : ks_K κ g nL h k n pc ls st := by
  obtain ⟨p, l, e, R, s, m, args, below, meth, c, Q⟩ := κ
  obtain ⟨hx, hb, hml, hown, hts, hin, hfr, hlo, hce, hsl, hK, hSt, hNw, hz⟩ := hκ
  exact fun H locs la hR hS hl => lv_null hx hb hd  (kk H locs la hR hS hl)
theorem ks_iload_n (hκ : ks_Ok κ g own nm cc nL d mc ms) (pc : Nat) (j : Nat) {q : Fin 4} {x : Int32} (hd : decode cc pc = .ok (.iload_n q, 1)) (hj : ls[j]? = some (q.val, .int x)) (kk : ks_K κ g nL h k n (pc + 1) ls (.int x :: st)) : ks_K κ g nL h k n pc ls st := by
  obtain ⟨p, l, e, R, s, m, args, below, meth, c, Q⟩ := κ
  obtain ⟨hx, hb, hml, hown, hts, hin, hfr, hlo, hce, hsl, hK, hSt, hNw, hz⟩ := hκ
  exact fun H locs la hR hS hl => lv_iload_n hx hb hd rfl (lv_at hl j hj) (kk H locs la hR hS hl)
theorem ks_iload (hκ : ks_Ok κ g own nm cc nL d mc ms) (pc : Nat) (j : Nat) {q : Nat} {x : Int32} (hd : decode cc pc = .ok (.iload q, 2)) (hj : ls[j]? = some (q, .int x)) (kk : ks_K κ g nL h k n (pc + 2) ls (.int x :: st)) : ks_K κ g nL h k n pc ls st := by
  obtain ⟨p, l, e, R, s, m, args, below, meth, c, Q⟩ := κ
  obtain ⟨hx, hb, hml, hown, hts, hin, hfr, hlo, hce, hsl, hK, hSt, hNw, hz⟩ := hκ
  exact fun H locs la hR hS hl => lv_iload hx hb hd (lv_at hl j hj) (kk H locs la hR hS hl)
theorem ks_lload_n (hκ : ks_Ok κ g own nm cc nL d mc ms) (pc : Nat) (j : Nat) {q : Fin 4} {x : Int64} (hd : decode cc pc = .ok (.lload_n q, 1)) (hj : ls[j]? = some (q.val, .long x)) (kk : ks_K κ g nL h k n (pc + 1) ls (.long x :: st)) : ks_K κ g nL h k n pc ls st := by
  obtain ⟨p, l, e, R, s, m, args, below, meth, c, Q⟩ := κ
  obtain ⟨hx, hb, hml, hown, hts, hin, hfr, hlo, hce, hsl, hK, hSt, hNw, hz⟩ := hκ
  exact fun H locs la hR hS hl => lv_lload_n hx hb hd rfl (lv_at hl j hj) (kk H locs la hR hS hl)
theorem ks_lload (hκ : ks_Ok κ g own nm cc nL d mc ms) (pc : Nat) (j : Nat) {q : Nat} {x : Int64} (hd : decode cc pc = .ok (.lload q, 2)) (hj : ls[j]? = some (q, .long x)) (kk : ks_K κ g nL h k n (pc + 2) ls (.long x :: st)) : ks_K κ g nL h k n pc ls st := by
  obtain ⟨p, l, e, R, s, m, args, below, meth, c, Q⟩ := κ
  obtain ⟨hx, hb, hml, hown, hts, hin, hfr, hlo, hce, hsl, hK, hSt, hNw, hz⟩ := hκ
  exact fun H locs la hR hS hl => lv_lload hx hb hd (lv_at hl j hj) (kk H locs la hR hS hl)
theorem ks_aload_n (hκ : ks_Ok κ g own nm cc nL d mc ms) (pc : Nat) (j : Nat) {q : Fin 4} {x : Nat} (hd : decode cc pc = .ok (.aload_n q, 1)) (hj : ls[j]? = some (q.val, ks_ref g x)) (kk : ks_K κ g nL h k n (pc + 1) ls (ks_ref g x :: st)) : ks_K κ g nL h k n pc ls st := by
  obtain ⟨p, l, e, R, s, m, args, below, meth, c, Q⟩ := κ
  obtain ⟨hx, hb, hml, hown, hts, hin, hfr, hlo, hce, hsl, hK, hSt, hNw, hz⟩ := hκ
  exact fun H locs la hR hS hl => lv_aload_n hx hb hd rfl (lv_at hl j hj) (kk H locs la hR hS hl)
theorem ks_aload (hκ : ks_Ok κ g own nm cc nL d mc ms) (pc : Nat) (j : Nat) {q : Nat} {x : Nat} (hd : decode cc pc = .ok (.aload q, 2)) (hj : ls[j]? = some (q, ks_ref g x)) (kk : ks_K κ g nL h k n (pc + 2) ls (ks_ref g x :: st)) : ks_K κ g nL h k n pc ls st := by
  obtain ⟨p, l, e, R, s, m, args, below, meth, c, Q⟩ := κ
  obtain ⟨hx, hb, hml, hown, hts, hin, hfr, hlo, hce, hsl, hK, hSt, hNw, hz⟩ := hκ
  exact fun H locs la hR hS hl => lv_aload hx hb hd (lv_at hl j hj) (kk H locs la hR hS hl)
theorem ks_aload_nr (hκ : ks_Ok κ g own nm cc nL d mc ms) (pc : Nat) (j : Nat) {q : Fin 4} {x : Nat} (hd : decode cc pc = .ok (.aload_n q, 1)) (hj : ls[j]? = some (q.val, .ref x)) (kk : ks_K κ g nL h k n (pc + 1) ls (.ref x :: st)) : ks_K κ g nL h k n pc ls st := by
  obtain ⟨p, l, e, R, s, m, args, below, meth, c, Q⟩ := κ
  obtain ⟨hx, hb, hml, hown, hts, hin, hfr, hlo, hce, hsl, hK, hSt, hNw, hz⟩ := hκ
  exact fun H locs la hR hS hl => lv_aload_n hx hb hd rfl (lv_at hl j hj) (kk H locs la hR hS hl)
theorem ks_istore_n (hκ : ks_Ok κ g own nm cc nL d mc ms) (pc : Nat) (i : Nat) {q : Fin 4} {x : Int32} (lv : List (Nat × Value)) (hd : decode cc pc = .ok (.istore_n q, 1)) (hq : (q : Nat) = i) (hn : i < nL) (hl0 : (i, .int x) :: ls.filter (fun q => !(q.1 == i) && !(q.1 + 1 == i && q.2.category == 2)) = lv) (kk : ks_K κ g nL h k n (pc + 1) lv st) : ks_K κ g nL h k n pc ls (.int x :: st) := by
  obtain ⟨p, l, e, R, s, m, args, below, meth, c, Q⟩ := κ
  obtain ⟨hx, hb, hml, hown, hts, hin, hfr, hlo, hce, hsl, hK, hSt, hNw, hz⟩ := hκ
  exact fun H locs la hR hS hl => lv_istore_n hx hb hd hq hl hn hl0 (fun la' hl' => kk H locs la' hR hS hl')
theorem ks_istore (hκ : ks_Ok κ g own nm cc nL d mc ms) (pc : Nat) (i : Nat) {x : Int32} (lv : List (Nat × Value)) (hd : decode cc pc = .ok (.istore i, 2)) (hn : i < nL) (hl0 : (i, .int x) :: ls.filter (fun q => !(q.1 == i) && !(q.1 + 1 == i && q.2.category == 2)) = lv) (kk : ks_K κ g nL h k n (pc + 2) lv st) : ks_K κ g nL h k n pc ls (.int x :: st) := by
  obtain ⟨p, l, e, R, s, m, args, below, meth, c, Q⟩ := κ
  obtain ⟨hx, hb, hml, hown, hts, hin, hfr, hlo, hce, hsl, hK, hSt, hNw, hz⟩ := hκ
  exact fun H locs la hR hS hl => lv_istore hx hb hd hl hn hl0 (fun la' hl' => kk H locs la' hR hS hl')
theorem ks_astore_n (hκ : ks_Ok κ g own nm cc nL d mc ms) (pc : Nat) (i : Nat) {q : Fin 4} {x : Nat} (lv : List (Nat × Value)) (hd : decode cc pc = .ok (.astore_n q, 1)) (hq : (q : Nat) = i) (hn : i < nL) (hl0 : (i, ks_ref g x) :: ls.filter (fun q => !(q.1 == i) && !(q.1 + 1 == i && q.2.category == 2)) = lv) (kk : ks_K κ g nL h k n (pc + 1) lv st) : ks_K κ g nL h k n pc ls (ks_ref g x :: st) := by
  obtain ⟨p, l, e, R, s, m, args, below, meth, c, Q⟩ := κ
  obtain ⟨hx, hb, hml, hown, hts, hin, hfr, hlo, hce, hsl, hK, hSt, hNw, hz⟩ := hκ
  exact fun H locs la hR hS hl => lv_astore_n hx hb hd hq hl hn hl0 (fun la' hl' => kk H locs la' hR hS hl')
theorem ks_astore (hκ : ks_Ok κ g own nm cc nL d mc ms) (pc : Nat) (i : Nat) {x : Nat} (lv : List (Nat × Value)) (hd : decode cc pc = .ok (.astore i, 2)) (hn : i < nL) (hl0 : (i, ks_ref g x) :: ls.filter (fun q => !(q.1 == i) && !(q.1 + 1 == i && q.2.category == 2)) = lv) (kk : ks_K κ g nL h k n (pc + 2) lv st) : ks_K κ g nL h k n pc ls (ks_ref g x :: st) := by
  obtain ⟨p, l, e, R, s, m, args, below, meth, c, Q⟩ := κ
  obtain ⟨hx, hb, hml, hown, hts, hin, hfr, hlo, hce, hsl, hK, hSt, hNw, hz⟩ := hκ
  exact fun H locs la hR hS hl => lv_astore hx hb hd hl hn hl0 (fun la' hl' => kk H locs la' hR hS hl')
theorem ks_lstore_n (hκ : ks_Ok κ g own nm cc nL d mc ms) (pc : Nat) (i : Nat) {q : Fin 4} {x : Int64} (lv : List (Nat × Value)) (hd : decode cc pc = .ok (.lstore_n q, 1)) (hq : (q : Nat) = i) (hn : i + 1 < nL) (hl0 : (i, .long x) :: ls.filter (fun q => !(q.1 == i) && (!(q.1 == i + 1) && !(q.1 + 1 == i && q.2.category == 2))) = lv) (kk : ks_K κ g nL h k n (pc + 1) lv st) : ks_K κ g nL h k n pc ls (.long x :: st) := by
  obtain ⟨p, l, e, R, s, m, args, below, meth, c, Q⟩ := κ
  obtain ⟨hx, hb, hml, hown, hts, hin, hfr, hlo, hce, hsl, hK, hSt, hNw, hz⟩ := hκ
  exact fun H locs la hR hS hl => lv_lstore_n hx hb hd hq hl hn hl0 (fun la' hl' => kk H locs la' hR hS hl')
theorem ks_lstore (hκ : ks_Ok κ g own nm cc nL d mc ms) (pc : Nat) (i : Nat) {x : Int64} (lv : List (Nat × Value)) (hd : decode cc pc = .ok (.lstore i, 2)) (hn : i + 1 < nL) (hl0 : (i, .long x) :: ls.filter (fun q => !(q.1 == i) && (!(q.1 == i + 1) && !(q.1 + 1 == i && q.2.category == 2))) = lv) (kk : ks_K κ g nL h k n (pc + 2) lv st) : ks_K κ g nL h k n pc ls (.long x :: st) := by
  obtain ⟨p, l, e, R, s, m, args, below, meth, c, Q⟩ := κ
  obtain ⟨hx, hb, hml, hown, hts, hin, hfr, hlo, hce, hsl, hK, hSt, hNw, hz⟩ := hκ
  exact fun H locs la hR hS hl => lv_lstore hx hb hd hl hn hl0 (fun la' hl' => kk H locs la' hR hS hl')
theorem ks_iinc (hκ : ks_Ok κ g own nm cc nL d mc ms) (pc : Nat) (i j : Nat) {q : Int} {x : Int32} (v : Int32) (lv : List (Nat × Value)) (hd : decode cc pc = .ok (.iinc i q, 3)) (hj : ls[j]? = some (i, .int x)) (hv : x + Int32.ofInt q = v) (hn : i < nL) (hl0 : (i, .int v) :: ls.filter (fun q => !(q.1 == i) && !(q.1 + 1 == i && q.2.category == 2)) = lv) (kk : ks_K κ g nL h k n (pc + 3) lv st) : ks_K κ g nL h k n pc ls st := by
  obtain ⟨p, l, e, R, s, m, args, below, meth, c, Q⟩ := κ
  obtain ⟨hx, hb, hml, hown, hts, hin, hfr, hlo, hce, hsl, hK, hSt, hNw, hz⟩ := hκ
  exact fun H locs la hR hS hl => lv_iinc hx hb hd hl hj hv hn hl0 (fun la' hl' => kk H locs la' hR hS hl')
theorem ks_if_eq (hκ : ks_Ok κ g own nm cc nL d mc ms) (pc : Nat) (tgt : Nat) {off : Int} {x : Int32} (hd : decode cc pc = .ok (.ifCond .eq off, 3)) (ht : (pc : Int) + off = (tgt : Int)) (kt : x = 0 → ks_K κ g nL h k n tgt ls st) (kf : ¬ x = 0 → ks_K κ g nL h k n (pc + 3) ls st) : ks_K κ g nL h k n pc ls (.int x :: st) := by
  obtain ⟨p, l, e, R, s, m, args, below, meth, c, Q⟩ := κ
  obtain ⟨hx, hb, hml, hown, hts, hin, hfr, hlo, hce, hsl, hK, hSt, hNw, hz⟩ := hκ
  exact fun H locs la hR hS hl => lv_if_eq hx hb hd ht (fun q => kt q H locs la hR hS hl) (fun q => kf q H locs la hR hS hl)
theorem ks_if_ne (hκ : ks_Ok κ g own nm cc nL d mc ms) (pc : Nat) (tgt : Nat) {off : Int} {x : Int32} (hd : decode cc pc = .ok (.ifCond .ne off, 3)) (ht : (pc : Int) + off = (tgt : Int)) (kt : ¬ x = 0 → ks_K κ g nL h k n tgt ls st) (kf : x = 0 → ks_K κ g nL h k n (pc + 3) ls st) : ks_K κ g nL h k n pc ls (.int x :: st) := by
  obtain ⟨p, l, e, R, s, m, args, below, meth, c, Q⟩ := κ
  obtain ⟨hx, hb, hml, hown, hts, hin, hfr, hlo, hce, hsl, hK, hSt, hNw, hz⟩ := hκ
  exact fun H locs la hR hS hl => lv_if_ne hx hb hd ht (fun q => kt q H locs la hR hS hl) (fun q => kf q H locs la hR hS hl)
theorem ks_if_lt (hκ : ks_Ok κ g own nm cc nL d mc ms) (pc : Nat) (tgt : Nat) {off : Int} {x : Int32} (hd : decode cc pc = .ok (.ifCond .lt off, 3)) (ht : (pc : Int) + off = (tgt : Int)) (kt : x < 0 → ks_K κ g nL h k n tgt ls st) (kf : ¬ x < 0 → ks_K κ g nL h k n (pc + 3) ls st) : ks_K κ g nL h k n pc ls (.int x :: st) := by
  obtain ⟨p, l, e, R, s, m, args, below, meth, c, Q⟩ := κ
  obtain ⟨hx, hb, hml, hown, hts, hin, hfr, hlo, hce, hsl, hK, hSt, hNw, hz⟩ := hκ
  exact fun H locs la hR hS hl => lv_if_lt hx hb hd ht (fun q => kt q H locs la hR hS hl) (fun q => kf q H locs la hR hS hl)
theorem ks_if_ge (hκ : ks_Ok κ g own nm cc nL d mc ms) (pc : Nat) (tgt : Nat) {off : Int} {x : Int32} (hd : decode cc pc = .ok (.ifCond .ge off, 3)) (ht : (pc : Int) + off = (tgt : Int)) (kt : 0 ≤ x → ks_K κ g nL h k n tgt ls st) (kf : ¬ 0 ≤ x → ks_K κ g nL h k n (pc + 3) ls st) : ks_K κ g nL h k n pc ls (.int x :: st) := by
  obtain ⟨p, l, e, R, s, m, args, below, meth, c, Q⟩ := κ
  obtain ⟨hx, hb, hml, hown, hts, hin, hfr, hlo, hce, hsl, hK, hSt, hNw, hz⟩ := hκ
  exact fun H locs la hR hS hl => lv_if_ge hx hb hd ht (fun q => kt q H locs la hR hS hl) (fun q => kf q H locs la hR hS hl)
theorem ks_if_gt (hκ : ks_Ok κ g own nm cc nL d mc ms) (pc : Nat) (tgt : Nat) {off : Int} {x : Int32} (hd : decode cc pc = .ok (.ifCond .gt off, 3)) (ht : (pc : Int) + off = (tgt : Int)) (kt : 0 < x → ks_K κ g nL h k n tgt ls st) (kf : ¬ 0 < x → ks_K κ g nL h k n (pc + 3) ls st) : ks_K κ g nL h k n pc ls (.int x :: st) := by
  obtain ⟨p, l, e, R, s, m, args, below, meth, c, Q⟩ := κ
  obtain ⟨hx, hb, hml, hown, hts, hin, hfr, hlo, hce, hsl, hK, hSt, hNw, hz⟩ := hκ
  exact fun H locs la hR hS hl => lv_if_gt hx hb hd ht (fun q => kt q H locs la hR hS hl) (fun q => kf q H locs la hR hS hl)
theorem ks_if_le (hκ : ks_Ok κ g own nm cc nL d mc ms) (pc : Nat) (tgt : Nat) {off : Int} {x : Int32} (hd : decode cc pc = .ok (.ifCond .le off, 3)) (ht : (pc : Int) + off = (tgt : Int)) (kt : x ≤ 0 → ks_K κ g nL h k n tgt ls st) (kf : ¬ x ≤ 0 → ks_K κ g nL h k n (pc + 3) ls st) : ks_K κ g nL h k n pc ls (.int x :: st) := by
  obtain ⟨p, l, e, R, s, m, args, below, meth, c, Q⟩ := κ
  obtain ⟨hx, hb, hml, hown, hts, hin, hfr, hlo, hce, hsl, hK, hSt, hNw, hz⟩ := hκ
  exact fun H locs la hR hS hl => lv_if_le hx hb hd ht (fun q => kt q H locs la hR hS hl) (fun q => kf q H locs la hR hS hl)
theorem ks_icmp_eq (hκ : ks_Ok κ g own nm cc nL d mc ms) (pc : Nat) (tgt : Nat) {off : Int} {x y : Int32} (hd : decode cc pc = .ok (.if_icmp .eq off, 3)) (ht : (pc : Int) + off = (tgt : Int)) (kt : x = y → ks_K κ g nL h k n tgt ls st) (kf : ¬ x = y → ks_K κ g nL h k n (pc + 3) ls st) : ks_K κ g nL h k n pc ls (.int y :: .int x :: st) := by
  obtain ⟨p, l, e, R, s, m, args, below, meth, c, Q⟩ := κ
  obtain ⟨hx, hb, hml, hown, hts, hin, hfr, hlo, hce, hsl, hK, hSt, hNw, hz⟩ := hκ
  exact fun H locs la hR hS hl => lv_icmp_eq hx hb hd ht (fun q => kt q H locs la hR hS hl) (fun q => kf q H locs la hR hS hl)
theorem ks_icmp_ne (hκ : ks_Ok κ g own nm cc nL d mc ms) (pc : Nat) (tgt : Nat) {off : Int} {x y : Int32} (hd : decode cc pc = .ok (.if_icmp .ne off, 3)) (ht : (pc : Int) + off = (tgt : Int)) (kt : ¬ x = y → ks_K κ g nL h k n tgt ls st) (kf : x = y → ks_K κ g nL h k n (pc + 3) ls st) : ks_K κ g nL h k n pc ls (.int y :: .int x :: st) := by
  obtain ⟨p, l, e, R, s, m, args, below, meth, c, Q⟩ := κ
  obtain ⟨hx, hb, hml, hown, hts, hin, hfr, hlo, hce, hsl, hK, hSt, hNw, hz⟩ := hκ
  exact fun H locs la hR hS hl => lv_icmp_ne hx hb hd ht (fun q => kt q H locs la hR hS hl) (fun q => kf q H locs la hR hS hl)
theorem ks_icmp_lt (hκ : ks_Ok κ g own nm cc nL d mc ms) (pc : Nat) (tgt : Nat) {off : Int} {x y : Int32} (hd : decode cc pc = .ok (.if_icmp .lt off, 3)) (ht : (pc : Int) + off = (tgt : Int)) (kt : x < y → ks_K κ g nL h k n tgt ls st) (kf : ¬ x < y → ks_K κ g nL h k n (pc + 3) ls st) : ks_K κ g nL h k n pc ls (.int y :: .int x :: st) := by
  obtain ⟨p, l, e, R, s, m, args, below, meth, c, Q⟩ := κ
  obtain ⟨hx, hb, hml, hown, hts, hin, hfr, hlo, hce, hsl, hK, hSt, hNw, hz⟩ := hκ
  exact fun H locs la hR hS hl => lv_icmp_lt hx hb hd ht (fun q => kt q H locs la hR hS hl) (fun q => kf q H locs la hR hS hl)
theorem ks_icmp_ge (hκ : ks_Ok κ g own nm cc nL d mc ms) (pc : Nat) (tgt : Nat) {off : Int} {x y : Int32} (hd : decode cc pc = .ok (.if_icmp .ge off, 3)) (ht : (pc : Int) + off = (tgt : Int)) (kt : y ≤ x → ks_K κ g nL h k n tgt ls st) (kf : ¬ y ≤ x → ks_K κ g nL h k n (pc + 3) ls st) : ks_K κ g nL h k n pc ls (.int y :: .int x :: st) := by
  obtain ⟨p, l, e, R, s, m, args, below, meth, c, Q⟩ := κ
  obtain ⟨hx, hb, hml, hown, hts, hin, hfr, hlo, hce, hsl, hK, hSt, hNw, hz⟩ := hκ
  exact fun H locs la hR hS hl => lv_icmp_ge hx hb hd ht (fun q => kt q H locs la hR hS hl) (fun q => kf q H locs la hR hS hl)
theorem ks_icmp_gt (hκ : ks_Ok κ g own nm cc nL d mc ms) (pc : Nat) (tgt : Nat) {off : Int} {x y : Int32} (hd : decode cc pc = .ok (.if_icmp .gt off, 3)) (ht : (pc : Int) + off = (tgt : Int)) (kt : y < x → ks_K κ g nL h k n tgt ls st) (kf : ¬ y < x → ks_K κ g nL h k n (pc + 3) ls st) : ks_K κ g nL h k n pc ls (.int y :: .int x :: st) := by
  obtain ⟨p, l, e, R, s, m, args, below, meth, c, Q⟩ := κ
  obtain ⟨hx, hb, hml, hown, hts, hin, hfr, hlo, hce, hsl, hK, hSt, hNw, hz⟩ := hκ
  exact fun H locs la hR hS hl => lv_icmp_gt hx hb hd ht (fun q => kt q H locs la hR hS hl) (fun q => kf q H locs la hR hS hl)
theorem ks_icmp_le (hκ : ks_Ok κ g own nm cc nL d mc ms) (pc : Nat) (tgt : Nat) {off : Int} {x y : Int32} (hd : decode cc pc = .ok (.if_icmp .le off, 3)) (ht : (pc : Int) + off = (tgt : Int)) (kt : x ≤ y → ks_K κ g nL h k n tgt ls st) (kf : ¬ x ≤ y → ks_K κ g nL h k n (pc + 3) ls st) : ks_K κ g nL h k n pc ls (.int y :: .int x :: st) := by
  obtain ⟨p, l, e, R, s, m, args, below, meth, c, Q⟩ := κ
  obtain ⟨hx, hb, hml, hown, hts, hin, hfr, hlo, hce, hsl, hK, hSt, hNw, hz⟩ := hκ
  exact fun H locs la hR hS hl => lv_icmp_le hx hb hd ht (fun q => kt q H locs la hR hS hl) (fun q => kf q H locs la hR hS hl)
theorem ks_goto (hκ : ks_Ok κ g own nm cc nL d mc ms) (pc : Nat) (tgt : Nat) {off : Int} (hd : decode cc pc = .ok (.goto off, 3)) (ht : (pc : Int) + off = (tgt : Int)) (kk : ks_K κ g nL h k n tgt ls st) : ks_K κ g nL h k n pc ls st := by
  obtain ⟨p, l, e, R, s, m, args, below, meth, c, Q⟩ := κ
  obtain ⟨hx, hb, hml, hown, hts, hin, hfr, hlo, hce, hsl, hK, hSt, hNw, hz⟩ := hκ
  exact fun H locs la hR hS hl => lv_goto hx hb hd ht (kk H locs la hR hS hl)
theorem ks_ifnonnull (hκ : ks_Ok κ g own nm cc nL d mc ms) (pc : Nat) (tgt : Nat) {off : Int} {x : Nat} (hd : decode cc pc = .ok (.ifnonnull off, 3)) (ht : (pc : Int) + off = (tgt : Int)) (kk : ks_K κ g nL h k n tgt ls st) : ks_K κ g nL h k n pc ls (ks_ref g x :: st) := by
  obtain ⟨p, l, e, R, s, m, args, below, meth, c, Q⟩ := κ
  obtain ⟨hx, hb, hml, hown, hts, hin, hfr, hlo, hce, hsl, hK, hSt, hNw, hz⟩ := hκ
  exact fun H locs la hR hS hl => lv_ifnonnull hx hb hd ht (kk H locs la hR hS hl)
theorem ks_ifnonnullN (hκ : ks_Ok κ g own nm cc nL d mc ms) (pc : Nat) {off : Int} (hd : decode cc pc = .ok (.ifnonnull off, 3)) (kk : ks_K κ g nL h k n (pc + 3) ls st) : ks_K κ g nL h k n pc ls (.null :: st) := by
  obtain ⟨p, l, e, R, s, m, args, below, meth, c, Q⟩ := κ
  obtain ⟨hx, hb, hml, hown, hts, hin, hfr, hlo, hce, hsl, hK, hSt, hNw, hz⟩ := hκ
  exact fun H locs la hR hS hl => lv_ifnonnullN hx hb hd (kk H locs la hR hS hl)
theorem ks_tableOut (hκ : ks_Ok κ g own nm cc nL d mc ms) (pc : Nat) (tgt : Nat) {dflt lo hi : Int} {offs : Array Int} {len : Nat} {x : Int32} (hd : decode cc pc = .ok (.tableswitch dflt lo hi offs, len)) (hr : x.toInt < lo ∨ hi < x.toInt) (ht : (pc : Int) + dflt = (tgt : Int)) (kk : ks_K κ g nL h k n tgt ls st) : ks_K κ g nL h k n pc ls (.int x :: st) := by
  obtain ⟨p, l, e, R, s, m, args, below, meth, c, Q⟩ := κ
  obtain ⟨hx, hb, hml, hown, hts, hin, hfr, hlo, hce, hsl, hK, hSt, hNw, hz⟩ := hκ
  exact fun H locs la hR hS hl => lv_tableOut hx hb hd hr ht (kk H locs la hR hS hl)
theorem ks_tableIn (hκ : ks_Ok κ g own nm cc nL d mc ms) (pc : Nat) (tgt : Nat) {dflt lo hi : Int} {offs : Array Int} {len : Nat} {x : Int32} {off : Int} (hd : decode cc pc = .ok (.tableswitch dflt lo hi offs, len)) (h1 : ¬ x.toInt < lo) (h2 : ¬ hi < x.toInt) (ho : offs[(x.toInt - lo).toNat]? = some off) (ht : (pc : Int) + off = (tgt : Int)) (kk : ks_K κ g nL h k n tgt ls st) : ks_K κ g nL h k n pc ls (.int x :: st) := by
  obtain ⟨p, l, e, R, s, m, args, below, meth, c, Q⟩ := κ
  obtain ⟨hx, hb, hml, hown, hts, hin, hfr, hlo, hce, hsl, hK, hSt, hNw, hz⟩ := hκ
  exact fun H locs la hR hS hl => lv_tableIn hx hb hd h1 h2 ho ht (kk H locs la hR hS hl)
theorem ks_lookup (hκ : ks_Ok κ g own nm cc nL d mc ms) (pc : Nat) (tgt : Nat) {dflt : Int} {ps : Array (Int × Int)} {len : Nat} {x : Int32} {off : Int} (hd : decode cc pc = .ok (.lookupswitch dflt ps, len)) (hp : (ps.toList.zip (ps.toList.drop 1)).all (fun (a, next) => a.1 < next.1) = true) (ho : Op.lookupswitch.offset ps.toList dflt x.toInt = off) (ht : (pc : Int) + off = (tgt : Int)) (kk : ks_K κ g nL h k n tgt ls st) : ks_K κ g nL h k n pc ls (.int x :: st) := by
  obtain ⟨p, l, e, R, s, m, args, below, meth, c, Q⟩ := κ
  obtain ⟨hx, hb, hml, hown, hts, hin, hfr, hlo, hce, hsl, hK, hSt, hNw, hz⟩ := hκ
  exact fun H locs la hR hS hl => lv_lookup hx hb hd hp ho ht (kk H locs la hR hS hl)
theorem ks_ldc2 (hκ : ks_Ok κ g own nm cc nL d mc ms) (pc : Nat) {ix : Nat} (v : Int64) (hd : decode cc pc = .ok (.ldc2_w ix, 3)) (hw : Cond.constantLong own ix v ∈ lw_g) (kk : ks_K κ g nL h k n (pc + 3) ls (.long v :: st)) : ks_K κ g nL h k n pc ls st := by
  obtain ⟨p, l, e, R, s, m, args, below, meth, c, Q⟩ := κ
  obtain ⟨hx, hb, hml, hown, hts, hin, hfr, hlo, hce, hsl, hK, hSt, hNw, hz⟩ := hκ
  exact fun H locs la hR hS hl => lv_ldc2 hx hb hown (hts _ hw) hd (kk H locs la hR hS hl)
theorem ks_cv {pc : Nat} {h' : ks_H} {ls' : List (Nat × Value)} {st' : List Value} (kk : ks_K κ g nL h k n pc ls st) (e1 : h' = h) (e2 : ls' = ls) (e3 : st' = st) : ks_K κ g nL h' k n pc ls' st' := by
  subst e1; subst e2; subst e3; exact kk
theorem ks_top {pc : Nat} {x : Int32} (y : Int32) (e : x = y) (kk : ks_K κ g nL h k n pc ls (.int y :: st)) : ks_K κ g nL h k n pc ls (.int x :: st) := by
  subst e; exact kk
theorem ks_topl {pc : Nat} {x : Int64} (y : Int64) (e : x = y) (kk : ks_K κ g nL h k n pc ls (.long y :: st)) : ks_K κ g nL h k n pc ls (.long x :: st) := by
  subst e; exact kk
theorem ks_pick {pc : Nat} (is : List Nat) (lv : List (Nat × Value)) (e : lv_pick ls is = lv) (kk : ks_K κ g nL h k n pc lv st) : ks_K κ g nL h k n pc ls st := by
  obtain ⟨p, l, en, R, s, m, args, below, meth, c, Q⟩ := κ
  exact fun H locs la hR hS hl => kk H locs la hR hS (lv_sub hl is e)
theorem ks_widen {pc : Nat} (k' n' : Nat) (hk : k ≤ k') (hn : n ≤ n') (kk : ks_K κ g nL h k' n' pc ls st) : ks_K κ g nL h k n pc ls st := by
  obtain ⟨p, l, e, R, s, m, args, below, meth, c, Q⟩ := κ
  exact fun H locs la hR hS hl => W.widen hk hn (kk H locs la hR hS hl)

end KSR
end
section

theorem ks_R.at {g : ks_G} {h : ks_H} {H : Heap} (hR : ks_R g h H) {i : Nat} {e : va_E} (hi : h[i]? = some e) : va_at g.2.1 vwCl (g.1 + i, e) H := hR.2 i _ (ks_wl_get hi)
theorem ks_R.set {g : ks_G} {h : ks_H} {H H1 : Heap} (hR : ks_R g h H) {i : Nat} {e0 e : va_E} (hi : h[i]? = some e0) (he : va_at g.2.1 vwCl (g.1 + i, e) H1) (hz : H1.size = H.size) (ho : ∀ q : Nat, q ≠ g.1 + i → H1[q]? = H[q]?) : ks_R g (h.set i e) H1 := by
  refine ⟨by rw [hz, hR.1, List.length_set], ?_⟩
  rw [← ks_wl_set]
  exact hR.2.set ks_wl_D (ks_wl_get hi) he ho
theorem ks_R.push {g : ks_G} {h : ks_H} {H H1 : Heap} (hR : ks_R g h H) {e : va_E} (he : va_at g.2.1 vwCl (H.size, e) H1) (hz : H1.size = H.size + 1) (ho : ∀ q : Nat, q < H.size → H1[q]? = H[q]?) : ks_R g (h ++ [e]) H1 := by
  refine ⟨by rw [hz, hR.1, List.length_append]; simp; omega, ?_⟩
  rw [← ks_wl_push]
  refine (hR.2.kept (fun k q hk => ho q.1 (hR.2 k q hk).lt)).app (fun k q hk => ?_)
  have hk1 : k < 1 := (List.getElem?_eq_some_iff.mp hk).1
  have hk0 : k = 0 := by omega
  subst hk0
  cases hk
  rw [← hR.1]
  exact he
theorem ks_S.put {g : ks_G} {H0 H H1 : Heap} {locs : List Loc} (hS : va_S (ks_A g) H0 H locs) {i k : Nat} (z : H1.size = H.size) (oq : ∀ q : Nat, q ≠ g.1 + i → H1[q]? = H[q]?) : va_S (ks_A g) H0 H1 (locs ++ [⟨g.1 + i, k⟩]) := hS.put z oq (Nat.le_add_right _ _)
theorem ks_S.push {g : ks_G} {H0 H H1 : Heap} {locs : List Loc} (hS : va_S (ks_A g) H0 H locs) (z : H1.size = H.size + 1) (oq : ∀ q : Nat, q < H.size → H1[q]? = H[q]?) : va_S (ks_A g) H0 H1 locs := ⟨Nat.le_trans hS.1 (by omega), fun x h1 h2 => (oq x (Nat.lt_of_lt_of_le h1 hS.1)).trans (hS.2.1 x h1 h2), hS.2.2⟩
def ks_Cls (ci : Nat) (C : String) (T : u_T) (N : Nat) (ty0 : Nat → FieldType) : Prop := vwCl[ci]? = some (C, T, N) ∧ (∀ w ∈ u_ws C T N, w ∈ lw_g) ∧ (∀ k, k < N → parseFieldDescriptor (T k).2.2.1 = some (ty0 k)) ∧ ∀ a, a < N → ∀ b, b < N → a ≠ b → (T a).2.1 ≠ (T b).2.1
/-- the field that the entry idx of class own's pool names: slot j of class ci, its type, whether it is final -/
def ks_Fld (own : String) (idx ci j : Nat) (ty : FieldType) (fin : Bool) : Prop := ∃ (C : String) (T : u_T) (N : Nat) (ty0 : Nat → FieldType), ks_Cls ci C T N ty0 ∧ j < N ∧ Cond.fieldLink own idx (T j).1 (T j).2.1 (T j).2.2.1 ∈ lw_g ∧ ty0 j = ty ∧ (T j).2.2.2 = fin ∧ (fin = true → (T j).1 = own)
/-- an object is made by the entry idx -/
def ks_New (own : String) (idx ci : Nat) (fs : List Value) : Prop := ∃ (C : String) (T : u_T) (N : Nat) (ty0 : Nat → FieldType), ks_Cls ci C T N ty0 ∧ Cond.classLink own idx C ∈ lw_g ∧ Cond.instantiable C N ∈ lw_g ∧ Cond.initialized C ∈ lw_g ∧ (∀ j, j < N → defaultValue (ty0 j) = vp_V fs j) ∧ fs.length = N
/-- method y is called by the entry idx: of an object, of a class, as a constructor -/
def ks_CB (y : MethodName) (cc : ByteArray) (nL : Nat) (ret : Option FieldType) (na : Nat) : Prop := Cond.initialized y.cls ∈ lw_g ∧ Cond.code y cc nL ret ∈ lw_g ∧ (y.cls ≠ "java/lang/invoke/MethodHandle" ∧ y.cls ≠ "java/lang/invoke/VarHandle") ∧ (parseMethodDescriptor y.desc).map (fun d => d.parameters.length) = some na ∧ nL ≤ 21
def ks_CV (own : String) (idx : Nat) (y : MethodName) (cc : ByteArray) (nL : Nat) (ret : Option FieldType) (na : Nat) : Prop := ks_CB y cc nL ret na ∧ Cond.methodLink own idx y ∈ lw_g ∧ Cond.instanceMethod y ∈ lw_g ∧ Cond.selects y.cls y y ∈ lw_g
def ks_CS (own : String) (idx : Nat) (y : MethodName) (cc : ByteArray) (nL : Nat) (ret : Option FieldType) (na : Nat) : Prop := ks_CB y cc nL ret na ∧ (Cond.methodLink own idx y ∈ lw_g ∨ ∃ host, (own, idx, y, host) ∈ ks_nm) ∧ Cond.static y ∈ lw_g
def ks_CI (own : String) (idx : Nat) (y : MethodName) (cc : ByteArray) (nL : Nat) (na : Nat) : Prop := ks_CB y cc nL none na ∧ (Cond.methodLink own idx y ∈ lw_g ∨ ∃ host, (own, idx, y, host) ∈ ks_nm) ∧ Cond.instanceMethod y ∈ lw_g ∧ y.name = "<init>"

section KSH
variable {κ : ks_C} {g : ks_G} {own nm : String} {cc : ByteArray} {nL d mc ms k n : Nat} {h : ks_H} {ls : List (Nat × Value)} {st : List Value}

theorem ks_get (hκ : ks_Ok κ g own nm cc nL d mc ms) (pc : Nat) {ix ci i j : Nat} {ty : FieldType} {fin : Bool} {fs : List Value} {v : Value} (hd : decode cc pc = .ok (.getfield ix, 3)) (hf : ks_Fld own ix ci j ty fin) (hc : h[i]? = some (ks_O ci fs)) (hv : fs[j]? = some v) (kk : ks_K κ g nL h k n (pc + 3) ls (v :: st)) : ks_K κ g nL h k n pc ls (ks_ref g i :: st) := by
  obtain ⟨p, l, e, R, s, m, args, below, meth, c, Q⟩ := κ
  obtain ⟨hx, hb, hml, hown, hts, hin, hfr, hlo, hce, hsl, hK, hSt, hNw, hz⟩ := hκ
  obtain ⟨C, T, N, ty0, ⟨c1, c2, c3, c4⟩, f2, f3, -, -, -⟩ := hf
  intro H locs la hR hS hl
  exact va_get (D := g.2.1) (cl := vwCl) (ws := ks_wl g.1 h) (ci := ci) (C := C) (T := T) (N := N) hx hb hts c2 hown hK hR.2 i (ks_wl_get hc) c1 j f2 (hts _ f3) (fun _ h9 => h9) hv hd (kk H locs la hR hS hl)

theorem ks_put (hκ : ks_Ok κ g own nm cc nL d mc ms) (pc : Nat) {ix ci i j : Nat} {ty : FieldType} {fs : List Value} {v : Value} (hd : decode cc pc = .ok (.putfield ix, 3)) (hf : ks_Fld own ix ci j ty false) (hc : h[i]? = some (ks_O ci fs)) (hn : narrow ty v = v) (hfit : fits ty v = true) (hlen : j < fs.length) (kk : ks_K κ g nL (h.set i (ks_O ci (fs.set j v))) k n (pc + 3) ls st) : ks_K κ g nL h k n pc ls (v :: ks_ref g i :: st) := by
  obtain ⟨p, l, e, R, s, m, args, below, meth, c, Q⟩ := κ
  obtain ⟨hx, hb, hml, hown, hts, hin, hfr, hlo, hce, hsl, hK, hSt, hNw, hz⟩ := hκ
  obtain ⟨C, T, N, ty0, ⟨c1, c2, c3, c4⟩, f2, f3, f4, f5, f6⟩ := hf
  intro H locs la hR hS hl
  have hap := va_apart (own := own) hts c2 ty0 c3 c4 hK c1
  obtain ⟨r, h1, cell, q1, q2, q3, q4⟩ := hR.at hc
  cases (Option.some.inj (h1.symm.trans c1) : r = (C, T, N))
  obtain ⟨hSf, hfc, kC, hkC, hkind⟩ := hK.1 ci _ c1
  obtain ⟨cf, kf, fi, f, hi, hsl0⟩ := hSf j f2
  have hlay := hts _ (c2 _ (u_in_lay f2))
  unfold u_lay at hlay
  rw [if_neg (by rw [f5]; decide)] at hlay
  have hst := (u_facts hfc hkC (u_lays hts c2 f2) hi).1
  have h6 := u_store hfc hkC hkind hlay hi ((c3 j f2).trans (congrArg some f4)) hn hfit
  refine W.putK hx hb (f := f) ⟨hown, hts _ f3, ⟨_, _, _, hi⟩, hst⟩ (by rw [q2]; exact h6) q1 q3 (by rw [hsl0]; exact k2_hasslot (q4 j f2)) rfl rfl hd fun H' e1 e2 e3 => ?_
  rw [hsl0] at e1
  exact kk H' _ la (hR.set hc ⟨_, c1, t_OB.to (V := updV (vp_V fs) j v) ⟨_, e1, q2, q3, t_set q4 hap f2 v⟩ (fun z _ => vp_updV_set hlen v z)⟩ e2 e3) (ks_S.put hS e2 e3) hl

theorem ks_putF (hκ : ks_Ok κ g own nm cc nL d mc ms) (pc : Nat) {ix ci i j : Nat} {ty : FieldType} {fs : List Value} {v : Value} (hd : decode cc pc = .ok (.putfield ix, 3)) (hi9 : nm = "<init>") (hf : ks_Fld own ix ci j ty true) (hc : h[i]? = some (ks_O ci fs)) (hn : narrow ty v = v) (hfit : fits ty v = true) (hlen : j < fs.length) (kk : ks_K κ g nL (h.set i (ks_O ci (fs.set j v))) k n (pc + 3) ls st) : ks_K κ g nL h k n pc ls (v :: ks_ref g i :: st) := by
  obtain ⟨p, l, e, R, s, m, args, below, meth, c, Q⟩ := κ
  obtain ⟨hx, hb, hml, hown, hts, hin, hfr, hlo, hce, hsl, hK, hSt, hNw, hz⟩ := hκ
  obtain ⟨C, T, N, ty0, ⟨c1, c2, c3, c4⟩, f2, f3, f4, f5, f6⟩ := hf
  intro H locs la hR hS hl
  have hap := va_apart (own := own) hts c2 ty0 c3 c4 hK c1
  obtain ⟨r, h1, cell, q1, q2, q3, q4⟩ := hR.at hc
  cases (Option.some.inj (h1.symm.trans c1) : r = (C, T, N))
  obtain ⟨hSf, hfc, kC, hkC, hkind⟩ := hK.1 ci _ c1
  obtain ⟨cf, kf, fi, f, hi, hsl0⟩ := hSf j f2
  have hlay := hts _ (c2 _ (u_in_lay f2))
  unfold u_lay at hlay
  rw [if_pos f5] at hlay
  have hst := (u_facts hfc hkC (u_lays hts c2 f2) hi).1
  have hcf : m.cls = cf := by
    obtain ⟨_, _, c', _, _, _, -, -, hf', -, -, -, hown2, -⟩ := Cond.laysFinal_spec hlay
    have e1 : c' = cf := by have := hi.symm.trans hf'; simp at this; exact this.1.symm
    rw [f6 rfl] at hown2
    rw [← e1]; exact Option.some.inj (hown.symm.trans hown2)
  have h6 := u_fits hfc hkC hkind (Or.inr hlay) hi ((c3 j f2).trans (congrArg some f4)) hn hfit
  refine W.putFinK hx hb hown (hts _ f3) hi hst hcf (hin.trans hi9) (by rw [q2]; exact h6) q1 q3 (by rw [hsl0]; exact k2_hasslot (q4 j f2)) rfl rfl hd fun H' e1 e2 e3 => ?_
  rw [hsl0] at e1
  exact kk H' _ la (hR.set hc ⟨_, c1, t_OB.to (V := updV (vp_V fs) j v) ⟨_, e1, q2, q3, t_set q4 hap f2 v⟩ (fun z _ => vp_updV_set hlen v z)⟩ e2 e3) (ks_S.put hS e2 e3) hl

theorem ks_iald (hκ : ks_Ok κ g own nm cc nL d mc ms) (pc : Nat) {i N : Nat} {f : Nat → Int32} {x : Int32} (j : Nat) (hd : decode cc pc = .ok (.iaload, 1)) (hc : h[i]? = some (ks_I g N f)) (hj : x = nI j) (hjN : j < N) (hN : N < 2 ^ 31) (kk : ks_K κ g nL h k n (pc + 1) ls (.int (f j) :: st)) : ks_K κ g nL h k n pc ls (.int x :: ks_ref g i :: st) := by
  obtain ⟨p, l, e, R, s, m, args, below, meth, c, Q⟩ := κ
  obtain ⟨hx, hb, hml, hown, hts, hin, hfr, hlo, hce, hsl, hK, hSt, hNw, hz⟩ := hκ
  subst hj
  have hv9 : vp_in (nI j) N := vp_in_nI hjN hN
  have hcl : (nI j).toNatClampNeg = j := nI_clamp (by omega)
  intro H locs la hR hS hl
  refine va_iald (D := g.2.1) (cl := vwCl) (ws := ks_wl g.1 h) hx hb hK hR.2 i 0 (ks_wl_get hc) rfl hv9 hd ?_
  rw [hcl]
  exact kk H locs la hR hS hl

theorem ks_zald (hκ : ks_Ok κ g own nm cc nL d mc ms) (pc : Nat) {i N : Nat} {f : Nat → Int32} {x : Int32} (j : Nat) (hd : decode cc pc = .ok (.baload, 1)) (hc : h[i]? = some (ks_Z g N f)) (hj : x = nI j) (hjN : j < N) (hN : N < 2 ^ 31) (kk : ks_K κ g nL h k n (pc + 1) ls (.int (f j) :: st)) : ks_K κ g nL h k n pc ls (.int x :: ks_ref g i :: st) := by
  obtain ⟨p, l, e, R, s, m, args, below, meth, c, Q⟩ := κ
  obtain ⟨hx, hb, hml, hown, hts, hin, hfr, hlo, hce, hsl, hK, hSt, hNw, hz⟩ := hκ
  subst hj
  have hv9 : vp_in (nI j) N := vp_in_nI hjN hN
  have hcl : (nI j).toNatClampNeg = j := nI_clamp (by omega)
  intro H locs la hR hS hl
  refine va_zald (D := g.2.1) (cl := vwCl) (ws := ks_wl g.1 h) hx hb hK hR.2 i 1 (ks_wl_get hc) rfl hv9 hd ?_
  rw [hcl]
  exact kk H locs la hR hS hl

def ks_rf (g : ks_G) (o : Option Nat) : Value := match o with
  | none => .null
  | some a => ks_ref g a
theorem ks_rf_eq (o : Option Nat) : va_rf (o.map (fun i => g.1 + i)) = ks_rf g o := by cases o <;> rfl

theorem ks_aald (hκ : ks_Ok κ g own nm cc nL d mc ms) (pc : Nat) {i N : Nat} {f : Nat → Option Nat} {x : Int32} (j : Nat) (hd : decode cc pc = .ok (.aaload, 1)) (hc : h[i]? = some (ks_S g N f)) (hj : x = nI j) (hjN : j < N) (hN : N < 2 ^ 31) (kk : ks_K κ g nL h k n (pc + 1) ls (ks_rf g (f j) :: st)) : ks_K κ g nL h k n pc ls (.int x :: ks_ref g i :: st) := by
  obtain ⟨p, l, e, R, s, m, args, below, meth, c, Q⟩ := κ
  obtain ⟨hx, hb, hml, hown, hts, hin, hfr, hlo, hce, hsl, hK, hSt, hNw, hz⟩ := hκ
  subst hj
  have hv9 : vp_in (nI j) N := vp_in_nI hjN hN
  have hcl : (nI j).toNatClampNeg = j := nI_clamp (by omega)
  intro H locs la hR hS hl
  refine va_aldq (D := g.2.1) (cl := vwCl) (ws := ks_wl g.1 h) hx hb hK hR.2 i 2 (ks_wl_get hc) rfl hv9 hd ?_
  rw [hcl, ks_rf_eq]
  exact kk H locs la hR hS hl

theorem ks_iast (hκ : ks_Ok κ g own nm cc nL d mc ms) (pc : Nat) {i N : Nat} {f : Nat → Int32} {x y : Int32} (j : Nat) (hd : decode cc pc = .ok (.iastore, 1)) (hc : h[i]? = some (ks_I g N f)) (hj : x = nI j) (hjN : j < N) (hN : N < 2 ^ 31) (kk : ks_K κ g nL (h.set i (ks_I g N (upd f j y))) k n (pc + 1) ls st) : ks_K κ g nL h k n pc ls (.int y :: .int x :: ks_ref g i :: st) := by
  obtain ⟨p, l, e, R, s, m, args, below, meth, c, Q⟩ := κ
  obtain ⟨hx, hb, hml, hown, hts, hin, hfr, hlo, hce, hsl, hK, hSt, hNw, hz⟩ := hκ
  subst hj
  have hv9 : vp_in (nI j) N := vp_in_nI hjN hN
  have hcl : (nI j).toNatClampNeg = j := nI_clamp (by omega)
  intro H locs la hR hS hl
  refine W.iast hx hb (hR.at hc) ((hK.2 0 _ rfl).1 N (fun j => .int (f j))) (fun q => by cases q) (by show ¬ (_ < 0 ∨ (arrV _ _ _).slots.size ≤ _); rw [arrV_size]; exact hv9) rfl rfl hd fun H1 e z oq => ?_
  rw [hcl] at e
  refine kk H1 _ la (hR.set hc ?_ z oq) (ks_S.put hS z oq) hl
  show H1[g.1 + i]? = some (vp_cell _ _)
  rw [e, vp_cell_i, vp_cell_i, arrV_store]
  congr 2
  funext q
  by_cases hq : q = j
  · subst hq
    simp [updV, upd]
  · simp [updV, upd, hq]

theorem ks_zast (hκ : ks_Ok κ g own nm cc nL d mc ms) (pc : Nat) {i N : Nat} {f : Nat → Int32} {x y : Int32} (j : Nat) (hd : decode cc pc = .ok (.bastore, 1)) (hc : h[i]? = some (ks_Z g N f)) (hj : x = nI j) (hjN : j < N) (hN : N < 2 ^ 31) (hy : narrow .boolean (.int y) = .int y) (kk : ks_K κ g nL (h.set i (ks_Z g N (upd f j y))) k n (pc + 1) ls st) : ks_K κ g nL h k n pc ls (.int y :: .int x :: ks_ref g i :: st) := by
  obtain ⟨p, l, e, R, s, m, args, below, meth, c, Q⟩ := κ
  obtain ⟨hx, hb, hml, hown, hts, hin, hfr, hlo, hce, hsl, hK, hSt, hNw, hz⟩ := hκ
  subst hj
  have hv9 : vp_in (nI j) N := vp_in_nI hjN hN
  have hcl : (nI j).toNatClampNeg = j := nI_clamp (by omega)
  intro H locs la hR hS hl
  refine W.zast hx hb (hR.at hc) ((hK.2 1 _ rfl).1 N (fun j => .int (f j))) (fun q => by cases q) (by show ¬ (_ < 0 ∨ (arrV _ _ _).slots.size ≤ _); rw [arrV_size]; exact hv9) rfl rfl hd fun H1 e z oq => ?_
  rw [hcl, hy] at e
  refine kk H1 _ la (hR.set hc ?_ z oq) (ks_S.put hS z oq) hl
  show H1[g.1 + i]? = some (vp_cell _ _)
  rw [e, vp_cell_i, vp_cell_i, arrV_store]
  congr 2
  funext q
  by_cases hq : q = j
  · subst hq
    simp [updV, upd]
  · simp [updV, upd, hq]

theorem ks_aast (hκ : ks_Ok κ g own nm cc nL d mc ms) (pc : Nat) {i N a : Nat} {f : Nat → Option Nat} {vs : List Value} {x : Int32} (j : Nat) (hd : decode cc pc = .ok (.aastore, 1)) (hc : h[i]? = some (ks_S g N f)) (hv : h[a]? = some (ks_O 4 vs)) (hj : x = nI j) (hjN : j < N) (hN : N < 2 ^ 31) (kk : ks_K κ g nL (h.set i (ks_S g N (va_up f j (some a)))) k n (pc + 1) ls st) : ks_K κ g nL h k n pc ls (ks_ref g a :: .int x :: ks_ref g i :: st) := by
  obtain ⟨p, l, e, R, s, m, args, below, meth, c, Q⟩ := κ
  obtain ⟨hx, hb, hml, hown, hts, hin, hfr, hlo, hce, hsl, hK, hSt, hNw, hz⟩ := hκ
  subst hj
  have hv9 : vp_in (nI j) N := vp_in_nI hjN hN
  have hcl : (nI j).toNatClampNeg = j := nI_clamp (by omega)
  intro H locs la hR hS hl
  have hlt : (nI j).toNatClampNeg < N := by rw [hcl]; exact hjN
  have h0 : ¬ nI j < 0 := fun q => hv9 (Or.inl q)
  obtain ⟨r', hr', cellV, g1, g2, g3, -⟩ := hR.at hv
  have hcls := (hK.1 4 (RX4, TX4, 14) rfl).2
  obtain ⟨kA, comp, k1, k2, k3, -⟩ := (hK.2 2 _ rfl).2
  have hcomp : comp = g.2.1.1 4 := Option.some.inj (k3.symm.trans hcls.1)
  subst hcomp
  obtain ⟨kC, hkC, -⟩ := hcls.2
  refine W.aast hx hb (hR.at hc) (fun q h => by cases h) (fun h => by cases h) k1 k2 rfl hkC ⟨h0, by show _ < (arrV _ _ _).slots.size; rw [arrV_size]; exact hlt⟩ g1 (fun q h => by rw [g3] at h; cases h) (by rw [g2]; exact hkC) (by rw [g2]; exact va_assign hcls) rfl rfl hd fun H1 e z oq => ?_
  rw [hcl] at e
  refine kk H1 _ la (hR.set hc ?_ z oq) (ks_S.put hS z oq) hl
  show H1[g.1 + i]? = some (vp_cell _ _)
  rw [e, vp_cell_q, vp_cell_q, arrV_store]
  congr 2
  funext q
  by_cases hq : q = j
  · subst hq
    simp [updV, va_up, va_rf]
  · simp [updV, va_up, hq]

theorem ks_len (hκ : ks_Ok κ g own nm cc nL d mc ms) (pc : Nat) {i N : Nat} {f : Nat → Option Nat} (hd : decode cc pc = .ok (.arraylength, 1)) (hc : h[i]? = some (ks_S g N f)) (kk : ks_K κ g nL h k n (pc + 1) ls (.int (nI N) :: st)) : ks_K κ g nL h k n pc ls (ks_ref g i :: st) := by
  obtain ⟨p, l, e, R, s, m, args, below, meth, c, Q⟩ := κ
  obtain ⟨hx, hb, hml, hown, hts, hin, hfr, hlo, hce, hsl, hK, hSt, hNw, hz⟩ := hκ
  intro H locs la hR hS hl
  refine W.alen (n := nI N) hx hb (hR.at hc) ((hK.2 2 _ rfl).1 N _) (by show (arrV _ _ _).slots.size.toInt32 = _; rw [arrV_size]; rfl) rfl rfl hd ?_
  exact kk H locs la hR hS hl

theorem ks_leni (hκ : ks_Ok κ g own nm cc nL d mc ms) (pc : Nat) {i N : Nat} {f : Nat → Int32} (hd : decode cc pc = .ok (.arraylength, 1)) (hc : h[i]? = some (ks_I g N f)) (kk : ks_K κ g nL h k n (pc + 1) ls (.int (nI N) :: st)) : ks_K κ g nL h k n pc ls (ks_ref g i :: st) := by
  obtain ⟨p, l, e, R, s, m, args, below, meth, c, Q⟩ := κ
  obtain ⟨hx, hb, hml, hown, hts, hin, hfr, hlo, hce, hsl, hK, hSt, hNw, hz⟩ := hκ
  intro H locs la hR hS hl
  refine W.alen (n := nI N) hx hb (hR.at hc) ((hK.2 0 _ rfl).1 N _) (by show (arrV _ _ _).slots.size.toInt32 = _; rw [arrV_size]; rfl) rfl rfl hd ?_
  exact kk H locs la hR hS hl

theorem ks_new (hκ : ks_Ok κ g own nm cc nL d mc ms) (pc : Nat) {ix ci N : Nat} {fs : List Value} (hd : decode cc pc = .ok (.new ix, 3)) (hf : ks_New own ix ci fs) (hN : fs.length = N) (hk : k + 1 ≤ mc) (hn : n + N ≤ ms) (kk : ks_K κ g nL (h ++ [ks_O ci fs]) (k + 1) (n + N) (pc + 3) ls (ks_ref g h.length :: st)) : ks_K κ g nL h k n pc ls st := by
  obtain ⟨p, l, e, R, s, m, args, below, meth, c, Q⟩ := κ
  obtain ⟨hx, hb, hml, hown, hts, hin, hfr, hlo, hce, hsl, hK, hSt, hNw, hz⟩ := hκ
  obtain ⟨C, T, N, ty0, ⟨c1, c2, c3, c4⟩, f1, f2, f3, f4, rfl⟩ := hf
  subst hN
  intro H locs la hR hS hl
  have hKn := hK.1 ci _ c1
  refine W.newcK hx hb hown (hts _ f1) (hts _ f2) (hts _ f3) rfl hd (by rw [hce]; exact hk) (by rw [hsl]; exact hn) hKn.2.1 rfl fun H1 kC hkC e1 z1 o1 => ?_
  have := kk H1 locs la (hR.push ⟨_, c1, (u_born ty0 hts c2 hKn hkC e1 c3).to f4⟩ z1 o1) (ks_S.push hS z1 o1) hl
  rw [show ks_ref g h.length = .ref H.size by rw [hR.1]; rfl] at this
  exact this

theorem ks_newi (hκ : ks_Ok κ g own nm cc nL d mc ms) (pc : Nat) {N : Nat} {x : Int32} (hd : decode cc pc = .ok (.newarray .int, 2)) (hw : Cond.arrayClass .int ∈ lw_g) (hj : x = nI N) (hN : N < 2 ^ 20) (hk : k + 1 ≤ mc) (hn : n + N ≤ ms) (kk : ks_K κ g nL (h ++ [ks_I g N (fun _ => 0)]) (k + 1) (n + N) (pc + 2) ls (ks_ref g h.length :: st)) : ks_K κ g nL h k n pc ls (.int x :: st) := by
  obtain ⟨p, l, e, R, s, m, args, below, meth, c, Q⟩ := κ
  obtain ⟨hx, hb, hml, hown, hts, hin, hfr, hlo, hce, hsl, hK, hSt, hNw, hz⟩ := hκ
  subst hj
  intro H locs la hR hS hl
  have h31 : N < 2 ^ 31 := Nat.lt_of_lt_of_le hN (by decide)
  refine va_newaK (atype := .int) hx hb (hts _ hw) rfl hd rfl (nI_pos h31) (nI_clamp h31) (Nat.le_trans (Nat.mul_le_mul_right _ (Nat.le_of_lt hN)) (by decide)) (by rw [hce]; exact hk) (by rw [hsl]; exact hn) rfl fun H1 cA e1 z1 o1 hAr hNm => ?_
  have hcA : cA = g.2.2.1.1 := Option.some.inj (hNm.symm.trans (hK.2 0 _ rfl).2)
  have := kk H1 locs la (hR.push (e := ks_I g N (fun _ => 0)) (by show H1[H.size]? = some (vp_cell _ _); rw [e1, hcA, vp_cell_i]; rfl) z1 o1) (ks_S.push hS z1 o1) hl
  rw [show ks_ref g h.length = .ref H.size by rw [hR.1]; rfl] at this
  exact this

theorem ks_newz (hκ : ks_Ok κ g own nm cc nL d mc ms) (pc : Nat) {N : Nat} {x : Int32} (hd : decode cc pc = .ok (.newarray .boolean, 2)) (hw : Cond.arrayClass .boolean ∈ lw_g) (hj : x = nI N) (hN : N < 2 ^ 20) (hk : k + 1 ≤ mc) (hn : n + N ≤ ms) (kk : ks_K κ g nL (h ++ [ks_Z g N (fun _ => 0)]) (k + 1) (n + N) (pc + 2) ls (ks_ref g h.length :: st)) : ks_K κ g nL h k n pc ls (.int x :: st) := by
  obtain ⟨p, l, e, R, s, m, args, below, meth, c, Q⟩ := κ
  obtain ⟨hx, hb, hml, hown, hts, hin, hfr, hlo, hce, hsl, hK, hSt, hNw, hz⟩ := hκ
  subst hj
  intro H locs la hR hS hl
  have h31 : N < 2 ^ 31 := Nat.lt_of_lt_of_le hN (by decide)
  refine va_newaK (atype := .boolean) hx hb (hts _ hw) rfl hd rfl (nI_pos h31) (nI_clamp h31) (Nat.le_trans (Nat.mul_le_mul_right _ (Nat.le_of_lt hN)) (by decide)) (by rw [hce]; exact hk) (by rw [hsl]; exact hn) rfl fun H1 cA e1 z1 o1 hAr hNm => ?_
  have hcA : cA = g.2.2.1.2.1 := Option.some.inj (hNm.symm.trans (hK.2 1 _ rfl).2)
  have := kk H1 locs la (hR.push (e := ks_Z g N (fun _ => 0)) (by show H1[H.size]? = some (vp_cell _ _); rw [e1, hcA, vp_cell_i]; rfl) z1 o1) (ks_S.push hS z1 o1) hl
  rw [show ks_ref g h.length = .ref H.size by rw [hR.1]; rfl] at this
  exact this

theorem ks_newq (hκ : ks_Ok κ g own nm cc nL d mc ms) (pc : Nat) {ix N : Nat} {x : Int32} (hd : decode cc pc = .ok (.anewarray ix, 3)) (hw : Cond.classLink own ix RX4 ∈ lw_g) (hj : x = nI N) (hN : N < 2 ^ 20) (hk : k + 1 ≤ mc) (hn : n + N ≤ ms) (kk : ks_K κ g nL (h ++ [ks_S g N (fun _ => none)]) (k + 1) (n + N) (pc + 3) ls (ks_ref g h.length :: st)) : ks_K κ g nL h k n pc ls (.int x :: st) := by
  obtain ⟨p, l, e, R, s, m, args, below, meth, c, Q⟩ := κ
  obtain ⟨hx, hb, hml, hown, hts, hin, hfr, hlo, hce, hsl, hK, hSt, hNw, hz⟩ := hκ
  subst hj
  intro H locs la hR hS hl
  have h31 : N < 2 ^ 31 := Nat.lt_of_lt_of_le hN (by decide)
  refine W.anew hx hb hown (hts _ hw) (va_AO.use hNw.2.2) rfl hd rfl (nI_pos h31) (by rw [nI_clamp h31]; exact Nat.le_trans (Nat.mul_le_mul_right _ (Nat.le_of_lt hN)) (by decide)) (by rw [hce]; exact hk) (by rw [hsl, nI_clamp h31]; exact hn) fun cA kA comp f1 f2 f3 f4 => ?_
  rw [nI_clamp h31]
  generalize hH1 : H.push ({ cls := cA, slots := Array.replicate N .null, vm := .none } : Cell) = H1
  have z1 : H1.size = H.size + 1 := by rw [← hH1, Array.size_push]
  have e1 : H1[H.size]? = some (arrV cA N (fun _ => .null)) := by rw [← hH1, Array.getElem?_push_size, ← arrV_new]
  have o1 : ∀ q : Nat, q < H.size → H1[q]? = H[q]? := fun q hq => by rw [← hH1, Array.getElem?_push, if_neg (Nat.ne_of_lt hq)]
  obtain ⟨kA2, comp2, r1, r2, r3, r4⟩ := (hK.2 2 _ rfl).2
  have hcA : cA = g.2.2.1.2.2 := Option.some.inj (f1.symm.trans r4)
  have := kk H1 locs la (hR.push (e := ks_S g N (fun _ => none)) (by show H1[H.size]? = some (vp_cell _ _); rw [e1, hcA, vp_cell_q]; rfl) z1 o1) (ks_S.push hS z1 o1) hl
  rw [show ks_ref g h.length = .ref H.size by rw [hR.1]; rfl] at this
  exact this

theorem ks_objInit (hκ : ks_Ok κ g own nm cc nL d mc ms) (pc : Nat) {ix i : Nat} (hd : decode cc pc = .ok (.invokespecial ix, 3)) (h1 : Cond.methodLink own ix Lib.objectInit ∈ lw_g) (h2 : Cond.instanceMethod Lib.objectInit ∈ lw_g) (h3 : Cond.code Lib.objectInit ⟨#[0xb1]⟩ 1 none ∈ lw_g) (hd1 : 1 ≤ d) (hst : (st.map fun v => v.category).sum ≤ 8) (kk : ks_K κ g nL h k n (pc + 3) ls st) : ks_K κ g nL h k n pc ls (ks_ref g i :: st) := by
  obtain ⟨p, l, e, R, s, m, args, below, meth, c, Q⟩ := κ
  obtain ⟨hx, hb, hml, hown, hts, hin, hfr, hlo, hce, hsl, hK, hSt, hNw, hz⟩ := hκ
  intro H locs la hR hS hl
  exact W.objInit hx hb hown (hts _ h1) (hts _ h2) (hts _ h3) rfl (by rw [hml]; exact hl.1) rfl hd (by rw [hfr]; exact hd1) (by show 2 * 0 + _ + 12 ≤ _; omega) (kk H locs la hR hS hl)

theorem ks_max (hκ : ks_Ok κ g own nm cc nL d mc ms) (pc : Nat) {ix : Nat} {x y : Int32} (hd : decode cc pc = .ok (.invokestatic ix, 3)) (h1 : Cond.methodLink own ix Lib.Math.max.name ∈ lw_g) (h2 : Cond.static Lib.Math.max.name ∈ lw_g) (h3 : Cond.initialized "java/lang/Math" ∈ lw_g) (h4 : Cond.code Lib.Math.max.name Lib.Math.max.code 2 (some .int) ∈ lw_g) (hd1 : 1 ≤ d) (hk : k ≤ mc) (hn : n ≤ ms) (hst : (st.map fun v => v.category).sum ≤ 8) (kk : ks_K κ g nL h k n (pc + 3) ls (.int (if x < y then y else x) :: st)) : ks_K κ g nL h k n pc ls (.int y :: .int x :: st) := by
  obtain ⟨p, l, e, R, s, m, args, below, meth, c, Q⟩ := κ
  obtain ⟨hx, hb, hml, hown, hts, hin, hfr, hlo, hce, hsl, hK, hSt, hNw, hz⟩ := hκ
  intro H locs la hR hS hl
  exact va_mmax hx hb (hml.trans hl.1.symm) hown (hts _ h1) (hts _ h2) (hts _ h3) (hts _ h4) (by rw [hfr]; exact hd1) (by omega) (by rw [hce]; exact hk) (by rw [hsl]; exact hn) hd (kk H locs la hR hS hl)

theorem ks_abs (hκ : ks_Ok κ g own nm cc nL d mc ms) (pc : Nat) {ix : Nat} {x : Int32} (hd : decode cc pc = .ok (.invokestatic ix, 3)) (h1 : Cond.methodLink own ix Lib.Math.abs.name ∈ lw_g) (h2 : Cond.static Lib.Math.abs.name ∈ lw_g) (h3 : Cond.initialized "java/lang/Math" ∈ lw_g) (h4 : Cond.code Lib.Math.abs.name Lib.Math.abs.code 1 (some .int) ∈ lw_g) (hd1 : 1 ≤ d) (hk : k ≤ mc) (hn : n ≤ ms) (hst : (st.map fun v => v.category).sum ≤ 8) (kk : ks_K κ g nL h k n (pc + 3) ls (.int (if 0 ≤ x then x else 0 - x) :: st)) : ks_K κ g nL h k n pc ls (.int x :: st) := by
  obtain ⟨p, l, e, R, s, m, args, below, meth, c, Q⟩ := κ
  obtain ⟨hx, hb, hml, hown, hts, hin, hfr, hlo, hce, hsl, hK, hSt, hNw, hz⟩ := hκ
  intro H locs la hR hS hl
  exact va_mabs hx hb (hml.trans hl.1.symm) hown (hts _ h1) (hts _ h2) (hts _ h3) (hts _ h4) (by rw [hfr]; exact hd1) (by omega) (by rw [hce]; exact hk) (by rw [hsl]; exact hn) hd (kk H locs la hR hS hl)

theorem ks_getst0 (hκ : ks_Ok κ g own nm cc nL d mc ms) (pc : Nat) {ix : Nat} (hd : decode cc pc = .ok (.getstatic ix, 3)) (hw : (own, ix, RX6, "FIRST_VALUE", "[I", RX6) ∈ ks_nf) (kk : ks_K κ g nL h k n (pc + 3) ls (.ref g.2.2.2.1 :: st)) : ks_K κ g nL h k n pc ls st := by
  obtain ⟨p, l, e, R, s, m, args, below, meth, c, Q⟩ := κ
  obtain ⟨hx, hb, hml, hown, hts, hin, hfr, hlo, hce, hsl, hK, hSt, hNw, hz⟩ := hκ
  intro H locs la hR hS hl
  exact va_getsN hx hb hSt.1.1 hS hown (va_Nw.use rfl (hNw.2.1 _ hw)) (fun _ h9 => h9) hd (kk H locs la hR hS hl)

theorem ks_tald0 (hκ : ks_Ok κ g own nm cc nL d mc ms) (pc : Nat) {x : Int32} (j : Nat) (hd : decode cc pc = .ok (.iaload, 1)) (hj : x = nI j) (hjN : j < 4) (kk : ks_K κ g nL h k n (pc + 1) ls (.int (([3, 4, 5, 14] : List Int32).getD j 0) :: st)) : ks_K κ g nL h k n pc ls (.int x :: .ref g.2.2.2.1 :: st) := by
  obtain ⟨p, l, e, R, s, m, args, below, meth, c, Q⟩ := κ
  obtain ⟨hx, hb, hml, hown, hts, hin, hfr, hlo, hce, hsl, hK, hSt, hNw, hz⟩ := hκ
  subst hj
  intro H locs la hR hS hl
  have hcl : (nI j).toNatClampNeg = j := nI_clamp (by omega)
  exact va_ti hx hb hSt.1.2 hS (vp_in_nI hjN (by decide)) (by rw [hcl]) hd (kk H locs la hR hS hl)

theorem ks_getst1 (hκ : ks_Ok κ g own nm cc nL d mc ms) (pc : Nat) {ix : Nat} (hd : decode cc pc = .ok (.getstatic ix, 3)) (hw : (own, ix, RX6, "LOWEST", "[I", RX6) ∈ ks_nf) (kk : ks_K κ g nL h k n (pc + 3) ls (.ref g.2.2.2.2.1 :: st)) : ks_K κ g nL h k n pc ls st := by
  obtain ⟨p, l, e, R, s, m, args, below, meth, c, Q⟩ := κ
  obtain ⟨hx, hb, hml, hown, hts, hin, hfr, hlo, hce, hsl, hK, hSt, hNw, hz⟩ := hκ
  intro H locs la hR hS hl
  exact va_getsN hx hb hSt.2.1.1 hS hown (va_Nw.use rfl (hNw.2.1 _ hw)) (fun _ h9 => h9) hd (kk H locs la hR hS hl)

theorem ks_tald1 (hκ : ks_Ok κ g own nm cc nL d mc ms) (pc : Nat) {x : Int32} (j : Nat) (hd : decode cc pc = .ok (.iaload, 1)) (hj : x = nI j) (hjN : j < 4) (kk : ks_K κ g nL h k n (pc + 1) ls (.int (([1, 0, 1, 2] : List Int32).getD j 0) :: st)) : ks_K κ g nL h k n pc ls (.int x :: .ref g.2.2.2.2.1 :: st) := by
  obtain ⟨p, l, e, R, s, m, args, below, meth, c, Q⟩ := κ
  obtain ⟨hx, hb, hml, hown, hts, hin, hfr, hlo, hce, hsl, hK, hSt, hNw, hz⟩ := hκ
  subst hj
  intro H locs la hR hS hl
  have hcl : (nI j).toNatClampNeg = j := nI_clamp (by omega)
  exact va_ti hx hb hSt.2.1.2 hS (vp_in_nI hjN (by decide)) (by rw [hcl]) hd (kk H locs la hR hS hl)

theorem ks_getst2 (hκ : ks_Ok κ g own nm cc nL d mc ms) (pc : Nat) {ix : Nat} (hd : decode cc pc = .ok (.getstatic ix, 3)) (hw : (own, ix, RX6, "HIGHEST", "[I", RX6) ∈ ks_nf) (kk : ks_K κ g nL h k n (pc + 3) ls (.ref g.2.2.2.2.2 :: st)) : ks_K κ g nL h k n pc ls st := by
  obtain ⟨p, l, e, R, s, m, args, below, meth, c, Q⟩ := κ
  obtain ⟨hx, hb, hml, hown, hts, hin, hfr, hlo, hce, hsl, hK, hSt, hNw, hz⟩ := hκ
  intro H locs la hR hS hl
  exact va_getsN hx hb hSt.2.2.1 hS hown (va_Nw.use rfl (hNw.2.1 _ hw)) (fun _ h9 => h9) hd (kk H locs la hR hS hl)

theorem ks_tald2 (hκ : ks_Ok κ g own nm cc nL d mc ms) (pc : Nat) {x : Int32} (j : Nat) (hd : decode cc pc = .ok (.iaload, 1)) (hj : x = nI j) (hjN : j < 4) (kk : ks_K κ g nL h k n (pc + 1) ls (.int (([8, 15, 30, 60] : List Int32).getD j 0) :: st)) : ks_K κ g nL h k n pc ls (.int x :: .ref g.2.2.2.2.2 :: st) := by
  obtain ⟨p, l, e, R, s, m, args, below, meth, c, Q⟩ := κ
  obtain ⟨hx, hb, hml, hown, hts, hin, hfr, hlo, hce, hsl, hK, hSt, hNw, hz⟩ := hκ
  subst hj
  intro H locs la hR hS hl
  have hcl : (nI j).toNatClampNeg = j := nI_clamp (by omega)
  exact va_ti hx hb hSt.2.2.2 hS (vp_in_nI hjN (by decide)) (by rw [hcl]) hd (kk H locs la hR hS hl)


theorem ks_nn {z : Int32} (hz : ¬ z < 0) : z.toInt = (z.toNatClampNeg : Int) := by
  have hz0 : (0 : Int) ≤ z.toInt := by
    have := Int32.not_lt.mp hz
    simpa using Int32.le_iff_toInt_le.mp this
  show z.toInt = ((z.toInt.toNat : Nat) : Int)
  omega
theorem ks_copy0 {p : Program} {l : Launch} {e : Env} {R : Room} {s : State} {m : MethodId} {args : Array Value} {below : List Frame} {meth : Method} {c : Code} {H : Heap} {locs : List Loc} {cells slots : Nat} {Q : State → Prop} {la : Array Slot} {pc : Nat}
    (hx : p.tables.exec = Jvm.exec) (hb : c.code = cc) (hml : c.maxLocals = la.size) {ix : Nat} (hown : s.vm.findClass own = some m.cls) (hlink : (Cond.methodLink own ix arraycopyName).before args s = true) (hnat : (Cond.native arraycopyName).before args s = true) (hstat : (Cond.static arraycopyName).before args s = true) (hini : (Cond.initialized "java/lang/System").before args s = true)
    {a0 a1 : Nat} {scr : Cell} {c1 : ClassId} {n0 n1 N : Nat} {f z : Nat → Int32} (hc0 : H[a0]? = some scr) (hof : s.isArrayOf scr .int) (hkn : scr.vm ≠ .unknown) (hn0 : n0 ≤ scr.slots.size) (hval : ∀ j : Nat, j < n0 → scr.slots[j]? = some (.int (f j)))
    (hc1 : H[a1]? = some (vp_cell c1 (n1, .inl z))) (ha1 : ArrOfT s c1 .int) (h4 : N ≤ n0) (h5 : N ≤ n1) (hN : N < 2 ^ 31)
    (hframes : 1 ≤ R.frames) (hlocals : (st.map fun v => v.category).sum + (nativeFrameWords "java/lang/System" "arraycopy" 5 + 11) ≤ R.locals) (hd : decode cc pc = .ok (.invokestatic ix, 3))
    (kk : ∀ (H1 : Heap) (locs1 : List Loc), H1[a1]? = some (vp_cell c1 (n1, .inl (va_cpy f z 0 0 N))) → H1.size = H.size → (∀ q : Nat, q ≠ a1 → H1[q]? = H[q]?) → (∀ x ∈ locs1, x.base = a1) → W p l e R s m args below meth c H1 (locs ++ locs1) cells slots Q (F0 m (pc + 3) la st)) :
    W p l e R s m args below meth c H locs cells slots Q (F0 m pc la (.int (nI N) :: .int (nI 0) :: .ref a1 :: .int (nI 0) :: .ref a0 :: st)) := by
  have hcN : (nI N).toNatClampNeg = N := nI_clamp hN
  have hc0' : (nI 0).toNatClampNeg = 0 := nI_clamp (by decide)
  have p0 : ¬ nI 0 < 0 := nI_pos (by decide)
  have pN : ¬ nI N < 0 := nI_pos hN
  intro T hT X
  obtain ⟨hs2, k0, hk0, cm0, hkk0⟩ := hof
  obtain ⟨-, k1, hk1, cm1, hkk1⟩ := ha1 n1 (fun j => .int (z j))
  obtain ⟨vm', X', step⟩ := X.arraycopy hx hown hlink hnat hstat hini (src := a0) (dst := a1) (cs := scr) (cd := vp_cell c1 (n1, .inl z)) (srcPos := nI 0) (destPos := nI 0) (n := nI N) (by rw [hT]; exact hc0) (by rw [hT]; exact hc1)
    hs2 (fun _ h => by cases h) hkn (fun h => by cases h) hk0 hk1 hkk0 hkk1 rfl p0 p0 pN
    (by rw [ks_nn p0, ks_nn pN, hcN, hc0']; omega)
    (by rw [ks_nn p0, ks_nn pN, hcN, hc0']; show ¬ _ > ((arrV c1 n1 (fun j => .int (z j))).slots.size : Int); rw [arrV_size]; omega)
    (fun vm₁ _ i hi => by
      rw [hcN] at hi
      have ev : scr.slots.getD ((nI 0).toNatClampNeg + i) .null = .int (f i) := by
        rw [hc0', Nat.zero_add, Array.getD_eq_getD_getElem?, hval i (by omega)]
        rfl
      rw [ev]
      exact ⟨rfl, trivial⟩)
    (g := F0 m pc la (.int (nI N) :: .int (nI 0) :: .ref a1 :: .int (nI 0) :: .ref a0 :: st)) rfl (by rw [hml]) (rest := st) rfl (by rw [hb]; exact hd) hframes (by show 2 * 0 + _ + _ ≤ _; omega)
  have e1 : copied scr (vp_cell c1 (n1, .inl z)) (nI 0) (nI 0) (nI N) = vp_cell c1 (n1, .inl (va_cpy f z 0 0 N)) := by
    have := va_copiedX (fun v => Value.int v) scr c1 (n0 := n0) (n1 := n1) (sp := 0) (dp := 0) (n := N) f z hval (by omega)
    unfold copied
    rw [hc0', hcN]
    exact this
  rw [e1] at X' step
  have hl : a1 < H.size := (Array.getElem?_eq_some_iff.mp hc1).1
  have hheap : ((T.setVm vm').setCell a1 (vp_cell c1 (n1, .inl (va_cpy f z 0 0 N)))).heap = H.setIfInBounds a1 (vp_cell c1 (n1, .inl (va_cpy f z 0 0 N))) := by rw [← hT]; rfl
  obtain ⟨t, b1, b2⟩ := kk (H.setIfInBounds a1 (vp_cell c1 (n1, .inl (va_cpy f z 0 0 N)))) _ (by simp [Array.getElem?_setIfInBounds, hl]) (by simp) (fun q hq => by simp [Array.getElem?_setIfInBounds, Ne.symm hq]) (fun x hx => by
      obtain ⟨z, -, hz⟩ := List.mem_map.mp hx
      rw [← hz]) _ hheap X'
  exact ⟨t, step t b1, b2⟩

theorem ks_acopy (hκ : ks_Ok κ g own nm cc nL d mc ms) (pc : Nat) {ix i0 i1 n0 n1 : Nat} {f z : Nat → Int32} {x y w : Int32} (N : Nat) (hd : decode cc pc = .ok (.invokestatic ix, 3)) (h1 : Cond.methodLink own ix arraycopyName ∈ lw_g) (h2 : Cond.native arraycopyName ∈ lw_g) (h3 : Cond.static arraycopyName ∈ lw_g) (h4 : Cond.initialized "java/lang/System" ∈ lw_g) (hd1 : 1 ≤ d) (hst : (st.map fun v => v.category).sum ≤ 8) (hc0 : h[i0]? = some (ks_I g n0 f)) (hc1 : h[i1]? = some (ks_I g n1 z)) (hx9 : x = nI N) (hy9 : y = nI 0) (hw9 : w = nI 0) (hN0 : N ≤ n0) (hN1 : N ≤ n1) (hN : N < 2 ^ 31) (kk : ks_K κ g nL (h.set i1 (ks_I g n1 (va_cpy f z 0 0 N))) k n (pc + 3) ls st) : ks_K κ g nL h k n pc ls (.int x :: .int y :: ks_ref g i1 :: .int w :: ks_ref g i0 :: st) := by
  obtain ⟨p, l, e, R, s, m, args, below, meth, c, Q⟩ := κ
  obtain ⟨hx, hb, hml, hown, hts, hin, hfr, hlo, hce, hsl, hK, hSt, hNw, hz⟩ := hκ
  subst hx9; subst hy9; subst hw9
  intro H locs la hR hS hl
  refine ks_copy0 (n0 := n0) hx hb (hml.trans hl.1.symm) hown (hts _ h1) (hts _ h2) (hts _ h3) (hts _ h4) (hR.at hc0) ((hK.2 0 _ rfl).1 n0 (fun j => .int (f j))) (fun q => by cases q) (by show _ ≤ (arrV _ _ _).slots.size; rw [arrV_size]; exact Nat.le_refl _) (fun j hj => by show (arrV _ _ _).slots[_]? = _; rw [arrV_read _ _ hj]) (hR.at hc1) (hK.2 0 _ rfl).1 hN0 hN1 hN (by rw [hfr]; exact hd1) (Nat.le_trans (Nat.add_le_add_right hst _) (Nat.le_trans (by decide) (Nat.le_trans (Nat.mul_le_mul_left 40 hd1) hlo))) hd fun H1 locs1 e1 z1 o1 hl1 => ?_
  refine kk H1 _ la (hR.set hc1 e1 z1 o1) ⟨by rw [z1]; exact hS.1, fun q g1 g2 => (o1 q (fun e => g2 (by rw [e]; exact Nat.le_add_right _ _))).trans (hS.2.1 q g1 g2), fun q hq => ?_⟩ hl
  rcases List.mem_append.mp hq with h | h
  · exact hS.2.2 q h
  · rw [hl1 q h]; exact Nat.le_add_right _ _

theorem ks_acopyT (hκ : ks_Ok κ g own nm cc nL d mc ms) (pc : Nat) {ix i1 n1 : Nat} {z : Nat → Int32} {x y w : Int32} (N : Nat) (hd : decode cc pc = .ok (.invokestatic ix, 3)) (h1 : Cond.methodLink own ix arraycopyName ∈ lw_g) (h2 : Cond.native arraycopyName ∈ lw_g) (h3 : Cond.static arraycopyName ∈ lw_g) (h4 : Cond.initialized "java/lang/System" ∈ lw_g) (hd1 : 1 ≤ d) (hst : (st.map fun v => v.category).sum ≤ 8) (hc1 : h[i1]? = some (ks_I g n1 z)) (hx9 : x = nI N) (hy9 : y = nI 0) (hw9 : w = nI 0) (hN0 : N ≤ 4) (hN1 : N ≤ n1) (kk : ks_K κ g nL (h.set i1 (ks_I g n1 (va_cpy (fun j => ([3, 4, 5, 14] : List Int32).getD j 0) z 0 0 N))) k n (pc + 3) ls st) : ks_K κ g nL h k n pc ls (.int x :: .int y :: ks_ref g i1 :: .int w :: .ref g.2.2.2.1 :: st) := by
  obtain ⟨p, l, e, R, s, m, args, below, meth, c, Q⟩ := κ
  obtain ⟨hx, hb, hml, hown, hts, hin, hfr, hlo, hce, hsl, hK, hSt, hNw, hz⟩ := hκ
  subst hx9; subst hy9; subst hw9
  intro H locs la hR hS hl
  obtain ⟨cell, t1, t2, t3, t4, t5, t6, t7⟩ := hSt.1.2
  refine ks_copy0 (n0 := 4) hx hb (hml.trans hl.1.symm) hown (hts _ h1) (hts _ h2) (hts _ h3) (hts _ h4) (by rw [hS.2.1 _ (Array.getElem?_eq_some_iff.mp t1).1 t7]; exact t1) t2 t3 t4 t6 (hR.at hc1) (hK.2 0 _ rfl).1 hN0 hN1 (Nat.lt_of_le_of_lt hN0 (by decide)) (by rw [hfr]; exact hd1) (Nat.le_trans (Nat.add_le_add_right hst _) (Nat.le_trans (by decide) (Nat.le_trans (Nat.mul_le_mul_left 40 hd1) hlo))) hd fun H1 locs1 e1 z1 o1 hl1 => ?_
  refine kk H1 _ la (hR.set hc1 e1 z1 o1) ⟨by rw [z1]; exact hS.1, fun q g1 g2 => (o1 q (fun e => g2 (by rw [e]; exact Nat.le_add_right _ _))).trans (hS.2.1 q g1 g2), fun q hq => ?_⟩ hl
  rcases List.mem_append.mp hq with h | h
  · exact hS.2.2 q h
  · rw [hl1 q h]; exact Nat.le_add_right _ _


theorem ks_blind {av : List Value} : FrameBlind (va_Pc av (ks_W g h)) := fun a U gf mk q => ⟨q.1, q.2.1, va_K.moved (u := U) (U := U.calling gf mk a) (Vm.Alike.refl U.vm) q.2.2.1, q.2.2.2.1.moved (u := U) (U := U.calling gf mk a) (Vm.Alike.refl U.vm), q.2.2.2.2.same (u := U) (U := U.calling gf mk a) rfl⟩
theorem ks_W.at {s U : State} {H : Heap} {locs : List Loc} (hU : U.heap = H) (hW : s.WarmedH U.vm) (hR : ks_R g h H) (hS : va_S (ks_A g) s.heap H locs) (hK : va_K g.2.1 vwCl (ks_tys g) s) (hSt : ks_St g s s.heap) (hNw : ks_Nw s) : ks_W g h U :=
  ⟨by rw [hU]; exact hR, va_K.moved hW.alike hK, by rw [hU]; exact (hSt.kept hS.2.1).moved hW.alike, hNw.warm hW⟩

theorem ks_callV0 (hκ : ks_Ok κ g own nm cc nL d mc ms) (pc : Nat) {ix i ci dc mc' ms' nL' : Nat} {cc' : ByteArray} {y : MethodName} {ret : Option FieldType} {fs : List Value} {Post : Option Value → ks_H → Prop} (hd : decode cc pc = .ok (.invokevirtual ix, 3)) (hw : ks_CV own ix y cc' nL' ret 0) (hM : ks_Met g (y, cc', nL', ret) dc mc' ms' [ks_ref g i] h Post) (hc : h[i]? = some (ks_O ci fs)) (hcl : (vwCl[ci]?).map (fun q => q.1) = some y.cls) (hdc : dc < d) (hk : k + mc' ≤ mc) (hn : n + ms' ≤ ms) (hst : (st.map fun v => v.category).sum ≤ 8) (kk : ∀ (v : Option Value) (h' : ks_H), Post v h' → ks_K κ g nL h' (k + mc') (n + ms') (pc + 3) ls (v.toList ++ st)) : ks_K κ g nL h k n pc ls (ks_ref g i :: st) := by
  obtain ⟨p, l, e, R, s, m, args, below, meth, c, Q⟩ := κ
  obtain ⟨hx, hb, hml, hown, hts, hin, hfr, hlo, hce, hsl, hK, hSt, hNw, hz⟩ := hκ
  obtain ⟨⟨i1, i2, i3, i4, i5⟩, hln, hrest⟩ := hw
  have hG := ks_good i2
  have hini := hts _ i1
  have hcw : Cond.code y cc' nL' ret ∈ (Cond.code y cc' nL' ret :: lw_g) := List.mem_cons_self
  have hlen : ∀ sig, parseMethodDescriptor y.desc = some sig → 0 = sig.parameters.length := fun sig hs => by
    have h2 := i4
    rw [hs] at h2
    exact (Option.some.inj h2).symm
  have hfr' : (ks_room dc mc' ms').frames + 1 ≤ R.frames := by rw [hfr]; exact hdc
  have hlo' : 8 + (nL' + 11) + (ks_room dc mc' ms').locals ≤ R.locals := by show 8 + (nL' + 11) + 40 * dc ≤ R.locals; omega
  intro H locs la hR hS hl T hT X
  obtain ⟨q, hq1, hq2⟩ : ∃ q, vwCl[ci]? = some q ∧ q.1 = y.cls := by
    cases hv : vwCl[ci]? with
    | none => rw [hv] at hcl; cases hcl
    | some q => rw [hv] at hcl; exact ⟨q, rfl, Option.some.inj hcl⟩
  have hrc := va_recv hK hR.2 hq1 (ks_wl_get hc)
  rw [hq2] at hrc
  obtain ⟨v, st₀, t, T', L, h0, X', hL, e1, e2, ⟨⟨v', h', hv, hPo, hR'⟩, hF⟩, st9⟩ := va_runV (As := []) (rest := st) (C := y.cls) (n := 0) ⟨hx, hb, hml, hown, hts⟩ (hM l) ⟨⟨rfl, rfl, hfr', hlo', pay_in hts hG, hcw, hts _ i2, hini, i3, hlen, hts _ hln⟩, hts _ hrest.1, hts _ hrest.2⟩ ⟨ks_blind, hrc, fun U hU hW => ⟨rfl, ks_W.at hU hW hR hS hK hSt hNw⟩⟩ (g := F0 m pc la (.ref (g.1 + i) :: st)) rfl rfl (hl.1) rfl (lv_room hst) hd ⟨by rw [hce]; exact hk, by rw [hsl]; exact hn⟩ T hT X
  cases hv
  obtain ⟨t2, a1, b1⟩ := kk v h' hPo T'.heap (locs ++ L) la (by rw [e1]; exact hR') ⟨Nat.le_trans hS.1 (by rw [e1, ← h0]; exact hF.1), fun q g1 g2 => by
      rw [e1, hF.2 q (by rw [h0]; exact Nat.lt_of_lt_of_le g1 hS.1) g2, h0]
      exact hS.2.1 q g1 g2, fun q hq => by
      rcases List.mem_append.mp hq with h | h
      · exact hS.2.2 q h
      · exact hL q h⟩ hl T' rfl X'
  exact ⟨t2, st9 t2 a1, b1⟩

theorem ks_callS0 (hκ : ks_Ok κ g own nm cc nL d mc ms) (pc : Nat) {ix dc mc' ms' nL' : Nat} {cc' : ByteArray} {y : MethodName} {ret : Option FieldType} {Post : Option Value → ks_H → Prop} (hd : decode cc pc = .ok (.invokestatic ix, 3)) (hw : ks_CS own ix y cc' nL' ret 0) (hM : ks_Met g (y, cc', nL', ret) dc mc' ms' [] h Post) (hdc : dc < d) (hk : k + mc' ≤ mc) (hn : n + ms' ≤ ms) (hst : (st.map fun v => v.category).sum ≤ 8) (kk : ∀ (v : Option Value) (h' : ks_H), Post v h' → ks_K κ g nL h' (k + mc') (n + ms') (pc + 3) ls (v.toList ++ st)) : ks_K κ g nL h k n pc ls (st) := by
  obtain ⟨p, l, e, R, s, m, args, below, meth, c, Q⟩ := κ
  obtain ⟨hx, hb, hml, hown, hts, hin, hfr, hlo, hce, hsl, hK, hSt, hNw, hz⟩ := hκ
  obtain ⟨⟨i1, i2, i3, i4, i5⟩, hln, hrest⟩ := hw
  have hG := ks_good i2
  have hini := hts _ i1
  have hcw : Cond.code y cc' nL' ret ∈ (Cond.code y cc' nL' ret :: lw_g) := List.mem_cons_self
  have hlen : ∀ sig, parseMethodDescriptor y.desc = some sig → 0 = sig.parameters.length := fun sig hs => by
    have h2 := i4
    rw [hs] at h2
    exact (Option.some.inj h2).symm
  have hfr' : (ks_room dc mc' ms').frames + 1 ≤ R.frames := by rw [hfr]; exact hdc
  have hlo' : 8 + (nL' + 11) + (ks_room dc mc' ms').locals ≤ R.locals := by show 8 + (nL' + 11) + 40 * dc ≤ R.locals; omega
  intro H locs la hR hS hl T hT X
  have hpre : PreS s H (va_Pc [] (ks_W g h)) [] := ⟨ks_blind, fun U hU hW => ⟨rfl, ks_W.at hU hW hR hS hK hSt hNw⟩⟩
  have hrun : va_Run p l e R s m args below meth c H locs k n mc' ms' (F0 m pc la (st)) st (ks_Q g Post ([] : List Value).toArray) (ks_A g) := by
    rcases hln with hln | ⟨host, hln⟩
    · exact va_runS (As := []) (rest := st) (n := 0) ⟨hx, hb, hml, hown, hts⟩ (hM l) ⟨⟨rfl, rfl, hfr', hlo', pay_in hts hG, hcw, hts _ i2, hini, i3, hlen, hts _ hln⟩, hts _ hrest⟩ hpre (g := F0 m pc la (st)) rfl rfl (hl.1) rfl (lv_room hst) hd ⟨by rw [hce]; exact hk, by rw [hsl]; exact hn⟩
    · exact va_runSN (As := []) (rest := st) (n := 0) (host := host) ⟨hx, hb, hml, hown, hts⟩ (hM l) ⟨⟨⟨rfl, rfl, hfr', hlo', pay_in hts hG, hcw⟩, hts _ i2, hini, i3, hlen, va_Nw.use rfl (hNw.1 _ hln)⟩, hts _ hrest, trivial⟩ hpre (g := F0 m pc la (st)) rfl rfl (hl.1) rfl (lv_room hst) hd ⟨by rw [hce]; exact hk, by rw [hsl]; exact hn⟩
  obtain ⟨v, st₀, t, T', L, h0, X', hL, e1, e2, ⟨⟨v', h', hv, hPo, hR'⟩, hF⟩, st9⟩ := hrun T hT X
  cases hv
  obtain ⟨t2, a1, b1⟩ := kk v h' hPo T'.heap (locs ++ L) la (by rw [e1]; exact hR') ⟨Nat.le_trans hS.1 (by rw [e1, ← h0]; exact hF.1), fun q g1 g2 => by
      rw [e1, hF.2 q (by rw [h0]; exact Nat.lt_of_lt_of_le g1 hS.1) g2, h0]
      exact hS.2.1 q g1 g2, fun q hq => by
      rcases List.mem_append.mp hq with h | h
      · exact hS.2.2 q h
      · exact hL q h⟩ hl T' rfl X'
  exact ⟨t2, st9 t2 a1, b1⟩

theorem ks_callV1 (hκ : ks_Ok κ g own nm cc nL d mc ms) (pc : Nat) {ix i ci dc mc' ms' nL' : Nat} {cc' : ByteArray} {y : MethodName} {ret : Option FieldType} {fs : List Value} {Post : Option Value → ks_H → Prop} {a1 : Value} (hd : decode cc pc = .ok (.invokevirtual ix, 3)) (hw : ks_CV own ix y cc' nL' ret 1) (hM : ks_Met g (y, cc', nL', ret) dc mc' ms' [ks_ref g i, a1] h Post) (hc : h[i]? = some (ks_O ci fs)) (hcl : (vwCl[ci]?).map (fun q => q.1) = some y.cls) (hdc : dc < d) (hk : k + mc' ≤ mc) (hn : n + ms' ≤ ms) (hst : (st.map fun v => v.category).sum ≤ 8) (kk : ∀ (v : Option Value) (h' : ks_H), Post v h' → ks_K κ g nL h' (k + mc') (n + ms') (pc + 3) ls (v.toList ++ st)) : ks_K κ g nL h k n pc ls (a1 :: ks_ref g i :: st) := by
  obtain ⟨p, l, e, R, s, m, args, below, meth, c, Q⟩ := κ
  obtain ⟨hx, hb, hml, hown, hts, hin, hfr, hlo, hce, hsl, hK, hSt, hNw, hz⟩ := hκ
  obtain ⟨⟨i1, i2, i3, i4, i5⟩, hln, hrest⟩ := hw
  have hG := ks_good i2
  have hini := hts _ i1
  have hcw : Cond.code y cc' nL' ret ∈ (Cond.code y cc' nL' ret :: lw_g) := List.mem_cons_self
  have hlen : ∀ sig, parseMethodDescriptor y.desc = some sig → 1 = sig.parameters.length := fun sig hs => by
    have h2 := i4
    rw [hs] at h2
    exact (Option.some.inj h2).symm
  have hfr' : (ks_room dc mc' ms').frames + 1 ≤ R.frames := by rw [hfr]; exact hdc
  have hlo' : 8 + (nL' + 11) + (ks_room dc mc' ms').locals ≤ R.locals := by show 8 + (nL' + 11) + 40 * dc ≤ R.locals; omega
  intro H locs la hR hS hl T hT X
  obtain ⟨q, hq1, hq2⟩ : ∃ q, vwCl[ci]? = some q ∧ q.1 = y.cls := by
    cases hv : vwCl[ci]? with
    | none => rw [hv] at hcl; cases hcl
    | some q => rw [hv] at hcl; exact ⟨q, rfl, Option.some.inj hcl⟩
  have hrc := va_recv hK hR.2 hq1 (ks_wl_get hc)
  rw [hq2] at hrc
  obtain ⟨v, st₀, t, T', L, h0, X', hL, e1, e2, ⟨⟨v', h', hv, hPo, hR'⟩, hF⟩, st9⟩ := va_runV (As := [a1]) (rest := st) (C := y.cls) (n := 1) ⟨hx, hb, hml, hown, hts⟩ (hM l) ⟨⟨rfl, rfl, hfr', hlo', pay_in hts hG, hcw, hts _ i2, hini, i3, hlen, hts _ hln⟩, hts _ hrest.1, hts _ hrest.2⟩ ⟨ks_blind, hrc, fun U hU hW => ⟨rfl, ks_W.at hU hW hR hS hK hSt hNw⟩⟩ (g := F0 m pc la (a1 :: .ref (g.1 + i) :: st)) rfl rfl (hl.1) rfl (lv_room hst) hd ⟨by rw [hce]; exact hk, by rw [hsl]; exact hn⟩ T hT X
  cases hv
  obtain ⟨t2, a1, b1⟩ := kk v h' hPo T'.heap (locs ++ L) la (by rw [e1]; exact hR') ⟨Nat.le_trans hS.1 (by rw [e1, ← h0]; exact hF.1), fun q g1 g2 => by
      rw [e1, hF.2 q (by rw [h0]; exact Nat.lt_of_lt_of_le g1 hS.1) g2, h0]
      exact hS.2.1 q g1 g2, fun q hq => by
      rcases List.mem_append.mp hq with h | h
      · exact hS.2.2 q h
      · exact hL q h⟩ hl T' rfl X'
  exact ⟨t2, st9 t2 a1, b1⟩

theorem ks_callS1 (hκ : ks_Ok κ g own nm cc nL d mc ms) (pc : Nat) {ix dc mc' ms' nL' : Nat} {cc' : ByteArray} {y : MethodName} {ret : Option FieldType} {Post : Option Value → ks_H → Prop} {a1 : Value} (hd : decode cc pc = .ok (.invokestatic ix, 3)) (hw : ks_CS own ix y cc' nL' ret 1) (hM : ks_Met g (y, cc', nL', ret) dc mc' ms' [a1] h Post) (hdc : dc < d) (hk : k + mc' ≤ mc) (hn : n + ms' ≤ ms) (hst : (st.map fun v => v.category).sum ≤ 8) (kk : ∀ (v : Option Value) (h' : ks_H), Post v h' → ks_K κ g nL h' (k + mc') (n + ms') (pc + 3) ls (v.toList ++ st)) : ks_K κ g nL h k n pc ls (a1 :: st) := by
  obtain ⟨p, l, e, R, s, m, args, below, meth, c, Q⟩ := κ
  obtain ⟨hx, hb, hml, hown, hts, hin, hfr, hlo, hce, hsl, hK, hSt, hNw, hz⟩ := hκ
  obtain ⟨⟨i1, i2, i3, i4, i5⟩, hln, hrest⟩ := hw
  have hG := ks_good i2
  have hini := hts _ i1
  have hcw : Cond.code y cc' nL' ret ∈ (Cond.code y cc' nL' ret :: lw_g) := List.mem_cons_self
  have hlen : ∀ sig, parseMethodDescriptor y.desc = some sig → 1 = sig.parameters.length := fun sig hs => by
    have h2 := i4
    rw [hs] at h2
    exact (Option.some.inj h2).symm
  have hfr' : (ks_room dc mc' ms').frames + 1 ≤ R.frames := by rw [hfr]; exact hdc
  have hlo' : 8 + (nL' + 11) + (ks_room dc mc' ms').locals ≤ R.locals := by show 8 + (nL' + 11) + 40 * dc ≤ R.locals; omega
  intro H locs la hR hS hl T hT X
  have hpre : PreS s H (va_Pc [a1] (ks_W g h)) [a1] := ⟨ks_blind, fun U hU hW => ⟨rfl, ks_W.at hU hW hR hS hK hSt hNw⟩⟩
  have hrun : va_Run p l e R s m args below meth c H locs k n mc' ms' (F0 m pc la (a1 :: st)) st (ks_Q g Post ([a1] : List Value).toArray) (ks_A g) := by
    rcases hln with hln | ⟨host, hln⟩
    · exact va_runS (As := [a1]) (rest := st) (n := 1) ⟨hx, hb, hml, hown, hts⟩ (hM l) ⟨⟨rfl, rfl, hfr', hlo', pay_in hts hG, hcw, hts _ i2, hini, i3, hlen, hts _ hln⟩, hts _ hrest⟩ hpre (g := F0 m pc la (a1 :: st)) rfl rfl (hl.1) rfl (lv_room hst) hd ⟨by rw [hce]; exact hk, by rw [hsl]; exact hn⟩
    · exact va_runSN (As := [a1]) (rest := st) (n := 1) (host := host) ⟨hx, hb, hml, hown, hts⟩ (hM l) ⟨⟨⟨rfl, rfl, hfr', hlo', pay_in hts hG, hcw⟩, hts _ i2, hini, i3, hlen, va_Nw.use rfl (hNw.1 _ hln)⟩, hts _ hrest, trivial⟩ hpre (g := F0 m pc la (a1 :: st)) rfl rfl (hl.1) rfl (lv_room hst) hd ⟨by rw [hce]; exact hk, by rw [hsl]; exact hn⟩
  obtain ⟨v, st₀, t, T', L, h0, X', hL, e1, e2, ⟨⟨v', h', hv, hPo, hR'⟩, hF⟩, st9⟩ := hrun T hT X
  cases hv
  obtain ⟨t2, a1, b1⟩ := kk v h' hPo T'.heap (locs ++ L) la (by rw [e1]; exact hR') ⟨Nat.le_trans hS.1 (by rw [e1, ← h0]; exact hF.1), fun q g1 g2 => by
      rw [e1, hF.2 q (by rw [h0]; exact Nat.lt_of_lt_of_le g1 hS.1) g2, h0]
      exact hS.2.1 q g1 g2, fun q hq => by
      rcases List.mem_append.mp hq with h | h
      · exact hS.2.2 q h
      · exact hL q h⟩ hl T' rfl X'
  exact ⟨t2, st9 t2 a1, b1⟩

theorem ks_callV2 (hκ : ks_Ok κ g own nm cc nL d mc ms) (pc : Nat) {ix i ci dc mc' ms' nL' : Nat} {cc' : ByteArray} {y : MethodName} {ret : Option FieldType} {fs : List Value} {Post : Option Value → ks_H → Prop} {a1 a2 : Value} (hd : decode cc pc = .ok (.invokevirtual ix, 3)) (hw : ks_CV own ix y cc' nL' ret 2) (hM : ks_Met g (y, cc', nL', ret) dc mc' ms' [ks_ref g i, a1, a2] h Post) (hc : h[i]? = some (ks_O ci fs)) (hcl : (vwCl[ci]?).map (fun q => q.1) = some y.cls) (hdc : dc < d) (hk : k + mc' ≤ mc) (hn : n + ms' ≤ ms) (hst : (st.map fun v => v.category).sum ≤ 8) (kk : ∀ (v : Option Value) (h' : ks_H), Post v h' → ks_K κ g nL h' (k + mc') (n + ms') (pc + 3) ls (v.toList ++ st)) : ks_K κ g nL h k n pc ls (a2 :: a1 :: ks_ref g i :: st) := by
  obtain ⟨p, l, e, R, s, m, args, below, meth, c, Q⟩ := κ
  obtain ⟨hx, hb, hml, hown, hts, hin, hfr, hlo, hce, hsl, hK, hSt, hNw, hz⟩ := hκ
  obtain ⟨⟨i1, i2, i3, i4, i5⟩, hln, hrest⟩ := hw
  have hG := ks_good i2
  have hini := hts _ i1
  have hcw : Cond.code y cc' nL' ret ∈ (Cond.code y cc' nL' ret :: lw_g) := List.mem_cons_self
  have hlen : ∀ sig, parseMethodDescriptor y.desc = some sig → 2 = sig.parameters.length := fun sig hs => by
    have h2 := i4
    rw [hs] at h2
    exact (Option.some.inj h2).symm
  have hfr' : (ks_room dc mc' ms').frames + 1 ≤ R.frames := by rw [hfr]; exact hdc
  have hlo' : 8 + (nL' + 11) + (ks_room dc mc' ms').locals ≤ R.locals := by show 8 + (nL' + 11) + 40 * dc ≤ R.locals; omega
  intro H locs la hR hS hl T hT X
  obtain ⟨q, hq1, hq2⟩ : ∃ q, vwCl[ci]? = some q ∧ q.1 = y.cls := by
    cases hv : vwCl[ci]? with
    | none => rw [hv] at hcl; cases hcl
    | some q => rw [hv] at hcl; exact ⟨q, rfl, Option.some.inj hcl⟩
  have hrc := va_recv hK hR.2 hq1 (ks_wl_get hc)
  rw [hq2] at hrc
  obtain ⟨v, st₀, t, T', L, h0, X', hL, e1, e2, ⟨⟨v', h', hv, hPo, hR'⟩, hF⟩, st9⟩ := va_runV (As := [a1, a2]) (rest := st) (C := y.cls) (n := 2) ⟨hx, hb, hml, hown, hts⟩ (hM l) ⟨⟨rfl, rfl, hfr', hlo', pay_in hts hG, hcw, hts _ i2, hini, i3, hlen, hts _ hln⟩, hts _ hrest.1, hts _ hrest.2⟩ ⟨ks_blind, hrc, fun U hU hW => ⟨rfl, ks_W.at hU hW hR hS hK hSt hNw⟩⟩ (g := F0 m pc la (a2 :: a1 :: .ref (g.1 + i) :: st)) rfl rfl (hl.1) rfl (lv_room hst) hd ⟨by rw [hce]; exact hk, by rw [hsl]; exact hn⟩ T hT X
  cases hv
  obtain ⟨t2, a1, b1⟩ := kk v h' hPo T'.heap (locs ++ L) la (by rw [e1]; exact hR') ⟨Nat.le_trans hS.1 (by rw [e1, ← h0]; exact hF.1), fun q g1 g2 => by
      rw [e1, hF.2 q (by rw [h0]; exact Nat.lt_of_lt_of_le g1 hS.1) g2, h0]
      exact hS.2.1 q g1 g2, fun q hq => by
      rcases List.mem_append.mp hq with h | h
      · exact hS.2.2 q h
      · exact hL q h⟩ hl T' rfl X'
  exact ⟨t2, st9 t2 a1, b1⟩

theorem ks_callS2 (hκ : ks_Ok κ g own nm cc nL d mc ms) (pc : Nat) {ix dc mc' ms' nL' : Nat} {cc' : ByteArray} {y : MethodName} {ret : Option FieldType} {Post : Option Value → ks_H → Prop} {a1 a2 : Value} (hd : decode cc pc = .ok (.invokestatic ix, 3)) (hw : ks_CS own ix y cc' nL' ret 2) (hM : ks_Met g (y, cc', nL', ret) dc mc' ms' [a1, a2] h Post) (hdc : dc < d) (hk : k + mc' ≤ mc) (hn : n + ms' ≤ ms) (hst : (st.map fun v => v.category).sum ≤ 8) (kk : ∀ (v : Option Value) (h' : ks_H), Post v h' → ks_K κ g nL h' (k + mc') (n + ms') (pc + 3) ls (v.toList ++ st)) : ks_K κ g nL h k n pc ls (a2 :: a1 :: st) := by
  obtain ⟨p, l, e, R, s, m, args, below, meth, c, Q⟩ := κ
  obtain ⟨hx, hb, hml, hown, hts, hin, hfr, hlo, hce, hsl, hK, hSt, hNw, hz⟩ := hκ
  obtain ⟨⟨i1, i2, i3, i4, i5⟩, hln, hrest⟩ := hw
  have hG := ks_good i2
  have hini := hts _ i1
  have hcw : Cond.code y cc' nL' ret ∈ (Cond.code y cc' nL' ret :: lw_g) := List.mem_cons_self
  have hlen : ∀ sig, parseMethodDescriptor y.desc = some sig → 2 = sig.parameters.length := fun sig hs => by
    have h2 := i4
    rw [hs] at h2
    exact (Option.some.inj h2).symm
  have hfr' : (ks_room dc mc' ms').frames + 1 ≤ R.frames := by rw [hfr]; exact hdc
  have hlo' : 8 + (nL' + 11) + (ks_room dc mc' ms').locals ≤ R.locals := by show 8 + (nL' + 11) + 40 * dc ≤ R.locals; omega
  intro H locs la hR hS hl T hT X
  have hpre : PreS s H (va_Pc [a1, a2] (ks_W g h)) [a1, a2] := ⟨ks_blind, fun U hU hW => ⟨rfl, ks_W.at hU hW hR hS hK hSt hNw⟩⟩
  have hrun : va_Run p l e R s m args below meth c H locs k n mc' ms' (F0 m pc la (a2 :: a1 :: st)) st (ks_Q g Post ([a1, a2] : List Value).toArray) (ks_A g) := by
    rcases hln with hln | ⟨host, hln⟩
    · exact va_runS (As := [a1, a2]) (rest := st) (n := 2) ⟨hx, hb, hml, hown, hts⟩ (hM l) ⟨⟨rfl, rfl, hfr', hlo', pay_in hts hG, hcw, hts _ i2, hini, i3, hlen, hts _ hln⟩, hts _ hrest⟩ hpre (g := F0 m pc la (a2 :: a1 :: st)) rfl rfl (hl.1) rfl (lv_room hst) hd ⟨by rw [hce]; exact hk, by rw [hsl]; exact hn⟩
    · exact va_runSN (As := [a1, a2]) (rest := st) (n := 2) (host := host) ⟨hx, hb, hml, hown, hts⟩ (hM l) ⟨⟨⟨rfl, rfl, hfr', hlo', pay_in hts hG, hcw⟩, hts _ i2, hini, i3, hlen, va_Nw.use rfl (hNw.1 _ hln)⟩, hts _ hrest, trivial⟩ hpre (g := F0 m pc la (a2 :: a1 :: st)) rfl rfl (hl.1) rfl (lv_room hst) hd ⟨by rw [hce]; exact hk, by rw [hsl]; exact hn⟩
  obtain ⟨v, st₀, t, T', L, h0, X', hL, e1, e2, ⟨⟨v', h', hv, hPo, hR'⟩, hF⟩, st9⟩ := hrun T hT X
  cases hv
  obtain ⟨t2, a1, b1⟩ := kk v h' hPo T'.heap (locs ++ L) la (by rw [e1]; exact hR') ⟨Nat.le_trans hS.1 (by rw [e1, ← h0]; exact hF.1), fun q g1 g2 => by
      rw [e1, hF.2 q (by rw [h0]; exact Nat.lt_of_lt_of_le g1 hS.1) g2, h0]
      exact hS.2.1 q g1 g2, fun q hq => by
      rcases List.mem_append.mp hq with h | h
      · exact hS.2.2 q h
      · exact hL q h⟩ hl T' rfl X'
  exact ⟨t2, st9 t2 a1, b1⟩

theorem ks_callV3 (hκ : ks_Ok κ g own nm cc nL d mc ms) (pc : Nat) {ix i ci dc mc' ms' nL' : Nat} {cc' : ByteArray} {y : MethodName} {ret : Option FieldType} {fs : List Value} {Post : Option Value → ks_H → Prop} {a1 a2 a3 : Value} (hd : decode cc pc = .ok (.invokevirtual ix, 3)) (hw : ks_CV own ix y cc' nL' ret 3) (hM : ks_Met g (y, cc', nL', ret) dc mc' ms' [ks_ref g i, a1, a2, a3] h Post) (hc : h[i]? = some (ks_O ci fs)) (hcl : (vwCl[ci]?).map (fun q => q.1) = some y.cls) (hdc : dc < d) (hk : k + mc' ≤ mc) (hn : n + ms' ≤ ms) (hst : (st.map fun v => v.category).sum ≤ 8) (kk : ∀ (v : Option Value) (h' : ks_H), Post v h' → ks_K κ g nL h' (k + mc') (n + ms') (pc + 3) ls (v.toList ++ st)) : ks_K κ g nL h k n pc ls (a3 :: a2 :: a1 :: ks_ref g i :: st) := by
  obtain ⟨p, l, e, R, s, m, args, below, meth, c, Q⟩ := κ
  obtain ⟨hx, hb, hml, hown, hts, hin, hfr, hlo, hce, hsl, hK, hSt, hNw, hz⟩ := hκ
  obtain ⟨⟨i1, i2, i3, i4, i5⟩, hln, hrest⟩ := hw
  have hG := ks_good i2
  have hini := hts _ i1
  have hcw : Cond.code y cc' nL' ret ∈ (Cond.code y cc' nL' ret :: lw_g) := List.mem_cons_self
  have hlen : ∀ sig, parseMethodDescriptor y.desc = some sig → 3 = sig.parameters.length := fun sig hs => by
    have h2 := i4
    rw [hs] at h2
    exact (Option.some.inj h2).symm
  have hfr' : (ks_room dc mc' ms').frames + 1 ≤ R.frames := by rw [hfr]; exact hdc
  have hlo' : 8 + (nL' + 11) + (ks_room dc mc' ms').locals ≤ R.locals := by show 8 + (nL' + 11) + 40 * dc ≤ R.locals; omega
  intro H locs la hR hS hl T hT X
  obtain ⟨q, hq1, hq2⟩ : ∃ q, vwCl[ci]? = some q ∧ q.1 = y.cls := by
    cases hv : vwCl[ci]? with
    | none => rw [hv] at hcl; cases hcl
    | some q => rw [hv] at hcl; exact ⟨q, rfl, Option.some.inj hcl⟩
  have hrc := va_recv hK hR.2 hq1 (ks_wl_get hc)
  rw [hq2] at hrc
  obtain ⟨v, st₀, t, T', L, h0, X', hL, e1, e2, ⟨⟨v', h', hv, hPo, hR'⟩, hF⟩, st9⟩ := va_runV (As := [a1, a2, a3]) (rest := st) (C := y.cls) (n := 3) ⟨hx, hb, hml, hown, hts⟩ (hM l) ⟨⟨rfl, rfl, hfr', hlo', pay_in hts hG, hcw, hts _ i2, hini, i3, hlen, hts _ hln⟩, hts _ hrest.1, hts _ hrest.2⟩ ⟨ks_blind, hrc, fun U hU hW => ⟨rfl, ks_W.at hU hW hR hS hK hSt hNw⟩⟩ (g := F0 m pc la (a3 :: a2 :: a1 :: .ref (g.1 + i) :: st)) rfl rfl (hl.1) rfl (lv_room hst) hd ⟨by rw [hce]; exact hk, by rw [hsl]; exact hn⟩ T hT X
  cases hv
  obtain ⟨t2, a1, b1⟩ := kk v h' hPo T'.heap (locs ++ L) la (by rw [e1]; exact hR') ⟨Nat.le_trans hS.1 (by rw [e1, ← h0]; exact hF.1), fun q g1 g2 => by
      rw [e1, hF.2 q (by rw [h0]; exact Nat.lt_of_lt_of_le g1 hS.1) g2, h0]
      exact hS.2.1 q g1 g2, fun q hq => by
      rcases List.mem_append.mp hq with h | h
      · exact hS.2.2 q h
      · exact hL q h⟩ hl T' rfl X'
  exact ⟨t2, st9 t2 a1, b1⟩

theorem ks_callS3 (hκ : ks_Ok κ g own nm cc nL d mc ms) (pc : Nat) {ix dc mc' ms' nL' : Nat} {cc' : ByteArray} {y : MethodName} {ret : Option FieldType} {Post : Option Value → ks_H → Prop} {a1 a2 a3 : Value} (hd : decode cc pc = .ok (.invokestatic ix, 3)) (hw : ks_CS own ix y cc' nL' ret 3) (hM : ks_Met g (y, cc', nL', ret) dc mc' ms' [a1, a2, a3] h Post) (hdc : dc < d) (hk : k + mc' ≤ mc) (hn : n + ms' ≤ ms) (hst : (st.map fun v => v.category).sum ≤ 8) (kk : ∀ (v : Option Value) (h' : ks_H), Post v h' → ks_K κ g nL h' (k + mc') (n + ms') (pc + 3) ls (v.toList ++ st)) : ks_K κ g nL h k n pc ls (a3 :: a2 :: a1 :: st) := by
  obtain ⟨p, l, e, R, s, m, args, below, meth, c, Q⟩ := κ
  obtain ⟨hx, hb, hml, hown, hts, hin, hfr, hlo, hce, hsl, hK, hSt, hNw, hz⟩ := hκ
  obtain ⟨⟨i1, i2, i3, i4, i5⟩, hln, hrest⟩ := hw
  have hG := ks_good i2
  have hini := hts _ i1
  have hcw : Cond.code y cc' nL' ret ∈ (Cond.code y cc' nL' ret :: lw_g) := List.mem_cons_self
  have hlen : ∀ sig, parseMethodDescriptor y.desc = some sig → 3 = sig.parameters.length := fun sig hs => by
    have h2 := i4
    rw [hs] at h2
    exact (Option.some.inj h2).symm
  have hfr' : (ks_room dc mc' ms').frames + 1 ≤ R.frames := by rw [hfr]; exact hdc
  have hlo' : 8 + (nL' + 11) + (ks_room dc mc' ms').locals ≤ R.locals := by show 8 + (nL' + 11) + 40 * dc ≤ R.locals; omega
  intro H locs la hR hS hl T hT X
  have hpre : PreS s H (va_Pc [a1, a2, a3] (ks_W g h)) [a1, a2, a3] := ⟨ks_blind, fun U hU hW => ⟨rfl, ks_W.at hU hW hR hS hK hSt hNw⟩⟩
  have hrun : va_Run p l e R s m args below meth c H locs k n mc' ms' (F0 m pc la (a3 :: a2 :: a1 :: st)) st (ks_Q g Post ([a1, a2, a3] : List Value).toArray) (ks_A g) := by
    rcases hln with hln | ⟨host, hln⟩
    · exact va_runS (As := [a1, a2, a3]) (rest := st) (n := 3) ⟨hx, hb, hml, hown, hts⟩ (hM l) ⟨⟨rfl, rfl, hfr', hlo', pay_in hts hG, hcw, hts _ i2, hini, i3, hlen, hts _ hln⟩, hts _ hrest⟩ hpre (g := F0 m pc la (a3 :: a2 :: a1 :: st)) rfl rfl (hl.1) rfl (lv_room hst) hd ⟨by rw [hce]; exact hk, by rw [hsl]; exact hn⟩
    · exact va_runSN (As := [a1, a2, a3]) (rest := st) (n := 3) (host := host) ⟨hx, hb, hml, hown, hts⟩ (hM l) ⟨⟨⟨rfl, rfl, hfr', hlo', pay_in hts hG, hcw⟩, hts _ i2, hini, i3, hlen, va_Nw.use rfl (hNw.1 _ hln)⟩, hts _ hrest, trivial⟩ hpre (g := F0 m pc la (a3 :: a2 :: a1 :: st)) rfl rfl (hl.1) rfl (lv_room hst) hd ⟨by rw [hce]; exact hk, by rw [hsl]; exact hn⟩
  obtain ⟨v, st₀, t, T', L, h0, X', hL, e1, e2, ⟨⟨v', h', hv, hPo, hR'⟩, hF⟩, st9⟩ := hrun T hT X
  cases hv
  obtain ⟨t2, a1, b1⟩ := kk v h' hPo T'.heap (locs ++ L) la (by rw [e1]; exact hR') ⟨Nat.le_trans hS.1 (by rw [e1, ← h0]; exact hF.1), fun q g1 g2 => by
      rw [e1, hF.2 q (by rw [h0]; exact Nat.lt_of_lt_of_le g1 hS.1) g2, h0]
      exact hS.2.1 q g1 g2, fun q hq => by
      rcases List.mem_append.mp hq with h | h
      · exact hS.2.2 q h
      · exact hL q h⟩ hl T' rfl X'
  exact ⟨t2, st9 t2 a1, b1⟩

theorem ks_callV4 (hκ : ks_Ok κ g own nm cc nL d mc ms) (pc : Nat) {ix i ci dc mc' ms' nL' : Nat} {cc' : ByteArray} {y : MethodName} {ret : Option FieldType} {fs : List Value} {Post : Option Value → ks_H → Prop} {a1 a2 a3 a4 : Value} (hd : decode cc pc = .ok (.invokevirtual ix, 3)) (hw : ks_CV own ix y cc' nL' ret 4) (hM : ks_Met g (y, cc', nL', ret) dc mc' ms' [ks_ref g i, a1, a2, a3, a4] h Post) (hc : h[i]? = some (ks_O ci fs)) (hcl : (vwCl[ci]?).map (fun q => q.1) = some y.cls) (hdc : dc < d) (hk : k + mc' ≤ mc) (hn : n + ms' ≤ ms) (hst : (st.map fun v => v.category).sum ≤ 8) (kk : ∀ (v : Option Value) (h' : ks_H), Post v h' → ks_K κ g nL h' (k + mc') (n + ms') (pc + 3) ls (v.toList ++ st)) : ks_K κ g nL h k n pc ls (a4 :: a3 :: a2 :: a1 :: ks_ref g i :: st) := by
  obtain ⟨p, l, e, R, s, m, args, below, meth, c, Q⟩ := κ
  obtain ⟨hx, hb, hml, hown, hts, hin, hfr, hlo, hce, hsl, hK, hSt, hNw, hz⟩ := hκ
  obtain ⟨⟨i1, i2, i3, i4, i5⟩, hln, hrest⟩ := hw
  have hG := ks_good i2
  have hini := hts _ i1
  have hcw : Cond.code y cc' nL' ret ∈ (Cond.code y cc' nL' ret :: lw_g) := List.mem_cons_self
  have hlen : ∀ sig, parseMethodDescriptor y.desc = some sig → 4 = sig.parameters.length := fun sig hs => by
    have h2 := i4
    rw [hs] at h2
    exact (Option.some.inj h2).symm
  have hfr' : (ks_room dc mc' ms').frames + 1 ≤ R.frames := by rw [hfr]; exact hdc
  have hlo' : 8 + (nL' + 11) + (ks_room dc mc' ms').locals ≤ R.locals := by show 8 + (nL' + 11) + 40 * dc ≤ R.locals; omega
  intro H locs la hR hS hl T hT X
  obtain ⟨q, hq1, hq2⟩ : ∃ q, vwCl[ci]? = some q ∧ q.1 = y.cls := by
    cases hv : vwCl[ci]? with
    | none => rw [hv] at hcl; cases hcl
    | some q => rw [hv] at hcl; exact ⟨q, rfl, Option.some.inj hcl⟩
  have hrc := va_recv hK hR.2 hq1 (ks_wl_get hc)
  rw [hq2] at hrc
  obtain ⟨v, st₀, t, T', L, h0, X', hL, e1, e2, ⟨⟨v', h', hv, hPo, hR'⟩, hF⟩, st9⟩ := va_runV (As := [a1, a2, a3, a4]) (rest := st) (C := y.cls) (n := 4) ⟨hx, hb, hml, hown, hts⟩ (hM l) ⟨⟨rfl, rfl, hfr', hlo', pay_in hts hG, hcw, hts _ i2, hini, i3, hlen, hts _ hln⟩, hts _ hrest.1, hts _ hrest.2⟩ ⟨ks_blind, hrc, fun U hU hW => ⟨rfl, ks_W.at hU hW hR hS hK hSt hNw⟩⟩ (g := F0 m pc la (a4 :: a3 :: a2 :: a1 :: .ref (g.1 + i) :: st)) rfl rfl (hl.1) rfl (lv_room hst) hd ⟨by rw [hce]; exact hk, by rw [hsl]; exact hn⟩ T hT X
  cases hv
  obtain ⟨t2, a1, b1⟩ := kk v h' hPo T'.heap (locs ++ L) la (by rw [e1]; exact hR') ⟨Nat.le_trans hS.1 (by rw [e1, ← h0]; exact hF.1), fun q g1 g2 => by
      rw [e1, hF.2 q (by rw [h0]; exact Nat.lt_of_lt_of_le g1 hS.1) g2, h0]
      exact hS.2.1 q g1 g2, fun q hq => by
      rcases List.mem_append.mp hq with h | h
      · exact hS.2.2 q h
      · exact hL q h⟩ hl T' rfl X'
  exact ⟨t2, st9 t2 a1, b1⟩

theorem ks_callS4 (hκ : ks_Ok κ g own nm cc nL d mc ms) (pc : Nat) {ix dc mc' ms' nL' : Nat} {cc' : ByteArray} {y : MethodName} {ret : Option FieldType} {Post : Option Value → ks_H → Prop} {a1 a2 a3 a4 : Value} (hd : decode cc pc = .ok (.invokestatic ix, 3)) (hw : ks_CS own ix y cc' nL' ret 4) (hM : ks_Met g (y, cc', nL', ret) dc mc' ms' [a1, a2, a3, a4] h Post) (hdc : dc < d) (hk : k + mc' ≤ mc) (hn : n + ms' ≤ ms) (hst : (st.map fun v => v.category).sum ≤ 8) (kk : ∀ (v : Option Value) (h' : ks_H), Post v h' → ks_K κ g nL h' (k + mc') (n + ms') (pc + 3) ls (v.toList ++ st)) : ks_K κ g nL h k n pc ls (a4 :: a3 :: a2 :: a1 :: st) := by
  obtain ⟨p, l, e, R, s, m, args, below, meth, c, Q⟩ := κ
  obtain ⟨hx, hb, hml, hown, hts, hin, hfr, hlo, hce, hsl, hK, hSt, hNw, hz⟩ := hκ
  obtain ⟨⟨i1, i2, i3, i4, i5⟩, hln, hrest⟩ := hw
  have hG := ks_good i2
  have hini := hts _ i1
  have hcw : Cond.code y cc' nL' ret ∈ (Cond.code y cc' nL' ret :: lw_g) := List.mem_cons_self
  have hlen : ∀ sig, parseMethodDescriptor y.desc = some sig → 4 = sig.parameters.length := fun sig hs => by
    have h2 := i4
    rw [hs] at h2
    exact (Option.some.inj h2).symm
  have hfr' : (ks_room dc mc' ms').frames + 1 ≤ R.frames := by rw [hfr]; exact hdc
  have hlo' : 8 + (nL' + 11) + (ks_room dc mc' ms').locals ≤ R.locals := by show 8 + (nL' + 11) + 40 * dc ≤ R.locals; omega
  intro H locs la hR hS hl T hT X
  have hpre : PreS s H (va_Pc [a1, a2, a3, a4] (ks_W g h)) [a1, a2, a3, a4] := ⟨ks_blind, fun U hU hW => ⟨rfl, ks_W.at hU hW hR hS hK hSt hNw⟩⟩
  have hrun : va_Run p l e R s m args below meth c H locs k n mc' ms' (F0 m pc la (a4 :: a3 :: a2 :: a1 :: st)) st (ks_Q g Post ([a1, a2, a3, a4] : List Value).toArray) (ks_A g) := by
    rcases hln with hln | ⟨host, hln⟩
    · exact va_runS (As := [a1, a2, a3, a4]) (rest := st) (n := 4) ⟨hx, hb, hml, hown, hts⟩ (hM l) ⟨⟨rfl, rfl, hfr', hlo', pay_in hts hG, hcw, hts _ i2, hini, i3, hlen, hts _ hln⟩, hts _ hrest⟩ hpre (g := F0 m pc la (a4 :: a3 :: a2 :: a1 :: st)) rfl rfl (hl.1) rfl (lv_room hst) hd ⟨by rw [hce]; exact hk, by rw [hsl]; exact hn⟩
    · exact va_runSN (As := [a1, a2, a3, a4]) (rest := st) (n := 4) (host := host) ⟨hx, hb, hml, hown, hts⟩ (hM l) ⟨⟨⟨rfl, rfl, hfr', hlo', pay_in hts hG, hcw⟩, hts _ i2, hini, i3, hlen, va_Nw.use rfl (hNw.1 _ hln)⟩, hts _ hrest, trivial⟩ hpre (g := F0 m pc la (a4 :: a3 :: a2 :: a1 :: st)) rfl rfl (hl.1) rfl (lv_room hst) hd ⟨by rw [hce]; exact hk, by rw [hsl]; exact hn⟩
  obtain ⟨v, st₀, t, T', L, h0, X', hL, e1, e2, ⟨⟨v', h', hv, hPo, hR'⟩, hF⟩, st9⟩ := hrun T hT X
  cases hv
  obtain ⟨t2, a1, b1⟩ := kk v h' hPo T'.heap (locs ++ L) la (by rw [e1]; exact hR') ⟨Nat.le_trans hS.1 (by rw [e1, ← h0]; exact hF.1), fun q g1 g2 => by
      rw [e1, hF.2 q (by rw [h0]; exact Nat.lt_of_lt_of_le g1 hS.1) g2, h0]
      exact hS.2.1 q g1 g2, fun q hq => by
      rcases List.mem_append.mp hq with h | h
      · exact hS.2.2 q h
      · exact hL q h⟩ hl T' rfl X'
  exact ⟨t2, st9 t2 a1, b1⟩

theorem ks_callS5 (hκ : ks_Ok κ g own nm cc nL d mc ms) (pc : Nat) {ix dc mc' ms' nL' : Nat} {cc' : ByteArray} {y : MethodName} {ret : Option FieldType} {Post : Option Value → ks_H → Prop} {a1 a2 a3 a4 a5 : Value} (hd : decode cc pc = .ok (.invokestatic ix, 3)) (hw : ks_CS own ix y cc' nL' ret 5) (hM : ks_Met g (y, cc', nL', ret) dc mc' ms' [a1, a2, a3, a4, a5] h Post) (hdc : dc < d) (hk : k + mc' ≤ mc) (hn : n + ms' ≤ ms) (hst : (st.map fun v => v.category).sum ≤ 8) (kk : ∀ (v : Option Value) (h' : ks_H), Post v h' → ks_K κ g nL h' (k + mc') (n + ms') (pc + 3) ls (v.toList ++ st)) : ks_K κ g nL h k n pc ls (a5 :: a4 :: a3 :: a2 :: a1 :: st) := by
  obtain ⟨p, l, e, R, s, m, args, below, meth, c, Q⟩ := κ
  obtain ⟨hx, hb, hml, hown, hts, hin, hfr, hlo, hce, hsl, hK, hSt, hNw, hz⟩ := hκ
  obtain ⟨⟨i1, i2, i3, i4, i5⟩, hln, hrest⟩ := hw
  have hG := ks_good i2
  have hini := hts _ i1
  have hcw : Cond.code y cc' nL' ret ∈ (Cond.code y cc' nL' ret :: lw_g) := List.mem_cons_self
  have hlen : ∀ sig, parseMethodDescriptor y.desc = some sig → 5 = sig.parameters.length := fun sig hs => by
    have h2 := i4
    rw [hs] at h2
    exact (Option.some.inj h2).symm
  have hfr' : (ks_room dc mc' ms').frames + 1 ≤ R.frames := by rw [hfr]; exact hdc
  have hlo' : 8 + (nL' + 11) + (ks_room dc mc' ms').locals ≤ R.locals := by show 8 + (nL' + 11) + 40 * dc ≤ R.locals; omega
  intro H locs la hR hS hl T hT X
  have hpre : PreS s H (va_Pc [a1, a2, a3, a4, a5] (ks_W g h)) [a1, a2, a3, a4, a5] := ⟨ks_blind, fun U hU hW => ⟨rfl, ks_W.at hU hW hR hS hK hSt hNw⟩⟩
  have hrun : va_Run p l e R s m args below meth c H locs k n mc' ms' (F0 m pc la (a5 :: a4 :: a3 :: a2 :: a1 :: st)) st (ks_Q g Post ([a1, a2, a3, a4, a5] : List Value).toArray) (ks_A g) := by
    rcases hln with hln | ⟨host, hln⟩
    · exact va_runS (As := [a1, a2, a3, a4, a5]) (rest := st) (n := 5) ⟨hx, hb, hml, hown, hts⟩ (hM l) ⟨⟨rfl, rfl, hfr', hlo', pay_in hts hG, hcw, hts _ i2, hini, i3, hlen, hts _ hln⟩, hts _ hrest⟩ hpre (g := F0 m pc la (a5 :: a4 :: a3 :: a2 :: a1 :: st)) rfl rfl (hl.1) rfl (lv_room hst) hd ⟨by rw [hce]; exact hk, by rw [hsl]; exact hn⟩
    · exact va_runSN (As := [a1, a2, a3, a4, a5]) (rest := st) (n := 5) (host := host) ⟨hx, hb, hml, hown, hts⟩ (hM l) ⟨⟨⟨rfl, rfl, hfr', hlo', pay_in hts hG, hcw⟩, hts _ i2, hini, i3, hlen, va_Nw.use rfl (hNw.1 _ hln)⟩, hts _ hrest, trivial⟩ hpre (g := F0 m pc la (a5 :: a4 :: a3 :: a2 :: a1 :: st)) rfl rfl (hl.1) rfl (lv_room hst) hd ⟨by rw [hce]; exact hk, by rw [hsl]; exact hn⟩
  obtain ⟨v, st₀, t, T', L, h0, X', hL, e1, e2, ⟨⟨v', h', hv, hPo, hR'⟩, hF⟩, st9⟩ := hrun T hT X
  cases hv
  obtain ⟨t2, a1, b1⟩ := kk v h' hPo T'.heap (locs ++ L) la (by rw [e1]; exact hR') ⟨Nat.le_trans hS.1 (by rw [e1, ← h0]; exact hF.1), fun q g1 g2 => by
      rw [e1, hF.2 q (by rw [h0]; exact Nat.lt_of_lt_of_le g1 hS.1) g2, h0]
      exact hS.2.1 q g1 g2, fun q hq => by
      rcases List.mem_append.mp hq with h | h
      · exact hS.2.2 q h
      · exact hL q h⟩ hl T' rfl X'
  exact ⟨t2, st9 t2 a1, b1⟩

theorem ks_callI0 (hκ : ks_Ok κ g own nm cc nL d mc ms) (pc : Nat) {ix i dc mc' ms' nL' : Nat} {cc' : ByteArray} {y : MethodName} {Post : Option Value → ks_H → Prop} (hd : decode cc pc = .ok (.invokespecial ix, 3)) (hw : ks_CI own ix y cc' nL' 0) (hM : ks_Met g (y, cc', nL', none) dc mc' ms' [ks_ref g i] h Post) (hdc : dc < d) (hk : k + mc' ≤ mc) (hn : n + ms' ≤ ms) (hst : (st.map fun v => v.category).sum ≤ 8) (kk : ∀ (v : Option Value) (h' : ks_H), Post v h' → ks_K κ g nL h' (k + mc') (n + ms') (pc + 3) ls (v.toList ++ st)) : ks_K κ g nL h k n pc ls (ks_ref g i :: st) := by
  obtain ⟨p, l, e, R, s, m, args, below, meth, c, Q⟩ := κ
  obtain ⟨hx, hb, hml, hown, hts, hin, hfr, hlo, hce, hsl, hK, hSt, hNw, hz⟩ := hκ
  obtain ⟨⟨i1, i2, i3, i4, i5⟩, hln, hrest⟩ := hw
  have hG := ks_good i2
  have hini := hts _ i1
  have hcw : Cond.code y cc' nL' none ∈ (Cond.code y cc' nL' none :: lw_g) := List.mem_cons_self
  have hlen : ∀ sig, parseMethodDescriptor y.desc = some sig → 0 = sig.parameters.length := fun sig hs => by
    have h2 := i4
    rw [hs] at h2
    exact (Option.some.inj h2).symm
  have hfr' : (ks_room dc mc' ms').frames + 1 ≤ R.frames := by rw [hfr]; exact hdc
  have hlo' : 8 + (nL' + 11) + (ks_room dc mc' ms').locals ≤ R.locals := by show 8 + (nL' + 11) + 40 * dc ≤ R.locals; omega
  intro H locs la hR hS hl T hT X
  have hpre : PreS s H (va_Pc [ks_ref g i] (ks_W g h)) [.ref (g.1 + i)] := ⟨ks_blind, fun U hU hW => ⟨rfl, ks_W.at hU hW hR hS hK hSt hNw⟩⟩
  have hrun : va_Run p l e R s m args below meth c H locs k n mc' ms' (F0 m pc la (.ref (g.1 + i) :: st)) st (ks_Q g Post ([.ref (g.1 + i)] : List Value).toArray) (ks_A g) := by
    rcases hln with hln | ⟨host, hln⟩
    · exact va_runI (As := []) (rest := st) (n := 0) ⟨hx, hb, hml, hown, hts⟩ (hM l) ⟨⟨rfl, rfl, hfr', hlo', pay_in hts hG, hcw, hts _ i2, hini, i3, hlen, hts _ hln⟩, hrest.2, hts _ hrest.1⟩ hpre (g := F0 m pc la (.ref (g.1 + i) :: st)) rfl rfl (hl.1) rfl (lv_room hst) hd ⟨by rw [hce]; exact hk, by rw [hsl]; exact hn⟩
    · exact va_runIN (As := []) (rest := st) (n := 0) (host := host) ⟨hx, hb, hml, hown, hts⟩ (hM l) ⟨⟨⟨rfl, rfl, hfr', hlo', pay_in hts hG, hcw⟩, hts _ i2, hini, i3, hlen, va_Nw.use rfl (hNw.1 _ hln)⟩, hrest.2, hts _ hrest.1⟩ hpre (g := F0 m pc la (.ref (g.1 + i) :: st)) rfl rfl (hl.1) rfl (lv_room hst) hd ⟨by rw [hce]; exact hk, by rw [hsl]; exact hn⟩
  obtain ⟨v, st₀, t, T', L, h0, X', hL, e1, e2, ⟨⟨v', h', hv, hPo, hR'⟩, hF⟩, st9⟩ := hrun T hT X
  cases hv
  obtain ⟨t2, a1, b1⟩ := kk v h' hPo T'.heap (locs ++ L) la (by rw [e1]; exact hR') ⟨Nat.le_trans hS.1 (by rw [e1, ← h0]; exact hF.1), fun q g1 g2 => by
      rw [e1, hF.2 q (by rw [h0]; exact Nat.lt_of_lt_of_le g1 hS.1) g2, h0]
      exact hS.2.1 q g1 g2, fun q hq => by
      rcases List.mem_append.mp hq with h | h
      · exact hS.2.2 q h
      · exact hL q h⟩ hl T' rfl X'
  exact ⟨t2, st9 t2 a1, b1⟩

theorem ks_iret (hκ : ks_Ok κ g own nm cc nL d mc ms) (pc : Nat) {Post : Option Value → ks_H → Prop} {x : Int32} {ty : FieldType} (hRt : ks_Rt κ g (some ty) mc ms Post) (hd : decode cc pc = .ok (.ireturn, 1)) (hk : k ≤ mc) (hn : n ≤ ms) (hnr : narrow ty (.int x) = .int x) (hp : Post (some (.int x)) h) : ks_K κ g nL h k n pc ls [.int x] := by
  obtain ⟨p, l, e, R, s, m, args, below, meth, c, Q⟩ := κ
  obtain ⟨hx, hb, hml, hown, hts, hin, hfr, hlo, hce, hsl, hK, hSt, hNw, hz⟩ := hκ
  obtain ⟨r1, r2, rfl⟩ := hRt
  have hlocks := r2
  intro H locs la hR hS hl
  refine W.widen hk hn ?_
  exact W.zret hx hb r1 hnr (fun t ht hW => ⟨⟨_, h, rfl, hp, by rw [ht]; exact hR⟩, hS.F ht⟩) hS.2.2 hd

theorem ks_vret (hκ : ks_Ok κ g own nm cc nL d mc ms) (pc : Nat) {Post : Option Value → ks_H → Prop} (hRt : ks_Rt κ g none mc ms Post) (hd : decode cc pc = .ok (.return_, 1)) (hk : k ≤ mc) (hn : n ≤ ms) (hp : Post none h) : ks_K κ g nL h k n pc ls [] := by
  obtain ⟨p, l, e, R, s, m, args, below, meth, c, Q⟩ := κ
  obtain ⟨hx, hb, hml, hown, hts, hin, hfr, hlo, hce, hsl, hK, hSt, hNw, hz⟩ := hκ
  obtain ⟨r1, r2, rfl⟩ := hRt
  have hlocks := r2
  intro H locs la hR hS hl
  refine W.widen hk hn ?_
  exact W.vret hx hb r1 (fun t ht hW => ⟨⟨_, h, rfl, hp, by rw [ht]; exact hR⟩, hS.F ht⟩) hS.2.2 hd

theorem ks_aret (hκ : ks_Ok κ g own nm cc nL d mc ms) (pc : Nat) {Post : Option Value → ks_H → Prop} {i : Nat} {C : String} (hRt : ks_Rt κ g (some (.object C)) mc ms Post) (hd : decode cc pc = .ok (.areturn, 1)) (hk : k ≤ mc) (hn : n ≤ ms) (hp : Post (some (ks_ref g i)) h) : ks_K κ g nL h k n pc ls [ks_ref g i] := by
  obtain ⟨p, l, e, R, s, m, args, below, meth, c, Q⟩ := κ
  obtain ⟨hx, hb, hml, hown, hts, hin, hfr, hlo, hce, hsl, hK, hSt, hNw, hz⟩ := hκ
  obtain ⟨r1, r2, rfl⟩ := hRt
  have hlocks := r2
  intro H locs la hR hS hl
  refine W.widen hk hn ?_
  exact W.aret hx hb r1 (Or.inl ⟨_, rfl⟩) (Or.inr ⟨_, rfl⟩) (fun t ht hW => ⟨⟨_, h, rfl, hp, by rw [ht]; exact hR⟩, hS.F ht⟩) hS.2.2 hd

end KSH
end
