section
-- ===== PART A: goes FIRST, ahead of the names: the tables' words, and 'selects' of the private methods out of them =====
/-- a private method of a class that the tables say can be made, by its rows of tables_1 -/
def lw_okq (q : MethodName × Nat) : Prop := (q.1.cls ≠ "java/lang/invoke/MethodHandle" ∧ q.1.cls ≠ "java/lang/invoke/VarHandle") ∧ Cond.instantiable q.1.cls q.2 ∈ tables_1 ∧ Cond.privateMethod q.1 ∈ tables_1 ∧ Cond.instanceMethod q.1 ∈ tables_1
theorem lw_p0 : lw_okq (⟨"EstateVessels$Text", "takes", "(I)Z"⟩, 7) := ⟨⟨by decide +kernel, by decide +kernel⟩, List.mem_of_getElem? (i := 126) (by decide +kernel), List.mem_of_getElem? (i := 319) (by decide +kernel), List.mem_of_getElem? (i := 320) (by decide +kernel)⟩
theorem lw_p1 : lw_okq (⟨"EstateVessels$Text", "takesClause", "(I)Z"⟩, 7) := ⟨⟨by decide +kernel, by decide +kernel⟩, List.mem_of_getElem? (i := 126) (by decide +kernel), List.mem_of_getElem? (i := 323) (by decide +kernel), List.mem_of_getElem? (i := 324) (by decide +kernel)⟩
theorem lw_p2 : lw_okq (⟨"EstateVessels$Text", "number", "(I)I"⟩, 7) := ⟨⟨by decide +kernel, by decide +kernel⟩, List.mem_of_getElem? (i := 126) (by decide +kernel), List.mem_of_getElem? (i := 327) (by decide +kernel), List.mem_of_getElem? (i := 328) (by decide +kernel)⟩
theorem lw_p3 : lw_okq (⟨"EstateVessels", "perform", "(III)I"⟩, 10) := ⟨⟨by decide +kernel, by decide +kernel⟩, List.mem_of_getElem? (i := 18) (by decide +kernel), List.mem_of_getElem? (i := 331) (by decide +kernel), List.mem_of_getElem? (i := 332) (by decide +kernel)⟩
theorem lw_p4 : lw_okq (⟨"EstateVessels$Group", "levelled", "(IJJ)J"⟩, 4) := ⟨⟨by decide +kernel, by decide +kernel⟩, List.mem_of_getElem? (i := 32) (by decide +kernel), List.mem_of_getElem? (i := 358) (by decide +kernel), List.mem_of_getElem? (i := 359) (by decide +kernel)⟩
theorem lw_p5 : lw_okq (⟨"EstateVessels$Group", "arrived", "(IJJ)J"⟩, 4) := ⟨⟨by decide +kernel, by decide +kernel⟩, List.mem_of_getElem? (i := 32) (by decide +kernel), List.mem_of_getElem? (i := 366) (by decide +kernel), List.mem_of_getElem? (i := 367) (by decide +kernel)⟩
theorem lw_p6 : lw_okq (⟨"EstateVessels", "firstOfTwo", "(III)J"⟩, 10) := ⟨⟨by decide +kernel, by decide +kernel⟩, List.mem_of_getElem? (i := 18) (by decide +kernel), List.mem_of_getElem? (i := 410) (by decide +kernel), List.mem_of_getElem? (i := 411) (by decide +kernel)⟩
theorem lw_p7 : lw_okq (⟨"EstateVessels", "isSameAlone", "(III)Z"⟩, 10) := ⟨⟨by decide +kernel, by decide +kernel⟩, List.mem_of_getElem? (i := 18) (by decide +kernel), List.mem_of_getElem? (i := 419) (by decide +kernel), List.mem_of_getElem? (i := 420) (by decide +kernel)⟩
theorem lw_p8 : lw_okq (⟨"EstateVessels$Setup", "areAlike", "(II)Z"⟩, 4) := ⟨⟨by decide +kernel, by decide +kernel⟩, List.mem_of_getElem? (i := 26) (by decide +kernel), List.mem_of_getElem? (i := 448) (by decide +kernel), List.mem_of_getElem? (i := 449) (by decide +kernel)⟩
theorem lw_p9 : lw_okq (⟨"EstateVessels$Setup", "isSorer", "(II)Z"⟩, 4) := ⟨⟨by decide +kernel, by decide +kernel⟩, List.mem_of_getElem? (i := 26) (by decide +kernel), List.mem_of_getElem? (i := 460) (by decide +kernel), List.mem_of_getElem? (i := 461) (by decide +kernel)⟩
theorem lw_p10 : lw_okq (⟨"EstateVessels$Vessels", "empty", "(LEstateVessels$Group;)V"⟩, 5) := ⟨⟨by decide +kernel, by decide +kernel⟩, List.mem_of_getElem? (i := 79) (by decide +kernel), List.mem_of_getElem? (i := 475) (by decide +kernel), List.mem_of_getElem? (i := 476) (by decide +kernel)⟩
theorem lw_p11 : lw_okq (⟨"EstateVessels$Vessels", "lowest", "(I)I"⟩, 5) := ⟨⟨by decide +kernel, by decide +kernel⟩, List.mem_of_getElem? (i := 79) (by decide +kernel), List.mem_of_getElem? (i := 479) (by decide +kernel), List.mem_of_getElem? (i := 480) (by decide +kernel)⟩
theorem lw_p12 : lw_okq (⟨"EstateVessels$Vessels", "surface", "(II)F"⟩, 5) := ⟨⟨by decide +kernel, by decide +kernel⟩, List.mem_of_getElem? (i := 79) (by decide +kernel), List.mem_of_getElem? (i := 483) (by decide +kernel), List.mem_of_getElem? (i := 484) (by decide +kernel)⟩
theorem lw_p13 : lw_okq (⟨"EstateVessels$Vessels", "fall", "(IF)V"⟩, 5) := ⟨⟨by decide +kernel, by decide +kernel⟩, List.mem_of_getElem? (i := 79) (by decide +kernel), List.mem_of_getElem? (i := 488) (by decide +kernel), List.mem_of_getElem? (i := 489) (by decide +kernel)⟩
theorem lw_p14 : lw_okq (⟨"EstateVessels", "widestGap", "(I)D"⟩, 10) := ⟨⟨by decide +kernel, by decide +kernel⟩, List.mem_of_getElem? (i := 18) (by decide +kernel), List.mem_of_getElem? (i := 501) (by decide +kernel), List.mem_of_getElem? (i := 502) (by decide +kernel)⟩
theorem lw_p15 : lw_okq (⟨"EstateVessels", "tell", "(LEstateVessels$Rows;II)I"⟩, 10) := ⟨⟨by decide +kernel, by decide +kernel⟩, List.mem_of_getElem? (i := 18) (by decide +kernel), List.mem_of_getElem? (i := 510) (by decide +kernel), List.mem_of_getElem? (i := 511) (by decide +kernel)⟩
def lw_privs_1 : List (MethodName × Nat) := [(⟨"EstateVessels$Text", "takes", "(I)Z"⟩, 7), (⟨"EstateVessels$Text", "takesClause", "(I)Z"⟩, 7), (⟨"EstateVessels$Text", "number", "(I)I"⟩, 7), (⟨"EstateVessels", "perform", "(III)I"⟩, 10), (⟨"EstateVessels$Group", "levelled", "(IJJ)J"⟩, 4), (⟨"EstateVessels$Group", "arrived", "(IJJ)J"⟩, 4), (⟨"EstateVessels", "firstOfTwo", "(III)J"⟩, 10), (⟨"EstateVessels", "isSameAlone", "(III)Z"⟩, 10), (⟨"EstateVessels$Setup", "areAlike", "(II)Z"⟩, 4), (⟨"EstateVessels$Setup", "isSorer", "(II)Z"⟩, 4), (⟨"EstateVessels$Vessels", "empty", "(LEstateVessels$Group;)V"⟩, 5), (⟨"EstateVessels$Vessels", "lowest", "(I)I"⟩, 5), (⟨"EstateVessels$Vessels", "surface", "(II)F"⟩, 5), (⟨"EstateVessels$Vessels", "fall", "(IF)V"⟩, 5), (⟨"EstateVessels", "widestGap", "(I)D"⟩, 10), (⟨"EstateVessels", "tell", "(LEstateVessels$Rows;II)I"⟩, 10)]
theorem lw_r1 : ∀ q ∈ lw_privs_1, lw_okq q := List.forall_mem_cons.mpr ⟨lw_p0, List.forall_mem_cons.mpr ⟨lw_p1, List.forall_mem_cons.mpr ⟨lw_p2, List.forall_mem_cons.mpr ⟨lw_p3, List.forall_mem_cons.mpr ⟨lw_p4, List.forall_mem_cons.mpr ⟨lw_p5, List.forall_mem_cons.mpr ⟨lw_p6, List.forall_mem_cons.mpr ⟨lw_p7, List.forall_mem_cons.mpr ⟨lw_p8, List.forall_mem_cons.mpr ⟨lw_p9, List.forall_mem_cons.mpr ⟨lw_p10, List.forall_mem_cons.mpr ⟨lw_p11, List.forall_mem_cons.mpr ⟨lw_p12, List.forall_mem_cons.mpr ⟨lw_p13, List.forall_mem_cons.mpr ⟨lw_p14, List.forall_mem_cons.mpr ⟨lw_p15, fun _ h => absurd h List.not_mem_nil⟩⟩⟩⟩⟩⟩⟩⟩⟩⟩⟩⟩⟩⟩⟩⟩
theorem lw_p16 : lw_okq (⟨"EstateVesselsModel", "isOne", "(I)Z"⟩, 31) := ⟨⟨by decide +kernel, by decide +kernel⟩, List.mem_of_getElem? (i := 621) (by decide +kernel), List.mem_of_getElem? (i := 736) (by decide +kernel), List.mem_of_getElem? (i := 737) (by decide +kernel)⟩
theorem lw_p17 : lw_okq (⟨"EstateVesselsModel", "all", "()I"⟩, 31) := ⟨⟨by decide +kernel, by decide +kernel⟩, List.mem_of_getElem? (i := 621) (by decide +kernel), List.mem_of_getElem? (i := 759) (by decide +kernel), List.mem_of_getElem? (i := 760) (by decide +kernel)⟩
theorem lw_p18 : lw_okq (⟨"EstateVesselsModel", "everyone", "()I"⟩, 31) := ⟨⟨by decide +kernel, by decide +kernel⟩, List.mem_of_getElem? (i := 621) (by decide +kernel), List.mem_of_getElem? (i := 763) (by decide +kernel), List.mem_of_getElem? (i := 764) (by decide +kernel)⟩
theorem lw_p19 : lw_okq (⟨"EstateVesselsModel", "allOf", "(I)I"⟩, 31) := ⟨⟨by decide +kernel, by decide +kernel⟩, List.mem_of_getElem? (i := 621) (by decide +kernel), List.mem_of_getElem? (i := 767) (by decide +kernel), List.mem_of_getElem? (i := 768) (by decide +kernel)⟩
theorem lw_p20 : lw_okq (⟨"EstateVesselsModel", "isReady", "()Z"⟩, 31) := ⟨⟨by decide +kernel, by decide +kernel⟩, List.mem_of_getElem? (i := 621) (by decide +kernel), List.mem_of_getElem? (i := 774) (by decide +kernel), List.mem_of_getElem? (i := 775) (by decide +kernel)⟩
theorem lw_p21 : lw_okq (⟨"EstateVesselsModel", "clauses", "(Z)I"⟩, 31) := ⟨⟨by decide +kernel, by decide +kernel⟩, List.mem_of_getElem? (i := 621) (by decide +kernel), List.mem_of_getElem? (i := 786) (by decide +kernel), List.mem_of_getElem? (i := 787) (by decide +kernel)⟩
theorem lw_p22 : lw_okq (⟨"EstateVesselsModel", "clause", "(Z)I"⟩, 31) := ⟨⟨by decide +kernel, by decide +kernel⟩, List.mem_of_getElem? (i := 621) (by decide +kernel), List.mem_of_getElem? (i := 790) (by decide +kernel), List.mem_of_getElem? (i := 791) (by decide +kernel)⟩
theorem lw_p23 : lw_okq (⟨"EstateVesselsModel", "here", "()I"⟩, 31) := ⟨⟨by decide +kernel, by decide +kernel⟩, List.mem_of_getElem? (i := 621) (by decide +kernel), List.mem_of_getElem? (i := 794) (by decide +kernel), List.mem_of_getElem? (i := 795) (by decide +kernel)⟩
theorem lw_p24 : lw_okq (⟨"EstateVesselsModel", "readNumber", "(I)Z"⟩, 31) := ⟨⟨by decide +kernel, by decide +kernel⟩, List.mem_of_getElem? (i := 621) (by decide +kernel), List.mem_of_getElem? (i := 798) (by decide +kernel), List.mem_of_getElem? (i := 799) (by decide +kernel)⟩
theorem lw_p25 : lw_okq (⟨"EstateVesselsModel", "awardOf", "(II)V"⟩, 31) := ⟨⟨by decide +kernel, by decide +kernel⟩, List.mem_of_getElem? (i := 621) (by decide +kernel), List.mem_of_getElem? (i := 814) (by decide +kernel), List.mem_of_getElem? (i := 815) (by decide +kernel)⟩
theorem lw_p26 : lw_okq (⟨"EstateVesselsModel", "awards", "(IIJJI)V"⟩, 31) := ⟨⟨by decide +kernel, by decide +kernel⟩, List.mem_of_getElem? (i := 621) (by decide +kernel), List.mem_of_getElem? (i := 818) (by decide +kernel), List.mem_of_getElem? (i := 819) (by decide +kernel)⟩
theorem lw_p27 : lw_okq (⟨"EstateVesselsModel", "even", "(IIJJ)V"⟩, 31) := ⟨⟨by decide +kernel, by decide +kernel⟩, List.mem_of_getElem? (i := 621) (by decide +kernel), List.mem_of_getElem? (i := 823) (by decide +kernel), List.mem_of_getElem? (i := 824) (by decide +kernel)⟩
theorem lw_p28 : lw_okq (⟨"EstateVesselsModel", "least", "(I)I"⟩, 31) := ⟨⟨by decide +kernel, by decide +kernel⟩, List.mem_of_getElem? (i := 621) (by decide +kernel), List.mem_of_getElem? (i := 828) (by decide +kernel), List.mem_of_getElem? (i := 829) (by decide +kernel)⟩
theorem lw_p29 : lw_okq (⟨"EstateVesselsModel", "loss", "(IIJJ)V"⟩, 31) := ⟨⟨by decide +kernel, by decide +kernel⟩, List.mem_of_getElem? (i := 621) (by decide +kernel), List.mem_of_getElem? (i := 832) (by decide +kernel), List.mem_of_getElem? (i := 833) (by decide +kernel)⟩
theorem lw_p30 : lw_okq (⟨"EstateVesselsModel", "less", "(IJ)V"⟩, 31) := ⟨⟨by decide +kernel, by decide +kernel⟩, List.mem_of_getElem? (i := 621) (by decide +kernel), List.mem_of_getElem? (i := 836) (by decide +kernel), List.mem_of_getElem? (i := 837) (by decide +kernel)⟩
theorem lw_p31 : lw_okq (⟨"EstateVesselsModel", "arrival", "(IIJJ)V"⟩, 31) := ⟨⟨by decide +kernel, by decide +kernel⟩, List.mem_of_getElem? (i := 621) (by decide +kernel), List.mem_of_getElem? (i := 840) (by decide +kernel), List.mem_of_getElem? (i := 841) (by decide +kernel)⟩
def lw_privs_2 : List (MethodName × Nat) := [(⟨"EstateVesselsModel", "isOne", "(I)Z"⟩, 31), (⟨"EstateVesselsModel", "all", "()I"⟩, 31), (⟨"EstateVesselsModel", "everyone", "()I"⟩, 31), (⟨"EstateVesselsModel", "allOf", "(I)I"⟩, 31), (⟨"EstateVesselsModel", "isReady", "()Z"⟩, 31), (⟨"EstateVesselsModel", "clauses", "(Z)I"⟩, 31), (⟨"EstateVesselsModel", "clause", "(Z)I"⟩, 31), (⟨"EstateVesselsModel", "here", "()I"⟩, 31), (⟨"EstateVesselsModel", "readNumber", "(I)Z"⟩, 31), (⟨"EstateVesselsModel", "awardOf", "(II)V"⟩, 31), (⟨"EstateVesselsModel", "awards", "(IIJJI)V"⟩, 31), (⟨"EstateVesselsModel", "even", "(IIJJ)V"⟩, 31), (⟨"EstateVesselsModel", "least", "(I)I"⟩, 31), (⟨"EstateVesselsModel", "loss", "(IIJJ)V"⟩, 31), (⟨"EstateVesselsModel", "less", "(IJ)V"⟩, 31), (⟨"EstateVesselsModel", "arrival", "(IIJJ)V"⟩, 31)]
theorem lw_r2 : ∀ q ∈ lw_privs_2, lw_okq q := List.forall_mem_cons.mpr ⟨lw_p16, List.forall_mem_cons.mpr ⟨lw_p17, List.forall_mem_cons.mpr ⟨lw_p18, List.forall_mem_cons.mpr ⟨lw_p19, List.forall_mem_cons.mpr ⟨lw_p20, List.forall_mem_cons.mpr ⟨lw_p21, List.forall_mem_cons.mpr ⟨lw_p22, List.forall_mem_cons.mpr ⟨lw_p23, List.forall_mem_cons.mpr ⟨lw_p24, List.forall_mem_cons.mpr ⟨lw_p25, List.forall_mem_cons.mpr ⟨lw_p26, List.forall_mem_cons.mpr ⟨lw_p27, List.forall_mem_cons.mpr ⟨lw_p28, List.forall_mem_cons.mpr ⟨lw_p29, List.forall_mem_cons.mpr ⟨lw_p30, List.forall_mem_cons.mpr ⟨lw_p31, fun _ h => absurd h List.not_mem_nil⟩⟩⟩⟩⟩⟩⟩⟩⟩⟩⟩⟩⟩⟩⟩⟩
theorem lw_p32 : lw_okq (⟨"EstateVesselsModel", "fraction", "(JJ)V"⟩, 31) := ⟨⟨by decide +kernel, by decide +kernel⟩, List.mem_of_getElem? (i := 621) (by decide +kernel), List.mem_of_getElem? (i := 851) (by decide +kernel), List.mem_of_getElem? (i := 852) (by decide +kernel)⟩
theorem lw_p33 : lw_okq (⟨"EstateVesselsModel", "part", "(I)J"⟩, 31) := ⟨⟨by decide +kernel, by decide +kernel⟩, List.mem_of_getElem? (i := 621) (by decide +kernel), List.mem_of_getElem? (i := 855) (by decide +kernel), List.mem_of_getElem? (i := 856) (by decide +kernel)⟩
theorem lw_p34 : lw_okq (⟨"EstateVesselsModel", "cutOf", "(II)I"⟩, 31) := ⟨⟨by decide +kernel, by decide +kernel⟩, List.mem_of_getElem? (i := 621) (by decide +kernel), List.mem_of_getElem? (i := 863) (by decide +kernel), List.mem_of_getElem? (i := 864) (by decide +kernel)⟩
theorem lw_p35 : lw_okq (⟨"EstateVesselsModel", "aloneOf", "(III)V"⟩, 31) := ⟨⟨by decide +kernel, by decide +kernel⟩, List.mem_of_getElem? (i := 621) (by decide +kernel), List.mem_of_getElem? (i := 875) (by decide +kernel), List.mem_of_getElem? (i := 876) (by decide +kernel)⟩
theorem lw_p36 : lw_okq (⟨"EstateVesselsModel", "isSame", "(III)Z"⟩, 31) := ⟨⟨by decide +kernel, by decide +kernel⟩, List.mem_of_getElem? (i := 621) (by decide +kernel), List.mem_of_getElem? (i := 883) (by decide +kernel), List.mem_of_getElem? (i := 884) (by decide +kernel)⟩
theorem lw_p37 : lw_okq (⟨"EstateVesselsModel", "awardAt", "(III)V"⟩, 31) := ⟨⟨by decide +kernel, by decide +kernel⟩, List.mem_of_getElem? (i := 621) (by decide +kernel), List.mem_of_getElem? (i := 895) (by decide +kernel), List.mem_of_getElem? (i := 896) (by decide +kernel)⟩
theorem lw_p38 : lw_okq (⟨"EstateVesselsModel", "likeOf", "(I)I"⟩, 31) := ⟨⟨by decide +kernel, by decide +kernel⟩, List.mem_of_getElem? (i := 621) (by decide +kernel), List.mem_of_getElem? (i := 907) (by decide +kernel), List.mem_of_getElem? (i := 908) (by decide +kernel)⟩
theorem lw_p39 : lw_okq (⟨"EstateVesselsModel", "isLike", "(II)Z"⟩, 31) := ⟨⟨by decide +kernel, by decide +kernel⟩, List.mem_of_getElem? (i := 621) (by decide +kernel), List.mem_of_getElem? (i := 911) (by decide +kernel), List.mem_of_getElem? (i := 912) (by decide +kernel)⟩
theorem lw_p40 : lw_okq (⟨"EstateVesselsModel", "isSorer", "(III)Z"⟩, 31) := ⟨⟨by decide +kernel, by decide +kernel⟩, List.mem_of_getElem? (i := 621) (by decide +kernel), List.mem_of_getElem? (i := 919) (by decide +kernel), List.mem_of_getElem? (i := 920) (by decide +kernel)⟩
theorem lw_p41 : lw_okq (⟨"EstateVesselsModel", "canPour", "(II)Z"⟩, 31) := ⟨⟨by decide +kernel, by decide +kernel⟩, List.mem_of_getElem? (i := 621) (by decide +kernel), List.mem_of_getElem? (i := 927) (by decide +kernel), List.mem_of_getElem? (i := 928) (by decide +kernel)⟩
theorem lw_p42 : lw_okq (⟨"EstateVesselsModel", "pours", "(II)V"⟩, 31) := ⟨⟨by decide +kernel, by decide +kernel⟩, List.mem_of_getElem? (i := 621) (by decide +kernel), List.mem_of_getElem? (i := 931) (by decide +kernel), List.mem_of_getElem? (i := 932) (by decide +kernel)⟩
theorem lw_p43 : lw_okq (⟨"EstateVesselsModel", "lowest", "(I)I"⟩, 31) := ⟨⟨by decide +kernel, by decide +kernel⟩, List.mem_of_getElem? (i := 621) (by decide +kernel), List.mem_of_getElem? (i := 938) (by decide +kernel), List.mem_of_getElem? (i := 939) (by decide +kernel)⟩
theorem lw_p44 : lw_okq (⟨"EstateVesselsModel", "surface", "(II)F"⟩, 31) := ⟨⟨by decide +kernel, by decide +kernel⟩, List.mem_of_getElem? (i := 621) (by decide +kernel), List.mem_of_getElem? (i := 942) (by decide +kernel), List.mem_of_getElem? (i := 943) (by decide +kernel)⟩
theorem lw_p45 : lw_okq (⟨"EstateVesselsModel", "greatest", "()I"⟩, 31) := ⟨⟨by decide +kernel, by decide +kernel⟩, List.mem_of_getElem? (i := 621) (by decide +kernel), List.mem_of_getElem? (i := 946) (by decide +kernel), List.mem_of_getElem? (i := 947) (by decide +kernel)⟩
theorem lw_p46 : lw_okq (⟨"EstateVesselsModel", "isSeen", "()Z"⟩, 31) := ⟨⟨by decide +kernel, by decide +kernel⟩, List.mem_of_getElem? (i := 621) (by decide +kernel), List.mem_of_getElem? (i := 1000) (by decide +kernel), List.mem_of_getElem? (i := 1001) (by decide +kernel)⟩
theorem lw_p47 : lw_okq (⟨"EstateVesselsModel", "keeps", "([I)V"⟩, 31) := ⟨⟨by decide +kernel, by decide +kernel⟩, List.mem_of_getElem? (i := 621) (by decide +kernel), List.mem_of_getElem? (i := 1020) (by decide +kernel), List.mem_of_getElem? (i := 1021) (by decide +kernel)⟩
def lw_privs_3 : List (MethodName × Nat) := [(⟨"EstateVesselsModel", "fraction", "(JJ)V"⟩, 31), (⟨"EstateVesselsModel", "part", "(I)J"⟩, 31), (⟨"EstateVesselsModel", "cutOf", "(II)I"⟩, 31), (⟨"EstateVesselsModel", "aloneOf", "(III)V"⟩, 31), (⟨"EstateVesselsModel", "isSame", "(III)Z"⟩, 31), (⟨"EstateVesselsModel", "awardAt", "(III)V"⟩, 31), (⟨"EstateVesselsModel", "likeOf", "(I)I"⟩, 31), (⟨"EstateVesselsModel", "isLike", "(II)Z"⟩, 31), (⟨"EstateVesselsModel", "isSorer", "(III)Z"⟩, 31), (⟨"EstateVesselsModel", "canPour", "(II)Z"⟩, 31), (⟨"EstateVesselsModel", "pours", "(II)V"⟩, 31), (⟨"EstateVesselsModel", "lowest", "(I)I"⟩, 31), (⟨"EstateVesselsModel", "surface", "(II)F"⟩, 31), (⟨"EstateVesselsModel", "greatest", "()I"⟩, 31), (⟨"EstateVesselsModel", "isSeen", "()Z"⟩, 31), (⟨"EstateVesselsModel", "keeps", "([I)V"⟩, 31)]
theorem lw_r3 : ∀ q ∈ lw_privs_3, lw_okq q := List.forall_mem_cons.mpr ⟨lw_p32, List.forall_mem_cons.mpr ⟨lw_p33, List.forall_mem_cons.mpr ⟨lw_p34, List.forall_mem_cons.mpr ⟨lw_p35, List.forall_mem_cons.mpr ⟨lw_p36, List.forall_mem_cons.mpr ⟨lw_p37, List.forall_mem_cons.mpr ⟨lw_p38, List.forall_mem_cons.mpr ⟨lw_p39, List.forall_mem_cons.mpr ⟨lw_p40, List.forall_mem_cons.mpr ⟨lw_p41, List.forall_mem_cons.mpr ⟨lw_p42, List.forall_mem_cons.mpr ⟨lw_p43, List.forall_mem_cons.mpr ⟨lw_p44, List.forall_mem_cons.mpr ⟨lw_p45, List.forall_mem_cons.mpr ⟨lw_p46, List.forall_mem_cons.mpr ⟨lw_p47, fun _ h => absurd h List.not_mem_nil⟩⟩⟩⟩⟩⟩⟩⟩⟩⟩⟩⟩⟩⟩⟩⟩
theorem lw_p48 : lw_okq (⟨"EstateVesselsModel", "happens", "(II)V"⟩, 31) := ⟨⟨by decide +kernel, by decide +kernel⟩, List.mem_of_getElem? (i := 621) (by decide +kernel), List.mem_of_getElem? (i := 1024) (by decide +kernel), List.mem_of_getElem? (i := 1025) (by decide +kernel)⟩
theorem lw_p49 : lw_okq (⟨"EstateVesselsModel", "again", "([I)V"⟩, 31) := ⟨⟨by decide +kernel, by decide +kernel⟩, List.mem_of_getElem? (i := 621) (by decide +kernel), List.mem_of_getElem? (i := 1029) (by decide +kernel), List.mem_of_getElem? (i := 1030) (by decide +kernel)⟩
def lw_privs_4 : List (MethodName × Nat) := [(⟨"EstateVesselsModel", "happens", "(II)V"⟩, 31), (⟨"EstateVesselsModel", "again", "([I)V"⟩, 31)]
theorem lw_r4 : ∀ q ∈ lw_privs_4, lw_okq q := List.forall_mem_cons.mpr ⟨lw_p48, List.forall_mem_cons.mpr ⟨lw_p49, fun _ h => absurd h List.not_mem_nil⟩⟩
def lw_privs : List (MethodName × Nat) := lw_privs_1 ++ (lw_privs_2 ++ (lw_privs_3 ++ (lw_privs_4)))
def lw_tbl : List Cond := k2_sels lw_privs ++ tables_1
theorem lw_privs_ok : ∀ q ∈ lw_privs, lw_okq q := by
  show ∀ q ∈ lw_privs_1 ++ (lw_privs_2 ++ (lw_privs_3 ++ (lw_privs_4))), lw_okq q
  exact List.forall_mem_append.mpr ⟨lw_r1, List.forall_mem_append.mpr ⟨lw_r2, List.forall_mem_append.mpr ⟨lw_r3, lw_r4⟩⟩⟩
/-- the streams that the claim lets the run draw from -/
abbrev lw_cs : List Choice := [Jvm.Choice.named "NaN.bits", Jvm.Choice.named "NaN.copy"]
theorem lw_bits : nanBits ∈ lw_cs := by first | decide | exact List.mem_cons_self | simp [lw_cs, nanBits]
end
section
/-! the classes, their fields; the methods, their code, where their words stand -/
def zF0 : u_T := fun k => match k with
  | 0 => ("EstateVessels$Group", "claims", "[I", true)
  | 1 => ("EstateVessels$Group", "ascending", "[I", true)
  | 2 => ("EstateVessels$Group", "together", "[I", true)
  | _ => ("EstateVessels$Group", "size", "I", false)
def zF1 : u_T := fun k => match k with
  | 0 => ("EstateVessels$Image", "setup", "LEstateVessels$Setup;", true)
  | 1 => ("EstateVessels$Image", "seen", "LEstateVessels$Rows;", true)
  | 2 => ("EstateVessels$Image", "events", "LEstateVessels$Rows;", true)
  | 3 => ("EstateVessels$Image", "records", "LEstateVessels$Rows;", true)
  | _ => ("EstateVessels$Image", "taken", "Z", false)
def zF2 : u_T := fun k => match k with
  | 0 => ("EstateVessels$Rows", "first", "[I", true)
  | 1 => ("EstateVessels$Rows", "second", "[I", true)
  | 2 => ("EstateVessels$Rows", "most", "I", true)
  | _ => ("EstateVessels$Rows", "size", "I", false)
def zF3 : u_T := fun k => match k with
  | 0 => ("EstateVessels$Setup", "group", "LEstateVessels$Group;", true)
  | 1 => ("EstateVessels$Setup", "losses", "[J", true)
  | 2 => ("EstateVessels$Setup", "estate", "I", false)
  | _ => ("EstateVessels$Setup", "rule", "I", false)
def zF4 : u_T := fun k => match k with
  | 0 => ("EstateVessels$Tape", "items", "[J", true)
  | 1 => ("EstateVessels$Tape", "sort", "I", false)
  | _ => ("EstateVessels$Tape", "length", "I", false)
def zF5 : u_T := fun k => match k with
  | 0 => ("EstateVessels$Text", "signs", "[B", true)
  | 1 => ("EstateVessels$Text", "length", "I", false)
  | 2 => ("EstateVessels$Text", "kinds", "[I", true)
  | 3 => ("EstateVessels$Text", "whos", "[I", true)
  | 4 => ("EstateVessels$Text", "values", "[I", true)
  | 5 => ("EstateVessels$Text", "clauses", "I", false)
  | _ => ("EstateVessels$Text", "place", "I", false)
def zF6 : u_T := fun k => match k with
  | 0 => ("EstateVessels$Vessels", "amounts", "[F", true)
  | 1 => ("EstateVessels$Vessels", "claims", "[F", true)
  | 2 => ("EstateVessels$Vessels", "greatest", "F", false)
  | 3 => ("EstateVessels$Vessels", "size", "I", false)
  | _ => ("EstateVessels$Vessels", "spilled", "F", false)
def zF7 : u_T := fun k => match k with
  | 0 => ("EstateVessels", "setup", "LEstateVessels$Setup;", true)
  | 1 => ("EstateVessels", "trial", "LEstateVessels$Setup;", true)
  | 2 => ("EstateVessels", "pair", "LEstateVessels$Group;", true)
  | 3 => ("EstateVessels", "vessels", "LEstateVessels$Vessels;", true)
  | 4 => ("EstateVessels", "seen", "LEstateVessels$Rows;", true)
  | 5 => ("EstateVessels", "events", "LEstateVessels$Rows;", true)
  | 6 => ("EstateVessels", "records", "LEstateVessels$Rows;", true)
  | 7 => ("EstateVessels", "text", "LEstateVessels$Text;", true)
  | 8 => ("EstateVessels", "tapes", "[LEstateVessels$Tape;", true)
  | _ => ("EstateVessels", "kept", "LEstateVessels$Image;", true)
def zF8 : u_T := fun k => match k with
  | 0 => ("EstateVesselsModel", "people", "I", false)
  | 1 => ("EstateVesselsModel", "claim", "[I", true)
  | 2 => ("EstateVesselsModel", "estate", "I", false)
  | 3 => ("EstateVesselsModel", "rule", "I", false)
  | 4 => ("EstateVesselsModel", "seen", "I", false)
  | 5 => ("EstateVesselsModel", "seenWho", "[I", true)
  | 6 => ("EstateVesselsModel", "seenWhat", "[I", true)
  | 7 => ("EstateVesselsModel", "events", "I", false)
  | 8 => ("EstateVesselsModel", "eventWhat", "[I", true)
  | 9 => ("EstateVesselsModel", "eventWhom", "[I", true)
  | 10 => ("EstateVesselsModel", "rows", "I", false)
  | 11 => ("EstateVesselsModel", "rowWho", "[I", true)
  | 12 => ("EstateVesselsModel", "rowWhat", "[I", true)
  | 13 => ("EstateVesselsModel", "text", "[I", true)
  | 14 => ("EstateVesselsModel", "signs", "I", false)
  | 15 => ("EstateVesselsModel", "imaged", "[I", true)
  | 16 => ("EstateVesselsModel", "before", "[I", true)
  | 17 => ("EstateVesselsModel", "hasImage", "Z", false)
  | 18 => ("EstateVesselsModel", "up", "J", false)
  | 19 => ("EstateVesselsModel", "down", "J", false)
  | 20 => ("EstateVesselsModel", "at", "I", false)
  | 21 => ("EstateVesselsModel", "latest", "I", false)
  | 22 => ("EstateVesselsModel", "unitsUp", "J", false)
  | 23 => ("EstateVesselsModel", "unitsDown", "J", false)
  | 24 => ("EstateVesselsModel", "full", "[Z", true)
  | 25 => ("EstateVesselsModel", "amount", "[F", true)
  | 26 => ("EstateVesselsModel", "spilled", "F", false)
  | 27 => ("EstateVesselsModel", "sort", "[I", true)
  | 28 => ("EstateVesselsModel", "size", "[I", true)
  | 29 => ("EstateVesselsModel", "item", "[J", true)
  | _ => ("EstateVesselsModel", "between", "[J", true)
abbrev zcl : List vw_C := [("EstateVessels$Group", zF0, 4), ("EstateVessels$Image", zF1, 5), ("EstateVessels$Rows", zF2, 4), ("EstateVessels$Setup", zF3, 4), ("EstateVessels$Tape", zF4, 3), ("EstateVessels$Text", zF5, 7), ("EstateVessels$Vessels", zF6, 5), ("EstateVessels", zF7, 10), ("EstateVesselsModel", zF8, 31)]
def zfk : List (List Nat) := [[5, 5, 5, 0], [5, 5, 5, 5, 4], [5, 5, 0, 0], [5, 5, 0, 0], [5, 0, 0], [5, 0, 5, 5, 5, 0, 0], [5, 5, 2, 0, 2], [5, 5, 5, 5, 5, 5, 5, 5, 5, 5], [0, 5, 0, 0, 0, 5, 5, 0, 5, 5, 0, 5, 5, 5, 0, 5, 5, 4, 1, 1, 0, 0, 1, 1, 5, 5, 2, 5, 5, 5, 5]]
/-- of a class: where instantiable and initialized stand -/
def zcp : List (Nat × Nat) := [(82, 53), (213, 57), (154, 55), (76, 52), (243, 58), (176, 56), (129, 54), (68, 51), (671, 59)]
abbrev zRes : Type := Nat × Nat × Nat × Int
/-- EstateVessels$Group <init> ()V -/
def zc_0 : List (Nat × Instr × Nat × zRes) := [(0, .aload_n 0, 1, (0, 0, 0, 0)), (1, .invokespecial 3, 3, (1004, 0, 86, 0)), (4, .aload_n 0, 1, (0, 0, 0, 0)), (5, .bipush 6, 2, (0, 0, 0, 0)), (7, .newarray .int, 2, (0, 0, 0, 0)), (9, .putfield 9, 3, (0, 0, 87, 0)), (12, .aload_n 0, 1, (0, 0, 0, 0)), (13, .bipush 6, 2, (0, 0, 0, 0)), (15, .newarray .int, 2, (0, 0, 0, 0)), (17, .putfield 15, 3, (0, 1, 91, 0)), (20, .aload_n 0, 1, (0, 0, 0, 0)), (21, .bipush 64, 2, (0, 0, 0, 0)), (23, .newarray .int, 2, (0, 0, 0, 0)), (25, .putfield 18, 3, (0, 2, 92, 0)), (28, .aload_n 0, 1, (0, 0, 0, 0)), (29, .iconst 0, 1, (0, 0, 0, 0)), (30, .putfield 21, 3, (0, 3, 93, 0)), (33, .return_, 1, (0, 0, 0, 0))]
/-- EstateVessels$Group has (I)Z -/
def zc_1 : List (Nat × Instr × Nat × zRes) := [(0, .iload_n 1, 1, (0, 0, 0, 0)), (1, .ifCond .lt 15, 3, (16, 0, 0, 0)), (4, .iload_n 1, 1, (0, 0, 0, 0)), (5, .aload_n 0, 1, (0, 0, 0, 0)), (6, .getfield 21, 3, (0, 3, 93, 0)), (9, .if_icmp .ge 7, 3, (16, 0, 0, 0)), (12, .iconst 1, 1, (0, 0, 0, 0)), (13, .goto 4, 3, (17, 0, 0, 0)), (16, .iconst 0, 1, (0, 0, 0, 0)), (17, .ireturn, 1, (1, 0, 0, 0))]
/-- EstateVessels$Group all ()I -/
def zc_2 : List (Nat × Instr × Nat × zRes) := [(0, .aload_n 0, 1, (0, 0, 0, 0)), (1, .getfield 18, 3, (0, 2, 92, 0)), (4, .iconst 1, 1, (0, 0, 0, 0)), (5, .aload_n 0, 1, (0, 0, 0, 0)), (6, .getfield 21, 3, (0, 3, 93, 0)), (9, .ishl, 1, (0, 0, 0, 0)), (10, .iconst 1, 1, (0, 0, 0, 0)), (11, .isub, 1, (0, 0, 0, 0)), (12, .iaload, 1, (0, 0, 0, 0)), (13, .ireturn, 1, (0, 0, 0, 0))]
/-- EstateVessels$Group clear ()V -/
def zc_3 : List (Nat × Instr × Nat × zRes) := [(0, .aload_n 0, 1, (0, 0, 0, 0)), (1, .iconst 0, 1, (0, 0, 0, 0)), (2, .putfield 21, 3, (0, 3, 93, 0)), (5, .return_, 1, (0, 0, 0, 0))]
/-- EstateVessels$Group add (I)V -/
def zc_4 : List (Nat × Instr × Nat × zRes) := [(0, .aload_n 0, 1, (0, 0, 0, 0)), (1, .getfield 21, 3, (0, 3, 93, 0)), (4, .bipush 6, 2, (0, 0, 0, 0)), (6, .if_icmp .lt 4, 3, (10, 0, 0, 0)), (9, .return_, 1, (0, 0, 0, 0)), (10, .aload_n 0, 1, (0, 0, 0, 0)), (11, .getfield 21, 3, (0, 3, 93, 0)), (14, .istore_n 2, 1, (0, 0, 0, 0)), (15, .iload_n 2, 1, (0, 0, 0, 0)), (16, .ifCond .le 35, 3, (51, 0, 0, 0)), (19, .aload_n 0, 1, (0, 0, 0, 0)), (20, .getfield 15, 3, (0, 1, 91, 0)), (23, .iload_n 2, 1, (0, 0, 0, 0)), (24, .iconst 1, 1, (0, 0, 0, 0)), (25, .isub, 1, (0, 0, 0, 0)), (26, .iaload, 1, (0, 0, 0, 0)), (27, .iload_n 1, 1, (0, 0, 0, 0)), (28, .if_icmp .le 23, 3, (51, 0, 0, 0)), (31, .aload_n 0, 1, (0, 0, 0, 0)), (32, .getfield 15, 3, (0, 1, 91, 0)), (35, .iload_n 2, 1, (0, 0, 0, 0)), (36, .aload_n 0, 1, (0, 0, 0, 0)), (37, .getfield 15, 3, (0, 1, 91, 0)), (40, .iload_n 2, 1, (0, 0, 0, 0)), (41, .iconst 1, 1, (0, 0, 0, 0)), (42, .isub, 1, (0, 0, 0, 0)), (43, .iaload, 1, (0, 0, 0, 0)), (44, .iastore, 1, (0, 0, 0, 0)), (45, .iinc 2 (-1), 3, (0, 0, 0, 0)), (48, .goto (-33), 3, (15, 0, 0, 0)), (51, .aload_n 0, 1, (0, 0, 0, 0)), (52, .getfield 15, 3, (0, 1, 91, 0)), (55, .iload_n 2, 1, (0, 0, 0, 0)), (56, .iload_n 1, 1, (0, 0, 0, 0)), (57, .iastore, 1, (0, 0, 0, 0)), (58, .iconst 1, 1, (0, 0, 0, 0)), (59, .aload_n 0, 1, (0, 0, 0, 0)), (60, .getfield 21, 3, (0, 3, 93, 0)), (63, .ishl, 1, (0, 0, 0, 0)), (64, .istore_n 3, 1, (0, 0, 0, 0)), (65, .iconst 0, 1, (0, 0, 0, 0)), (66, .istore 4, 2, (0, 0, 0, 0)), (68, .iload 4, 2, (0, 0, 0, 0)), (70, .iload_n 3, 1, (0, 0, 0, 0)), (71, .if_icmp .ge 27, 3, (98, 0, 0, 0)), (74, .aload_n 0, 1, (0, 0, 0, 0)), (75, .getfield 18, 3, (0, 2, 92, 0)), (78, .iload_n 3, 1, (0, 0, 0, 0)), (79, .iload 4, 2, (0, 0, 0, 0)), (81, .iadd, 1, (0, 0, 0, 0)), (82, .aload_n 0, 1, (0, 0, 0, 0)), (83, .getfield 18, 3, (0, 2, 92, 0)), (86, .iload 4, 2, (0, 0, 0, 0)), (88, .iaload, 1, (0, 0, 0, 0)), (89, .iload_n 1, 1, (0, 0, 0, 0)), (90, .iadd, 1, (0, 0, 0, 0)), (91, .iastore, 1, (0, 0, 0, 0)), (92, .iinc 4 1, 3, (0, 0, 0, 0)), (95, .goto (-27), 3, (68, 0, 0, 0)), (98, .aload_n 0, 1, (0, 0, 0, 0)), (99, .getfield 9, 3, (0, 0, 87, 0)), (102, .aload_n 0, 1, (0, 0, 0, 0)), (103, .getfield 21, 3, (0, 3, 93, 0)), (106, .iload_n 1, 1, (0, 0, 0, 0)), (107, .iastore, 1, (0, 0, 0, 0)), (108, .aload_n 0, 1, (0, 0, 0, 0)), (109, .dup, 1, (0, 0, 0, 0)), (110, .getfield 21, 3, (0, 3, 93, 0)), (113, .iconst 1, 1, (0, 0, 0, 0)), (114, .iadd, 1, (0, 0, 0, 0)), (115, .putfield 21, 3, (0, 3, 93, 0)), (118, .return_, 1, (0, 0, 0, 0))]
/-- EstateVessels$Group put (II)V -/
def zc_5 : List (Nat × Instr × Nat × zRes) := [(0, .aload_n 0, 1, (0, 0, 0, 0)), (1, .iload_n 1, 1, (0, 0, 0, 0)), (2, .invokevirtual 25, 3, (1, 0, 315, 0)), (5, .ifCond .ne 4, 3, (9, 0, 0, 0)), (8, .return_, 1, (0, 0, 0, 0)), (9, .aload_n 0, 1, (0, 0, 0, 0)), (10, .getfield 9, 3, (0, 0, 87, 0)), (13, .iload_n 1, 1, (0, 0, 0, 0)), (14, .iload_n 2, 1, (0, 0, 0, 0)), (15, .iastore, 1, (0, 0, 0, 0)), (16, .aload_n 0, 1, (0, 0, 0, 0)), (17, .aload_n 0, 1, (0, 0, 0, 0)), (18, .invokevirtual 29, 3, (6, 0, 316, 0)), (21, .return_, 1, (0, 0, 0, 0))]
/-- EstateVessels$Group copy (LEstateVessels$Group;)V -/
def zc_6 : List (Nat × Instr × Nat × zRes) := [(0, .aload_n 1, 1, (0, 0, 0, 0)), (1, .getfield 21, 3, (0, 3, 93, 0)), (4, .istore_n 2, 1, (0, 0, 0, 0)), (5, .aload_n 0, 1, (0, 0, 0, 0)), (6, .invokevirtual 33, 3, (3, 0, 320, 0)), (9, .iconst 0, 1, (0, 0, 0, 0)), (10, .istore_n 3, 1, (0, 0, 0, 0)), (11, .iload_n 3, 1, (0, 0, 0, 0)), (12, .iload_n 2, 1, (0, 0, 0, 0)), (13, .if_icmp .ge 19, 3, (32, 0, 0, 0)), (16, .aload_n 0, 1, (0, 0, 0, 0)), (17, .aload_n 1, 1, (0, 0, 0, 0)), (18, .getfield 9, 3, (0, 0, 87, 0)), (21, .iload_n 3, 1, (0, 0, 0, 0)), (22, .iaload, 1, (0, 0, 0, 0)), (23, .invokevirtual 36, 3, (4, 0, 324, 0)), (26, .iinc 3 1, 3, (0, 0, 0, 0)), (29, .goto (-18), 3, (11, 0, 0, 0)), (32, .return_, 1, (0, 0, 0, 0))]
/-- EstateVessels$Group scale (I)J -/
def zc_7 : List (Nat × Instr × Nat × zRes) := [(0, .iload_n 1, 1, (0, 0, 0, 0)), (1, .tableswitch 45 0 4 #[35, 35, 39, 35, 35], 35, (0, 0, 0, 0)), (36, .ldc2_w 40, 3, (0, 0, 404, 120)), (39, .lreturn, 1, (0, 0, 0, 0)), (40, .aload_n 0, 1, (0, 0, 0, 0)), (41, .invokevirtual 42, 3, (2, 0, 406, 0)), (44, .i2l, 1, (0, 0, 0, 0)), (45, .lreturn, 1, (0, 0, 0, 0)), (46, .getstatic 46, 3, (0, 0, 425, 0)), (49, .aload_n 0, 1, (0, 0, 0, 0)), (50, .getfield 21, 3, (0, 3, 93, 0)), (53, .iaload, 1, (0, 0, 0, 0)), (54, .i2l, 1, (0, 0, 0, 0)), (55, .lreturn, 1, (0, 0, 0, 0))]
/-- EstateVessels$Group gets (IIJJ)J -/
def zc_8 : List (Nat × Instr × Nat × zRes) := [(0, .aload_n 0, 1, (0, 0, 0, 0)), (1, .iload_n 2, 1, (0, 0, 0, 0)), (2, .invokevirtual 25, 3, (1, 0, 315, 0)), (5, .ifCond .ne 5, 3, (10, 0, 0, 0)), (8, .lconst 0, 1, (0, 0, 0, 0)), (9, .lreturn, 1, (0, 0, 0, 0)), (10, .aload_n 0, 1, (0, 0, 0, 0)), (11, .getfield 9, 3, (0, 0, 87, 0)), (14, .iload_n 2, 1, (0, 0, 0, 0)), (15, .iaload, 1, (0, 0, 0, 0)), (16, .i2l, 1, (0, 0, 0, 0)), (17, .lload 5, 2, (0, 0, 0, 0)), (19, .lmul, 1, (0, 0, 0, 0)), (20, .ldc2_w 40, 3, (0, 0, 404, 120)), (23, .lmul, 1, (0, 0, 0, 0)), (24, .lstore 7, 2, (0, 0, 0, 0)), (26, .lload 7, 2, (0, 0, 0, 0)), (28, .ldc2_w 49, 3, (0, 0, 405, 2)), (31, .ldiv, 1, (0, 0, 0, 0)), (32, .lstore 9, 2, (0, 0, 0, 0)), (34, .aload_n 0, 1, (0, 0, 0, 0)), (35, .invokevirtual 42, 3, (2, 0, 406, 0)), (38, .i2l, 1, (0, 0, 0, 0)), (39, .lload 5, 2, (0, 0, 0, 0)), (41, .lmul, 1, (0, 0, 0, 0)), (42, .lload_n 3, 1, (0, 0, 0, 0)), (43, .lsub, 1, (0, 0, 0, 0)), (44, .lstore 11, 2, (0, 0, 0, 0)), (46, .iload_n 1, 1, (0, 0, 0, 0)), (47, .tableswitch 151 0 4 #[33, 46, 63, 73, 112], 33, (0, 0, 0, 0)), (80, .ldc2_w 49, 3, (0, 0, 405, 2)), (83, .aload_n 0, 1, (0, 0, 0, 0)), (84, .iload_n 2, 1, (0, 0, 0, 0)), (85, .lload_n 3, 1, (0, 0, 0, 0)), (86, .lload 5, 2, (0, 0, 0, 0)), (88, .invokevirtual 51, 3, (9, 0, 407, 0)), (91, .lmul, 1, (0, 0, 0, 0)), (92, .lreturn, 1, (0, 0, 0, 0)), (93, .lload 7, 2, (0, 0, 0, 0)), (95, .ldc2_w 49, 3, (0, 0, 405, 2)), (98, .aload_n 0, 1, (0, 0, 0, 0)), (99, .iload_n 2, 1, (0, 0, 0, 0)), (100, .lload 11, 2, (0, 0, 0, 0)), (102, .lload 5, 2, (0, 0, 0, 0)), (104, .invokevirtual 51, 3, (9, 0, 407, 0)), (107, .lmul, 1, (0, 0, 0, 0)), (108, .lsub, 1, (0, 0, 0, 0)), (109, .lreturn, 1, (0, 0, 0, 0)), (110, .lload_n 3, 1, (0, 0, 0, 0)), (111, .aload_n 0, 1, (0, 0, 0, 0)), (112, .getfield 9, 3, (0, 0, 87, 0)), (115, .iload_n 2, 1, (0, 0, 0, 0)), (116, .iaload, 1, (0, 0, 0, 0)), (117, .i2l, 1, (0, 0, 0, 0)), (118, .lmul, 1, (0, 0, 0, 0)), (119, .lreturn, 1, (0, 0, 0, 0)), (120, .lload_n 3, 1, (0, 0, 0, 0)), (121, .lload 11, 2, (0, 0, 0, 0)), (123, .lcmp, 1, (0, 0, 0, 0)), (124, .ifCond .gt 18, 3, (142, 0, 0, 0)), (127, .aload_n 0, 1, (0, 0, 0, 0)), (128, .iload_n 2, 1, (0, 0, 0, 0)), (129, .ldc2_w 49, 3, (0, 0, 405, 2)), (132, .lload_n 3, 1, (0, 0, 0, 0)), (133, .lmul, 1, (0, 0, 0, 0)), (134, .lload 5, 2, (0, 0, 0, 0)), (136, .invokevirtual 51, 3, (9, 0, 407, 0)), (139, .goto 19, 3, (158, 0, 0, 0)), (142, .lload 7, 2, (0, 0, 0, 0)), (144, .aload_n 0, 1, (0, 0, 0, 0)), (145, .iload_n 2, 1, (0, 0, 0, 0)), (146, .ldc2_w 49, 3, (0, 0, 405, 2)), (149, .lload 11, 2, (0, 0, 0, 0)), (151, .lmul, 1, (0, 0, 0, 0)), (152, .lload 5, 2, (0, 0, 0, 0)), (154, .invokevirtual 51, 3, (9, 0, 407, 0)), (157, .lsub, 1, (0, 0, 0, 0)), (158, .lreturn, 1, (0, 0, 0, 0)), (159, .lload_n 3, 1, (0, 0, 0, 0)), (160, .lload 11, 2, (0, 0, 0, 0)), (162, .lcmp, 1, (0, 0, 0, 0)), (163, .ifCond .gt 20, 3, (183, 0, 0, 0)), (166, .lload 9, 2, (0, 0, 0, 0)), (168, .aload_n 0, 1, (0, 0, 0, 0)), (169, .iload_n 2, 1, (0, 0, 0, 0)), (170, .lload 11, 2, (0, 0, 0, 0)), (172, .lload_n 3, 1, (0, 0, 0, 0)), (173, .lsub, 1, (0, 0, 0, 0)), (174, .lload 5, 2, (0, 0, 0, 0)), (176, .invokevirtual 51, 3, (9, 0, 407, 0)), (179, .lsub, 1, (0, 0, 0, 0)), (180, .goto 17, 3, (197, 0, 0, 0)), (183, .lload 9, 2, (0, 0, 0, 0)), (185, .aload_n 0, 1, (0, 0, 0, 0)), (186, .iload_n 2, 1, (0, 0, 0, 0)), (187, .lload_n 3, 1, (0, 0, 0, 0)), (188, .lload 11, 2, (0, 0, 0, 0)), (190, .lsub, 1, (0, 0, 0, 0)), (191, .lload 5, 2, (0, 0, 0, 0)), (193, .invokevirtual 51, 3, (9, 0, 407, 0)), (196, .ladd, 1, (0, 0, 0, 0)), (197, .lreturn, 1, (0, 0, 0, 0)), (198, .aload_n 0, 1, (0, 0, 0, 0)), (199, .iload_n 2, 1, (0, 0, 0, 0)), (200, .lload_n 3, 1, (0, 0, 0, 0)), (201, .lload 5, 2, (0, 0, 0, 0)), (203, .invokevirtual 55, 3, (10, 0, 415, 0)), (206, .lreturn, 1, (0, 0, 0, 0))]
/-- EstateVessels$Group levelled (IJJ)J -/
def zc_9 : List (Nat × Instr × Nat × zRes) := [(0, .ldc2_w 58, 3, (0, 0, 411, 60)), (3, .lstore 6, 2, (0, 0, 0, 0)), (5, .aload_n 0, 1, (0, 0, 0, 0)), (6, .getfield 9, 3, (0, 0, 87, 0)), (9, .iload_n 1, 1, (0, 0, 0, 0)), (10, .iaload, 1, (0, 0, 0, 0)), (11, .i2l, 1, (0, 0, 0, 0)), (12, .lload 4, 2, (0, 0, 0, 0)), (14, .lmul, 1, (0, 0, 0, 0)), (15, .lload 6, 2, (0, 0, 0, 0)), (17, .lmul, 1, (0, 0, 0, 0)), (18, .lstore 8, 2, (0, 0, 0, 0)), (20, .lload_n 2, 1, (0, 0, 0, 0)), (21, .lstore 10, 2, (0, 0, 0, 0)), (23, .iconst 0, 1, (0, 0, 0, 0)), (24, .istore 12, 2, (0, 0, 0, 0)), (26, .iload 12, 2, (0, 0, 0, 0)), (28, .aload_n 0, 1, (0, 0, 0, 0)), (29, .getfield 21, 3, (0, 3, 93, 0)), (32, .if_icmp .ge 70, 3, (102, 0, 0, 0)), (35, .aload_n 0, 1, (0, 0, 0, 0)), (36, .getfield 21, 3, (0, 3, 93, 0)), (39, .iload 12, 2, (0, 0, 0, 0)), (41, .isub, 1, (0, 0, 0, 0)), (42, .istore 13, 2, (0, 0, 0, 0)), (44, .lload 10, 2, (0, 0, 0, 0)), (46, .aload_n 0, 1, (0, 0, 0, 0)), (47, .getfield 15, 3, (0, 1, 91, 0)), (50, .iload 12, 2, (0, 0, 0, 0)), (52, .iaload, 1, (0, 0, 0, 0)), (53, .i2l, 1, (0, 0, 0, 0)), (54, .lload 4, 2, (0, 0, 0, 0)), (56, .lmul, 1, (0, 0, 0, 0)), (57, .iload 13, 2, (0, 0, 0, 0)), (59, .i2l, 1, (0, 0, 0, 0)), (60, .lmul, 1, (0, 0, 0, 0)), (61, .lcmp, 1, (0, 0, 0, 0)), (62, .ifCond .ge 18, 3, (80, 0, 0, 0)), (65, .lload 8, 2, (0, 0, 0, 0)), (67, .lload 10, 2, (0, 0, 0, 0)), (69, .lload 6, 2, (0, 0, 0, 0)), (71, .lmul, 1, (0, 0, 0, 0)), (72, .iload 13, 2, (0, 0, 0, 0)), (74, .i2l, 1, (0, 0, 0, 0)), (75, .ldiv, 1, (0, 0, 0, 0)), (76, .invokestatic 60, 3, (182, 0, 412, 0)), (79, .lreturn, 1, (0, 0, 0, 0)), (80, .lload 10, 2, (0, 0, 0, 0)), (82, .aload_n 0, 1, (0, 0, 0, 0)), (83, .getfield 15, 3, (0, 1, 91, 0)), (86, .iload 12, 2, (0, 0, 0, 0)), (88, .iaload, 1, (0, 0, 0, 0)), (89, .i2l, 1, (0, 0, 0, 0)), (90, .lload 4, 2, (0, 0, 0, 0)), (92, .lmul, 1, (0, 0, 0, 0)), (93, .lsub, 1, (0, 0, 0, 0)), (94, .lstore 10, 2, (0, 0, 0, 0)), (96, .iinc 12 1, 3, (0, 0, 0, 0)), (99, .goto (-73), 3, (26, 0, 0, 0)), (102, .lload 8, 2, (0, 0, 0, 0)), (104, .lreturn, 1, (0, 0, 0, 0))]
/-- EstateVessels$Group arrived (IJJ)J -/
def zc_10 : List (Nat × Instr × Nat × zRes) := [(0, .aload_n 0, 1, (0, 0, 0, 0)), (1, .getfield 9, 3, (0, 0, 87, 0)), (4, .iload_n 1, 1, (0, 0, 0, 0)), (5, .iaload, 1, (0, 0, 0, 0)), (6, .i2l, 1, (0, 0, 0, 0)), (7, .lload 4, 2, (0, 0, 0, 0)), (9, .lmul, 1, (0, 0, 0, 0)), (10, .lstore 6, 2, (0, 0, 0, 0)), (12, .lconst 0, 1, (0, 0, 0, 0)), (13, .lstore 8, 2, (0, 0, 0, 0)), (15, .iconst 1, 1, (0, 0, 0, 0)), (16, .aload_n 0, 1, (0, 0, 0, 0)), (17, .getfield 21, 3, (0, 3, 93, 0)), (20, .ishl, 1, (0, 0, 0, 0)), (21, .istore 10, 2, (0, 0, 0, 0)), (23, .iconst 0, 1, (0, 0, 0, 0)), (24, .istore 11, 2, (0, 0, 0, 0)), (26, .iload 11, 2, (0, 0, 0, 0)), (28, .iload 10, 2, (0, 0, 0, 0)), (30, .if_icmp .ge 82, 3, (112, 0, 0, 0)), (33, .lload_n 2, 1, (0, 0, 0, 0)), (34, .aload_n 0, 1, (0, 0, 0, 0)), (35, .getfield 18, 3, (0, 2, 92, 0)), (38, .iload 11, 2, (0, 0, 0, 0)), (40, .iaload, 1, (0, 0, 0, 0)), (41, .i2l, 1, (0, 0, 0, 0)), (42, .lload 4, 2, (0, 0, 0, 0)), (44, .lmul, 1, (0, 0, 0, 0)), (45, .lsub, 1, (0, 0, 0, 0)), (46, .lstore 12, 2, (0, 0, 0, 0)), (48, .iload 11, 2, (0, 0, 0, 0)), (50, .iload_n 1, 1, (0, 0, 0, 0)), (51, .ishr, 1, (0, 0, 0, 0)), (52, .iconst 1, 1, (0, 0, 0, 0)), (53, .iand, 1, (0, 0, 0, 0)), (54, .ifCond .ne 52, 3, (106, 0, 0, 0)), (57, .lload 12, 2, (0, 0, 0, 0)), (59, .lconst 0, 1, (0, 0, 0, 0)), (60, .lcmp, 1, (0, 0, 0, 0)), (61, .ifCond .le 45, 3, (106, 0, 0, 0)), (64, .iload 11, 2, (0, 0, 0, 0)), (66, .invokestatic 66, 3, (177, 0, 419, 0)), (69, .istore 14, 2, (0, 0, 0, 0)), (71, .lload 8, 2, (0, 0, 0, 0)), (73, .lload 6, 2, (0, 0, 0, 0)), (75, .lload 12, 2, (0, 0, 0, 0)), (77, .invokestatic 60, 3, (182, 0, 412, 0)), (80, .getstatic 46, 3, (0, 0, 425, 0)), (83, .iload 14, 2, (0, 0, 0, 0)), (85, .iaload, 1, (0, 0, 0, 0)), (86, .i2l, 1, (0, 0, 0, 0)), (87, .lmul, 1, (0, 0, 0, 0)), (88, .getstatic 46, 3, (0, 0, 425, 0)), (91, .aload_n 0, 1, (0, 0, 0, 0)), (92, .getfield 21, 3, (0, 3, 93, 0)), (95, .iconst 1, 1, (0, 0, 0, 0)), (96, .isub, 1, (0, 0, 0, 0)), (97, .iload 14, 2, (0, 0, 0, 0)), (99, .isub, 1, (0, 0, 0, 0)), (100, .iaload, 1, (0, 0, 0, 0)), (101, .i2l, 1, (0, 0, 0, 0)), (102, .lmul, 1, (0, 0, 0, 0)), (103, .ladd, 1, (0, 0, 0, 0)), (104, .lstore 8, 2, (0, 0, 0, 0)), (106, .iinc 11 1, 3, (0, 0, 0, 0)), (109, .goto (-83), 3, (26, 0, 0, 0)), (112, .lload 8, 2, (0, 0, 0, 0)), (114, .lreturn, 1, (0, 0, 0, 0))]
/-- EstateVessels$Image <init> ()V -/
def zc_11 : List (Nat × Instr × Nat × zRes) := [(0, .aload_n 0, 1, (0, 0, 0, 0)), (1, .invokespecial 3, 3, (1004, 0, 217, 0)), (4, .aload_n 0, 1, (0, 0, 0, 0)), (5, .new 9, 3, (3, 0, 218, 0)), (8, .dup, 1, (0, 0, 0, 0)), (9, .invokespecial 11, 3, (15, 1, 219, 0)), (12, .putfield 12, 3, (1, 0, 222, 0)), (15, .aload_n 0, 1, (0, 0, 0, 0)), (16, .new 18, 3, (2, 0, 220, 0)), (19, .dup, 1, (0, 0, 0, 0)), (20, .iconst 5, 1, (0, 0, 0, 0)), (21, .invokespecial 20, 3, (12, 0, 221, 0)), (24, .putfield 23, 3, (1, 1, 224, 0)), (27, .aload_n 0, 1, (0, 0, 0, 0)), (28, .new 18, 3, (2, 0, 220, 0)), (31, .dup, 1, (0, 0, 0, 0)), (32, .bipush 8, 2, (0, 0, 0, 0)), (34, .invokespecial 20, 3, (12, 0, 221, 0)), (37, .putfield 27, 3, (1, 2, 226, 0)), (40, .aload_n 0, 1, (0, 0, 0, 0)), (41, .new 18, 3, (2, 0, 220, 0)), (44, .dup, 1, (0, 0, 0, 0)), (45, .bipush 8, 2, (0, 0, 0, 0)), (47, .invokespecial 20, 3, (12, 0, 221, 0)), (50, .putfield 30, 3, (1, 3, 228, 0)), (53, .aload_n 0, 1, (0, 0, 0, 0)), (54, .iconst 0, 1, (0, 0, 0, 0)), (55, .putfield 33, 3, (1, 4, 230, 0)), (58, .return_, 1, (0, 0, 0, 0))]
/-- EstateVessels$Rows <init> (I)V -/
def zc_12 : List (Nat × Instr × Nat × zRes) := [(0, .aload_n 0, 1, (0, 0, 0, 0)), (1, .invokespecial 3, 3, (1004, 0, 158, 0)), (4, .aload_n 0, 1, (0, 0, 0, 0)), (5, .iconst 0, 1, (0, 0, 0, 0)), (6, .putfield 9, 3, (2, 3, 164, 0)), (9, .aload_n 0, 1, (0, 0, 0, 0)), (10, .iload_n 1, 1, (0, 0, 0, 0)), (11, .putfield 15, 3, (2, 2, 163, 0)), (14, .aload_n 0, 1, (0, 0, 0, 0)), (15, .iload_n 1, 1, (0, 0, 0, 0)), (16, .newarray .int, 2, (0, 0, 0, 0)), (18, .putfield 18, 3, (2, 0, 159, 0)), (21, .aload_n 0, 1, (0, 0, 0, 0)), (22, .iload_n 1, 1, (0, 0, 0, 0)), (23, .newarray .int, 2, (0, 0, 0, 0)), (25, .putfield 22, 3, (2, 1, 161, 0)), (28, .return_, 1, (0, 0, 0, 0))]
/-- EstateVessels$Rows add (II)I -/
def zc_13 : List (Nat × Instr × Nat × zRes) := [(0, .aload_n 0, 1, (0, 0, 0, 0)), (1, .getfield 9, 3, (2, 3, 164, 0)), (4, .aload_n 0, 1, (0, 0, 0, 0)), (5, .getfield 15, 3, (2, 2, 163, 0)), (8, .if_icmp .lt 6, 3, (14, 0, 0, 0)), (11, .bipush (-4), 2, (0, 0, 0, 0)), (13, .ireturn, 1, (0, 0, 0, 0)), (14, .aload_n 0, 1, (0, 0, 0, 0)), (15, .getfield 18, 3, (2, 0, 159, 0)), (18, .aload_n 0, 1, (0, 0, 0, 0)), (19, .getfield 9, 3, (2, 3, 164, 0)), (22, .iload_n 1, 1, (0, 0, 0, 0)), (23, .iastore, 1, (0, 0, 0, 0)), (24, .aload_n 0, 1, (0, 0, 0, 0)), (25, .getfield 22, 3, (2, 1, 161, 0)), (28, .aload_n 0, 1, (0, 0, 0, 0)), (29, .getfield 9, 3, (2, 3, 164, 0)), (32, .iload_n 2, 1, (0, 0, 0, 0)), (33, .iastore, 1, (0, 0, 0, 0)), (34, .aload_n 0, 1, (0, 0, 0, 0)), (35, .dup, 1, (0, 0, 0, 0)), (36, .getfield 9, 3, (2, 3, 164, 0)), (39, .iconst 1, 1, (0, 0, 0, 0)), (40, .iadd, 1, (0, 0, 0, 0)), (41, .putfield 9, 3, (2, 3, 164, 0)), (44, .aload_n 0, 1, (0, 0, 0, 0)), (45, .getfield 9, 3, (2, 3, 164, 0)), (48, .ireturn, 1, (0, 0, 0, 0))]
/-- EstateVessels$Rows copy (LEstateVessels$Rows;)V -/
def zc_14 : List (Nat × Instr × Nat × zRes) := [(0, .aload_n 0, 1, (0, 0, 0, 0)), (1, .iconst 0, 1, (0, 0, 0, 0)), (2, .putfield 9, 3, (2, 3, 164, 0)), (5, .iconst 0, 1, (0, 0, 0, 0)), (6, .istore_n 2, 1, (0, 0, 0, 0)), (7, .iload_n 2, 1, (0, 0, 0, 0)), (8, .aload_n 1, 1, (0, 0, 0, 0)), (9, .getfield 9, 3, (2, 3, 164, 0)), (12, .if_icmp .ge 26, 3, (38, 0, 0, 0)), (15, .aload_n 0, 1, (0, 0, 0, 0)), (16, .aload_n 1, 1, (0, 0, 0, 0)), (17, .getfield 18, 3, (2, 0, 159, 0)), (20, .iload_n 2, 1, (0, 0, 0, 0)), (21, .iaload, 1, (0, 0, 0, 0)), (22, .aload_n 1, 1, (0, 0, 0, 0)), (23, .getfield 22, 3, (2, 1, 161, 0)), (26, .iload_n 2, 1, (0, 0, 0, 0)), (27, .iaload, 1, (0, 0, 0, 0)), (28, .invokevirtual 25, 3, (13, 0, 623, 0)), (31, .pop, 1, (0, 0, 0, 0)), (32, .iinc 2 1, 3, (0, 0, 0, 0)), (35, .goto (-28), 3, (7, 0, 0, 0)), (38, .return_, 1, (0, 0, 0, 0))]
/-- EstateVessels$Setup <init> ()V -/
def zc_15 : List (Nat × Instr × Nat × zRes) := [(0, .aload_n 0, 1, (0, 0, 0, 0)), (1, .invokespecial 3, 3, (1004, 0, 80, 0)), (4, .aload_n 0, 1, (0, 0, 0, 0)), (5, .new 9, 3, (0, 0, 81, 0)), (8, .dup, 1, (0, 0, 0, 0)), (9, .invokespecial 11, 3, (0, 1, 83, 0)), (12, .putfield 12, 3, (3, 0, 107, 0)), (15, .aload_n 0, 1, (0, 0, 0, 0)), (16, .bipush 6, 2, (0, 0, 0, 0)), (18, .newarray .long, 2, (0, 0, 0, 0)), (20, .putfield 18, 3, (3, 1, 110, 0)), (23, .aload_n 0, 1, (0, 0, 0, 0)), (24, .iconst 0, 1, (0, 0, 0, 0)), (25, .putfield 22, 3, (3, 2, 111, 0)), (28, .aload_n 0, 1, (0, 0, 0, 0)), (29, .iconst 0, 1, (0, 0, 0, 0)), (30, .putfield 26, 3, (3, 3, 114, 0)), (33, .return_, 1, (0, 0, 0, 0))]
/-- EstateVessels$Setup isReady ()Z -/
def zc_16 : List (Nat × Instr × Nat × zRes) := [(0, .aload_n 0, 1, (0, 0, 0, 0)), (1, .getfield 12, 3, (3, 0, 107, 0)), (4, .getfield 29, 3, (0, 3, 94, 0)), (7, .ifCond .le 21, 3, (28, 0, 0, 0)), (10, .aload_n 0, 1, (0, 0, 0, 0)), (11, .getfield 22, 3, (3, 2, 111, 0)), (14, .aload_n 0, 1, (0, 0, 0, 0)), (15, .getfield 12, 3, (3, 0, 107, 0)), (18, .invokevirtual 32, 3, (2, 0, 355, 0)), (21, .if_icmp .gt 7, 3, (28, 0, 0, 0)), (24, .iconst 1, 1, (0, 0, 0, 0)), (25, .goto 4, 3, (29, 0, 0, 0)), (28, .iconst 0, 1, (0, 0, 0, 0)), (29, .ireturn, 1, (1, 0, 0, 0))]
/-- EstateVessels$Setup copy (LEstateVessels$Setup;)V -/
def zc_17 : List (Nat × Instr × Nat × zRes) := [(0, .aload_n 0, 1, (0, 0, 0, 0)), (1, .getfield 12, 3, (3, 0, 107, 0)), (4, .aload_n 1, 1, (0, 0, 0, 0)), (5, .getfield 12, 3, (3, 0, 107, 0)), (8, .invokevirtual 36, 3, (6, 0, 480, 0)), (11, .aload_n 0, 1, (0, 0, 0, 0)), (12, .aload_n 1, 1, (0, 0, 0, 0)), (13, .getfield 22, 3, (3, 2, 111, 0)), (16, .putfield 22, 3, (3, 2, 111, 0)), (19, .aload_n 0, 1, (0, 0, 0, 0)), (20, .aload_n 1, 1, (0, 0, 0, 0)), (21, .getfield 26, 3, (3, 3, 114, 0)), (24, .putfield 26, 3, (3, 3, 114, 0)), (27, .return_, 1, (0, 0, 0, 0))]
/-- EstateVessels$Setup fraction (III)J -/
def zc_18 : List (Nat × Instr × Nat × zRes) := [(0, .aload_n 0, 1, (0, 0, 0, 0)), (1, .getfield 12, 3, (3, 0, 107, 0)), (4, .iload_n 1, 1, (0, 0, 0, 0)), (5, .iload_n 2, 1, (0, 0, 0, 0)), (6, .aload_n 0, 1, (0, 0, 0, 0)), (7, .getfield 22, 3, (3, 2, 111, 0)), (10, .i2l, 1, (0, 0, 0, 0)), (11, .lconst 1, 1, (0, 0, 0, 0)), (12, .invokevirtual 40, 3, (8, 0, 400, 0)), (15, .aload_n 0, 1, (0, 0, 0, 0)), (16, .getfield 12, 3, (3, 0, 107, 0)), (19, .iload_n 1, 1, (0, 0, 0, 0)), (20, .invokevirtual 44, 3, (7, 0, 427, 0)), (23, .iload_n 3, 1, (0, 0, 0, 0)), (24, .invokestatic 48, 3, (90, 1, 431, 0)), (27, .lreturn, 1, (0, 0, 0, 0))]
/-- EstateVessels$Setup whole (II)I -/
def zc_19 : List (Nat × Instr × Nat × zRes) := [(0, .aload_n 0, 1, (0, 0, 0, 0)), (1, .getfield 12, 3, (3, 0, 107, 0)), (4, .iload_n 1, 1, (0, 0, 0, 0)), (5, .invokevirtual 44, 3, (7, 0, 427, 0)), (8, .lstore_n 3, 1, (0, 0, 0, 0)), (9, .lload_n 3, 1, (0, 0, 0, 0)), (10, .lconst 1, 1, (0, 0, 0, 0)), (11, .lcmp, 1, (0, 0, 0, 0)), (12, .ifCond .ge 7, 3, (19, 0, 0, 0)), (15, .iconst 0, 1, (0, 0, 0, 0)), (16, .goto 21, 3, (37, 0, 0, 0)), (19, .aload_n 0, 1, (0, 0, 0, 0)), (20, .getfield 12, 3, (3, 0, 107, 0)), (23, .iload_n 1, 1, (0, 0, 0, 0)), (24, .iload_n 2, 1, (0, 0, 0, 0)), (25, .aload_n 0, 1, (0, 0, 0, 0)), (26, .getfield 22, 3, (3, 2, 111, 0)), (29, .i2l, 1, (0, 0, 0, 0)), (30, .lconst 1, 1, (0, 0, 0, 0)), (31, .invokevirtual 40, 3, (8, 0, 400, 0)), (34, .lload_n 3, 1, (0, 0, 0, 0)), (35, .ldiv, 1, (0, 0, 0, 0)), (36, .l2i, 1, (0, 0, 0, 0)), (37, .ireturn, 1, (0, 0, 0, 0))]
/-- EstateVessels$Setup alike (I)I -/
def zc_20 : List (Nat × Instr × Nat × zRes) := [(0, .iconst 0, 1, (0, 0, 0, 0)), (1, .istore_n 2, 1, (0, 0, 0, 0)), (2, .iconst 0, 1, (0, 0, 0, 0)), (3, .istore_n 3, 1, (0, 0, 0, 0)), (4, .iload_n 3, 1, (0, 0, 0, 0)), (5, .bipush 6, 2, (0, 0, 0, 0)), (7, .if_icmp .ge 24, 3, (31, 0, 0, 0)), (10, .aload_n 0, 1, (0, 0, 0, 0)), (11, .iload_n 1, 1, (0, 0, 0, 0)), (12, .iload_n 3, 1, (0, 0, 0, 0)), (13, .invokevirtual 52, 3, (21, 0, 497, 0)), (16, .ifCond .eq 9, 3, (25, 0, 0, 0)), (19, .iload_n 2, 1, (0, 0, 0, 0)), (20, .iconst 1, 1, (0, 0, 0, 0)), (21, .iload_n 3, 1, (0, 0, 0, 0)), (22, .ishl, 1, (0, 0, 0, 0)), (23, .ior, 1, (0, 0, 0, 0)), (24, .istore_n 2, 1, (0, 0, 0, 0)), (25, .iinc 3 1, 3, (0, 0, 0, 0)), (28, .goto (-24), 3, (4, 0, 0, 0)), (31, .iload_n 2, 1, (0, 0, 0, 0)), (32, .ireturn, 1, (0, 0, 0, 0))]
/-- EstateVessels$Setup areAlike (II)Z -/
def zc_21 : List (Nat × Instr × Nat × zRes) := [(0, .aload_n 0, 1, (0, 0, 0, 0)), (1, .getfield 12, 3, (3, 0, 107, 0)), (4, .iload_n 1, 1, (0, 0, 0, 0)), (5, .invokevirtual 44, 3, (7, 0, 427, 0)), (8, .lstore_n 3, 1, (0, 0, 0, 0)), (9, .aload_n 0, 1, (0, 0, 0, 0)), (10, .getfield 12, 3, (3, 0, 107, 0)), (13, .iload_n 2, 1, (0, 0, 0, 0)), (14, .invokevirtual 44, 3, (7, 0, 427, 0)), (17, .lstore 5, 2, (0, 0, 0, 0)), (19, .iconst 0, 1, (0, 0, 0, 0)), (20, .istore 7, 2, (0, 0, 0, 0)), (22, .iload 7, 2, (0, 0, 0, 0)), (24, .aload_n 0, 1, (0, 0, 0, 0)), (25, .getfield 12, 3, (3, 0, 107, 0)), (28, .getfield 29, 3, (0, 3, 94, 0)), (31, .if_icmp .ge 56, 3, (87, 0, 0, 0)), (34, .aload_n 0, 1, (0, 0, 0, 0)), (35, .getfield 12, 3, (3, 0, 107, 0)), (38, .iload_n 1, 1, (0, 0, 0, 0)), (39, .iload 7, 2, (0, 0, 0, 0)), (41, .aload_n 0, 1, (0, 0, 0, 0)), (42, .getfield 22, 3, (3, 2, 111, 0)), (45, .i2l, 1, (0, 0, 0, 0)), (46, .lconst 1, 1, (0, 0, 0, 0)), (47, .invokevirtual 40, 3, (8, 0, 400, 0)), (50, .lload 5, 2, (0, 0, 0, 0)), (52, .lmul, 1, (0, 0, 0, 0)), (53, .lstore 8, 2, (0, 0, 0, 0)), (55, .lload 8, 2, (0, 0, 0, 0)), (57, .aload_n 0, 1, (0, 0, 0, 0)), (58, .getfield 12, 3, (3, 0, 107, 0)), (61, .iload_n 2, 1, (0, 0, 0, 0)), (62, .iload 7, 2, (0, 0, 0, 0)), (64, .aload_n 0, 1, (0, 0, 0, 0)), (65, .getfield 22, 3, (3, 2, 111, 0)), (68, .i2l, 1, (0, 0, 0, 0)), (69, .lconst 1, 1, (0, 0, 0, 0)), (70, .invokevirtual 40, 3, (8, 0, 400, 0)), (73, .lload_n 3, 1, (0, 0, 0, 0)), (74, .lmul, 1, (0, 0, 0, 0)), (75, .lcmp, 1, (0, 0, 0, 0)), (76, .ifCond .eq 5, 3, (81, 0, 0, 0)), (79, .iconst 0, 1, (0, 0, 0, 0)), (80, .ireturn, 1, (1, 0, 0, 0)), (81, .iinc 7 1, 3, (0, 0, 0, 0)), (84, .goto (-62), 3, (22, 0, 0, 0)), (87, .iconst 1, 1, (0, 0, 0, 0)), (88, .ireturn, 1, (1, 0, 0, 0))]
/-- EstateVessels$Setup sorest (II)I -/
def zc_22 : List (Nat × Instr × Nat × zRes) := [(0, .iconst 0, 1, (0, 0, 0, 0)), (1, .istore_n 3, 1, (0, 0, 0, 0)), (2, .iload_n 3, 1, (0, 0, 0, 0)), (3, .aload_n 0, 1, (0, 0, 0, 0)), (4, .getfield 12, 3, (3, 0, 107, 0)), (7, .getfield 29, 3, (0, 3, 94, 0)), (10, .if_icmp .ge 50, 3, (60, 0, 0, 0)), (13, .aload_n 0, 1, (0, 0, 0, 0)), (14, .getfield 18, 3, (3, 1, 110, 0)), (17, .iload_n 3, 1, (0, 0, 0, 0)), (18, .aload_n 0, 1, (0, 0, 0, 0)), (19, .getfield 12, 3, (3, 0, 107, 0)), (22, .getfield 56, 3, (0, 0, 90, 0)), (25, .iload_n 3, 1, (0, 0, 0, 0)), (26, .iaload, 1, (0, 0, 0, 0)), (27, .i2l, 1, (0, 0, 0, 0)), (28, .aload_n 0, 1, (0, 0, 0, 0)), (29, .getfield 12, 3, (3, 0, 107, 0)), (32, .iload_n 1, 1, (0, 0, 0, 0)), (33, .invokevirtual 44, 3, (7, 0, 427, 0)), (36, .lmul, 1, (0, 0, 0, 0)), (37, .aload_n 0, 1, (0, 0, 0, 0)), (38, .getfield 12, 3, (3, 0, 107, 0)), (41, .iload_n 1, 1, (0, 0, 0, 0)), (42, .iload_n 3, 1, (0, 0, 0, 0)), (43, .aload_n 0, 1, (0, 0, 0, 0)), (44, .getfield 22, 3, (3, 2, 111, 0)), (47, .i2l, 1, (0, 0, 0, 0)), (48, .lconst 1, 1, (0, 0, 0, 0)), (49, .invokevirtual 40, 3, (8, 0, 400, 0)), (52, .lsub, 1, (0, 0, 0, 0)), (53, .lastore, 1, (0, 0, 0, 0)), (54, .iinc 3 1, 3, (0, 0, 0, 0)), (57, .goto (-55), 3, (2, 0, 0, 0)), (60, .iconst 0, 1, (0, 0, 0, 0)), (61, .istore_n 3, 1, (0, 0, 0, 0)), (62, .iload_n 3, 1, (0, 0, 0, 0)), (63, .aload_n 0, 1, (0, 0, 0, 0)), (64, .getfield 12, 3, (3, 0, 107, 0)), (67, .getfield 29, 3, (0, 3, 94, 0)), (70, .if_icmp .ge 61, 3, (131, 0, 0, 0)), (73, .iconst 0, 1, (0, 0, 0, 0)), (74, .istore 4, 2, (0, 0, 0, 0)), (76, .iconst 0, 1, (0, 0, 0, 0)), (77, .istore 5, 2, (0, 0, 0, 0)), (79, .iload 5, 2, (0, 0, 0, 0)), (81, .aload_n 0, 1, (0, 0, 0, 0)), (82, .getfield 12, 3, (3, 0, 107, 0)), (85, .getfield 29, 3, (0, 3, 94, 0)), (88, .if_icmp .ge 29, 3, (117, 0, 0, 0)), (91, .iload 4, 2, (0, 0, 0, 0)), (93, .aload_n 0, 1, (0, 0, 0, 0)), (94, .iload 5, 2, (0, 0, 0, 0)), (96, .iload_n 3, 1, (0, 0, 0, 0)), (97, .invokevirtual 60, 3, (23, 0, 509, 0)), (100, .ifCond .eq 7, 3, (107, 0, 0, 0)), (103, .iconst 1, 1, (0, 0, 0, 0)), (104, .goto 4, 3, (108, 0, 0, 0)), (107, .iconst 0, 1, (0, 0, 0, 0)), (108, .iadd, 1, (0, 0, 0, 0)), (109, .istore 4, 2, (0, 0, 0, 0)), (111, .iinc 5 1, 3, (0, 0, 0, 0)), (114, .goto (-35), 3, (79, 0, 0, 0)), (117, .iload 4, 2, (0, 0, 0, 0)), (119, .iload_n 2, 1, (0, 0, 0, 0)), (120, .if_icmp .ne 5, 3, (125, 0, 0, 0)), (123, .iload_n 3, 1, (0, 0, 0, 0)), (124, .ireturn, 1, (0, 0, 0, 0)), (125, .iinc 3 1, 3, (0, 0, 0, 0)), (128, .goto (-66), 3, (62, 0, 0, 0)), (131, .iconst (-1), 1, (0, 0, 0, 0)), (132, .ireturn, 1, (0, 0, 0, 0))]
/-- EstateVessels$Setup isSorer (II)Z -/
def zc_23 : List (Nat × Instr × Nat × zRes) := [(0, .aload_n 0, 1, (0, 0, 0, 0)), (1, .getfield 18, 3, (3, 1, 110, 0)), (4, .iload_n 1, 1, (0, 0, 0, 0)), (5, .laload, 1, (0, 0, 0, 0)), (6, .aload_n 0, 1, (0, 0, 0, 0)), (7, .getfield 18, 3, (3, 1, 110, 0)), (10, .iload_n 2, 1, (0, 0, 0, 0)), (11, .laload, 1, (0, 0, 0, 0)), (12, .lcmp, 1, (0, 0, 0, 0)), (13, .ifCond .eq 25, 3, (38, 0, 0, 0)), (16, .aload_n 0, 1, (0, 0, 0, 0)), (17, .getfield 18, 3, (3, 1, 110, 0)), (20, .iload_n 1, 1, (0, 0, 0, 0)), (21, .laload, 1, (0, 0, 0, 0)), (22, .aload_n 0, 1, (0, 0, 0, 0)), (23, .getfield 18, 3, (3, 1, 110, 0)), (26, .iload_n 2, 1, (0, 0, 0, 0)), (27, .laload, 1, (0, 0, 0, 0)), (28, .lcmp, 1, (0, 0, 0, 0)), (29, .ifCond .le 7, 3, (36, 0, 0, 0)), (32, .iconst 1, 1, (0, 0, 0, 0)), (33, .goto 4, 3, (37, 0, 0, 0)), (36, .iconst 0, 1, (0, 0, 0, 0)), (37, .ireturn, 1, (1, 0, 0, 0)), (38, .aload_n 0, 1, (0, 0, 0, 0)), (39, .getfield 12, 3, (3, 0, 107, 0)), (42, .getfield 56, 3, (0, 0, 90, 0)), (45, .iload_n 1, 1, (0, 0, 0, 0)), (46, .iaload, 1, (0, 0, 0, 0)), (47, .aload_n 0, 1, (0, 0, 0, 0)), (48, .getfield 12, 3, (3, 0, 107, 0)), (51, .getfield 56, 3, (0, 0, 90, 0)), (54, .iload_n 2, 1, (0, 0, 0, 0)), (55, .iaload, 1, (0, 0, 0, 0)), (56, .if_icmp .eq 30, 3, (86, 0, 0, 0)), (59, .aload_n 0, 1, (0, 0, 0, 0)), (60, .getfield 12, 3, (3, 0, 107, 0)), (63, .getfield 56, 3, (0, 0, 90, 0)), (66, .iload_n 1, 1, (0, 0, 0, 0)), (67, .iaload, 1, (0, 0, 0, 0)), (68, .aload_n 0, 1, (0, 0, 0, 0)), (69, .getfield 12, 3, (3, 0, 107, 0)), (72, .getfield 56, 3, (0, 0, 90, 0)), (75, .iload_n 2, 1, (0, 0, 0, 0)), (76, .iaload, 1, (0, 0, 0, 0)), (77, .if_icmp .le 7, 3, (84, 0, 0, 0)), (80, .iconst 1, 1, (0, 0, 0, 0)), (81, .goto 4, 3, (85, 0, 0, 0)), (84, .iconst 0, 1, (0, 0, 0, 0)), (85, .ireturn, 1, (1, 0, 0, 0)), (86, .iload_n 1, 1, (0, 0, 0, 0)), (87, .iload_n 2, 1, (0, 0, 0, 0)), (88, .if_icmp .ge 7, 3, (95, 0, 0, 0)), (91, .iconst 1, 1, (0, 0, 0, 0)), (92, .goto 4, 3, (96, 0, 0, 0)), (95, .iconst 0, 1, (0, 0, 0, 0)), (96, .ireturn, 1, (1, 0, 0, 0))]
/-- EstateVessels$Setup happen (II)V -/
def zc_24 : List (Nat × Instr × Nat × zRes) := [(0, .iload_n 1, 1, (0, 0, 0, 0)), (1, .tableswitch 85 0 2 #[27, 65, 77], 27, (0, 0, 0, 0)), (28, .aload_n 0, 1, (0, 0, 0, 0)), (29, .getfield 12, 3, (3, 0, 107, 0)), (32, .iload_n 2, 1, (0, 0, 0, 0)), (33, .invokevirtual 63, 3, (1, 0, 595, 0)), (36, .ifCond .eq 66, 3, (102, 0, 0, 0)), (39, .aload_n 0, 1, (0, 0, 0, 0)), (40, .getfield 12, 3, (3, 0, 107, 0)), (43, .iload_n 2, 1, (0, 0, 0, 0)), (44, .bipush 60, 2, (0, 0, 0, 0)), (46, .aload_n 0, 1, (0, 0, 0, 0)), (47, .getfield 12, 3, (3, 0, 107, 0)), (50, .getfield 56, 3, (0, 0, 90, 0)), (53, .iload_n 2, 1, (0, 0, 0, 0)), (54, .iaload, 1, (0, 0, 0, 0)), (55, .iconst 5, 1, (0, 0, 0, 0)), (56, .iadd, 1, (0, 0, 0, 0)), (57, .invokestatic 67, 3, (181, 0, 596, 0)), (60, .invokevirtual 73, 3, (5, 0, 599, 0)), (63, .goto 39, 3, (102, 0, 0, 0)), (66, .aload_n 0, 1, (0, 0, 0, 0)), (67, .getfield 12, 3, (3, 0, 107, 0)), (70, .iload_n 2, 1, (0, 0, 0, 0)), (71, .iconst 1, 1, (0, 0, 0, 0)), (72, .invokevirtual 73, 3, (5, 0, 599, 0)), (75, .goto 27, 3, (102, 0, 0, 0)), (78, .aload_n 0, 1, (0, 0, 0, 0)), (79, .iload_n 2, 1, (0, 0, 0, 0)), (80, .putfield 26, 3, (3, 3, 114, 0)), (83, .goto 19, 3, (102, 0, 0, 0)), (86, .aload_n 0, 1, (0, 0, 0, 0)), (87, .sipush 360, 3, (0, 0, 0, 0)), (90, .aload_n 0, 1, (0, 0, 0, 0)), (91, .getfield 22, 3, (3, 2, 111, 0)), (94, .iload_n 2, 1, (0, 0, 0, 0)), (95, .iadd, 1, (0, 0, 0, 0)), (96, .invokestatic 67, 3, (181, 0, 596, 0)), (99, .putfield 22, 3, (3, 2, 111, 0)), (102, .return_, 1, (0, 0, 0, 0))]
/-- EstateVessels$Tape <init> ()V -/
def zc_25 : List (Nat × Instr × Nat × zRes) := [(0, .aload_n 0, 1, (0, 0, 0, 0)), (1, .invokespecial 3, 3, (1004, 0, 247, 0)), (4, .aload_n 0, 1, (0, 0, 0, 0)), (5, .bipush 60, 2, (0, 0, 0, 0)), (7, .newarray .long, 2, (0, 0, 0, 0)), (9, .putfield 9, 3, (4, 0, 248, 0)), (12, .aload_n 0, 1, (0, 0, 0, 0)), (13, .iconst (-1), 1, (0, 0, 0, 0)), (14, .putfield 15, 3, (4, 1, 250, 0)), (17, .aload_n 0, 1, (0, 0, 0, 0)), (18, .iconst 0, 1, (0, 0, 0, 0)), (19, .putfield 19, 3, (4, 2, 252, 0)), (22, .return_, 1, (0, 0, 0, 0))]
/-- EstateVessels$Tape become (II)V -/
def zc_26 : List (Nat × Instr × Nat × zRes) := [(0, .aload_n 0, 1, (0, 0, 0, 0)), (1, .iload_n 1, 1, (0, 0, 0, 0)), (2, .putfield 15, 3, (4, 1, 250, 0)), (5, .aload_n 0, 1, (0, 0, 0, 0)), (6, .iload_n 2, 1, (0, 0, 0, 0)), (7, .putfield 19, 3, (4, 2, 252, 0)), (10, .aload_n 0, 1, (0, 0, 0, 0)), (11, .getfield 9, 3, (4, 0, 248, 0)), (14, .lconst 0, 1, (0, 0, 0, 0)), (15, .invokestatic 22, 3, (183, 0, 640, 0)), (18, .return_, 1, (0, 0, 0, 0))]
/-- EstateVessels$Tape has (I)Z -/
def zc_27 : List (Nat × Instr × Nat × zRes) := [(0, .iload_n 1, 1, (0, 0, 0, 0)), (1, .ifCond .lt 15, 3, (16, 0, 0, 0)), (4, .iload_n 1, 1, (0, 0, 0, 0)), (5, .aload_n 0, 1, (0, 0, 0, 0)), (6, .getfield 19, 3, (4, 2, 252, 0)), (9, .if_icmp .ge 7, 3, (16, 0, 0, 0)), (12, .iconst 1, 1, (0, 0, 0, 0)), (13, .goto 4, 3, (17, 0, 0, 0)), (16, .iconst 0, 1, (0, 0, 0, 0)), (17, .ireturn, 1, (1, 0, 0, 0))]
/-- EstateVessels$Tape hasAll (II)Z -/
def zc_28 : List (Nat × Instr × Nat × zRes) := [(0, .iload_n 2, 1, (0, 0, 0, 0)), (1, .ifCond .lt 29, 3, (30, 0, 0, 0)), (4, .iload_n 1, 1, (0, 0, 0, 0)), (5, .ifCond .lt 25, 3, (30, 0, 0, 0)), (8, .iload_n 1, 1, (0, 0, 0, 0)), (9, .aload_n 0, 1, (0, 0, 0, 0)), (10, .getfield 19, 3, (4, 2, 252, 0)), (13, .if_icmp .gt 17, 3, (30, 0, 0, 0)), (16, .iload_n 2, 1, (0, 0, 0, 0)), (17, .aload_n 0, 1, (0, 0, 0, 0)), (18, .getfield 19, 3, (4, 2, 252, 0)), (21, .iload_n 1, 1, (0, 0, 0, 0)), (22, .isub, 1, (0, 0, 0, 0)), (23, .if_icmp .gt 7, 3, (30, 0, 0, 0)), (26, .iconst 1, 1, (0, 0, 0, 0)), (27, .goto 4, 3, (31, 0, 0, 0)), (30, .iconst 0, 1, (0, 0, 0, 0)), (31, .ireturn, 1, (1, 0, 0, 0))]
/-- EstateVessels$Tape fitted (J)J -/
def zc_29 : List (Nat × Instr × Nat × zRes) := [(0, .aload_n 0, 1, (0, 0, 0, 0)), (1, .getfield 15, 3, (4, 1, 250, 0)), (4, .tableswitch 48 0 3 #[32, 37, 42, 46], 32, (0, 0, 0, 0)), (36, .lload_n 1, 1, (0, 0, 0, 0)), (37, .l2i, 1, (0, 0, 0, 0)), (38, .i2b, 1, (0, 0, 0, 0)), (39, .i2l, 1, (0, 0, 0, 0)), (40, .lreturn, 1, (0, 0, 0, 0)), (41, .lload_n 1, 1, (0, 0, 0, 0)), (42, .l2i, 1, (0, 0, 0, 0)), (43, .i2s, 1, (0, 0, 0, 0)), (44, .i2l, 1, (0, 0, 0, 0)), (45, .lreturn, 1, (0, 0, 0, 0)), (46, .lload_n 1, 1, (0, 0, 0, 0)), (47, .l2i, 1, (0, 0, 0, 0)), (48, .i2l, 1, (0, 0, 0, 0)), (49, .lreturn, 1, (0, 0, 0, 0)), (50, .lload_n 1, 1, (0, 0, 0, 0)), (51, .lreturn, 1, (0, 0, 0, 0)), (52, .lload_n 1, 1, (0, 0, 0, 0)), (53, .lconst 0, 1, (0, 0, 0, 0)), (54, .lcmp, 1, (0, 0, 0, 0)), (55, .ifCond .eq 7, 3, (62, 0, 0, 0)), (58, .lconst 1, 1, (0, 0, 0, 0)), (59, .goto 4, 3, (63, 0, 0, 0)), (62, .lconst 0, 1, (0, 0, 0, 0)), (63, .lreturn, 1, (0, 0, 0, 0))]
/-- EstateVessels$Text <init> ()V -/
def zc_30 : List (Nat × Instr × Nat × zRes) := [(0, .aload_n 0, 1, (0, 0, 0, 0)), (1, .invokespecial 3, 3, (1004, 0, 180, 0)), (4, .aload_n 0, 1, (0, 0, 0, 0)), (5, .bipush 100, 2, (0, 0, 0, 0)), (7, .newarray .byte, 2, (0, 0, 0, 0)), (9, .putfield 9, 3, (5, 0, 181, 0)), (12, .aload_n 0, 1, (0, 0, 0, 0)), (13, .iconst 0, 1, (0, 0, 0, 0)), (14, .putfield 15, 3, (5, 1, 183, 0)), (17, .aload_n 0, 1, (0, 0, 0, 0)), (18, .bipush 12, 2, (0, 0, 0, 0)), (20, .newarray .int, 2, (0, 0, 0, 0)), (22, .putfield 19, 3, (5, 2, 185, 0)), (25, .aload_n 0, 1, (0, 0, 0, 0)), (26, .bipush 12, 2, (0, 0, 0, 0)), (28, .newarray .int, 2, (0, 0, 0, 0)), (30, .putfield 23, 3, (5, 3, 187, 0)), (33, .aload_n 0, 1, (0, 0, 0, 0)), (34, .bipush 12, 2, (0, 0, 0, 0)), (36, .newarray .int, 2, (0, 0, 0, 0)), (38, .putfield 26, 3, (5, 4, 189, 0)), (41, .aload_n 0, 1, (0, 0, 0, 0)), (42, .iconst 0, 1, (0, 0, 0, 0)), (43, .putfield 29, 3, (5, 5, 191, 0)), (46, .aload_n 0, 1, (0, 0, 0, 0)), (47, .iconst 0, 1, (0, 0, 0, 0)), (48, .putfield 32, 3, (5, 6, 193, 0)), (51, .return_, 1, (0, 0, 0, 0))]
/-- EstateVessels$Text parse ()I -/
def zc_31 : List (Nat × Instr × Nat × zRes) := [(0, .aload_n 0, 1, (0, 0, 0, 0)), (1, .iconst 0, 1, (0, 0, 0, 0)), (2, .putfield 32, 3, (5, 6, 193, 0)), (5, .aload_n 0, 1, (0, 0, 0, 0)), (6, .iconst 0, 1, (0, 0, 0, 0)), (7, .putfield 29, 3, (5, 5, 191, 0)), (10, .iconst 0, 1, (0, 0, 0, 0)), (11, .istore_n 1, 1, (0, 0, 0, 0)), (12, .iload_n 1, 1, (0, 0, 0, 0)), (13, .bipush 12, 2, (0, 0, 0, 0)), (15, .if_icmp .ge 60, 3, (75, 0, 0, 0)), (18, .iload_n 1, 1, (0, 0, 0, 0)), (19, .ifCond .le 17, 3, (36, 0, 0, 0)), (22, .aload_n 0, 1, (0, 0, 0, 0)), (23, .bipush 59, 2, (0, 0, 0, 0)), (25, .invokevirtual 35, 3, (32, 0, 368, 0)), (28, .ifCond .ne 8, 3, (36, 0, 0, 0)), (31, .aload_n 0, 1, (0, 0, 0, 0)), (32, .getfield 32, 3, (5, 6, 193, 0)), (35, .ireturn, 1, (0, 0, 0, 0)), (36, .aload_n 0, 1, (0, 0, 0, 0)), (37, .iload_n 1, 1, (0, 0, 0, 0)), (38, .invokevirtual 39, 3, (33, 0, 372, 0)), (41, .ifCond .ne 8, 3, (49, 0, 0, 0)), (44, .aload_n 0, 1, (0, 0, 0, 0)), (45, .getfield 32, 3, (5, 6, 193, 0)), (48, .ireturn, 1, (0, 0, 0, 0)), (49, .aload_n 0, 1, (0, 0, 0, 0)), (50, .getfield 32, 3, (5, 6, 193, 0)), (53, .aload_n 0, 1, (0, 0, 0, 0)), (54, .getfield 15, 3, (5, 1, 183, 0)), (57, .if_icmp .lt 12, 3, (69, 0, 0, 0)), (60, .aload_n 0, 1, (0, 0, 0, 0)), (61, .iload_n 1, 1, (0, 0, 0, 0)), (62, .iconst 1, 1, (0, 0, 0, 0)), (63, .iadd, 1, (0, 0, 0, 0)), (64, .putfield 29, 3, (5, 5, 191, 0)), (67, .iconst (-1), 1, (0, 0, 0, 0)), (68, .ireturn, 1, (0, 0, 0, 0)), (69, .iinc 1 1, 3, (0, 0, 0, 0)), (72, .goto (-60), 3, (12, 0, 0, 0)), (75, .aload_n 0, 1, (0, 0, 0, 0)), (76, .getfield 32, 3, (5, 6, 193, 0)), (79, .ireturn, 1, (0, 0, 0, 0))]
/-- EstateVessels$Text takes (I)Z -/
def zc_32 : List (Nat × Instr × Nat × zRes) := [(0, .aload_n 0, 1, (0, 0, 0, 0)), (1, .getfield 32, 3, (5, 6, 193, 0)), (4, .aload_n 0, 1, (0, 0, 0, 0)), (5, .getfield 15, 3, (5, 1, 183, 0)), (8, .if_icmp .ge 16, 3, (24, 0, 0, 0)), (11, .aload_n 0, 1, (0, 0, 0, 0)), (12, .getfield 9, 3, (5, 0, 181, 0)), (15, .aload_n 0, 1, (0, 0, 0, 0)), (16, .getfield 32, 3, (5, 6, 193, 0)), (19, .baload, 1, (0, 0, 0, 0)), (20, .iload_n 1, 1, (0, 0, 0, 0)), (21, .if_icmp .eq 5, 3, (26, 0, 0, 0)), (24, .iconst 0, 1, (0, 0, 0, 0)), (25, .ireturn, 1, (1, 0, 0, 0)), (26, .aload_n 0, 1, (0, 0, 0, 0)), (27, .dup, 1, (0, 0, 0, 0)), (28, .getfield 32, 3, (5, 6, 193, 0)), (31, .iconst 1, 1, (0, 0, 0, 0)), (32, .iadd, 1, (0, 0, 0, 0)), (33, .putfield 32, 3, (5, 6, 193, 0)), (36, .iconst 1, 1, (0, 0, 0, 0)), (37, .ireturn, 1, (1, 0, 0, 0))]
/-- EstateVessels$Text takesClause (I)Z -/
def zc_33 : List (Nat × Instr × Nat × zRes) := [(0, .aload_n 0, 1, (0, 0, 0, 0)), (1, .getfield 32, 3, (5, 6, 193, 0)), (4, .aload_n 0, 1, (0, 0, 0, 0)), (5, .getfield 15, 3, (5, 1, 183, 0)), (8, .if_icmp .ge 15, 3, (23, 0, 0, 0)), (11, .aload_n 0, 1, (0, 0, 0, 0)), (12, .getfield 9, 3, (5, 0, 181, 0)), (15, .aload_n 0, 1, (0, 0, 0, 0)), (16, .getfield 32, 3, (5, 6, 193, 0)), (19, .baload, 1, (0, 0, 0, 0)), (20, .goto 4, 3, (24, 0, 0, 0)), (23, .iconst 0, 1, (0, 0, 0, 0)), (24, .istore_n 2, 1, (0, 0, 0, 0)), (25, .iload_n 2, 1, (0, 0, 0, 0)), (26, .bipush 99, 2, (0, 0, 0, 0)), (28, .if_icmp .eq 23, 3, (51, 0, 0, 0)), (31, .iload_n 2, 1, (0, 0, 0, 0)), (32, .bipush 110, 2, (0, 0, 0, 0)), (34, .if_icmp .eq 17, 3, (51, 0, 0, 0)), (37, .iload_n 2, 1, (0, 0, 0, 0)), (38, .bipush 101, 2, (0, 0, 0, 0)), (40, .if_icmp .eq 11, 3, (51, 0, 0, 0)), (43, .iload_n 2, 1, (0, 0, 0, 0)), (44, .bipush 114, 2, (0, 0, 0, 0)), (46, .if_icmp .eq 5, 3, (51, 0, 0, 0)), (49, .iconst 0, 1, (0, 0, 0, 0)), (50, .ireturn, 1, (1, 0, 0, 0)), (51, .aload_n 0, 1, (0, 0, 0, 0)), (52, .dup, 1, (0, 0, 0, 0)), (53, .getfield 32, 3, (5, 6, 193, 0)), (56, .iconst 1, 1, (0, 0, 0, 0)), (57, .iadd, 1, (0, 0, 0, 0)), (58, .putfield 32, 3, (5, 6, 193, 0)), (61, .iload_n 2, 1, (0, 0, 0, 0)), (62, .bipush 110, 2, (0, 0, 0, 0)), (64, .if_icmp .ne 11, 3, (75, 0, 0, 0)), (67, .aload_n 0, 1, (0, 0, 0, 0)), (68, .iconst 1, 1, (0, 0, 0, 0)), (69, .invokevirtual 42, 3, (34, 0, 376, 0)), (72, .goto 4, 3, (76, 0, 0, 0)), (75, .iconst 0, 1, (0, 0, 0, 0)), (76, .istore_n 3, 1, (0, 0, 0, 0)), (77, .iload_n 3, 1, (0, 0, 0, 0)), (78, .ifCond .ge 5, 3, (83, 0, 0, 0)), (81, .iconst 0, 1, (0, 0, 0, 0)), (82, .ireturn, 1, (1, 0, 0, 0)), (83, .aload_n 0, 1, (0, 0, 0, 0)), (84, .iload_n 2, 1, (0, 0, 0, 0)), (85, .bipush 114, 2, (0, 0, 0, 0)), (87, .if_icmp .ne 7, 3, (94, 0, 0, 0)), (90, .iconst 1, 1, (0, 0, 0, 0)), (91, .goto 14, 3, (105, 0, 0, 0)), (94, .iload_n 2, 1, (0, 0, 0, 0)), (95, .bipush 101, 2, (0, 0, 0, 0)), (97, .if_icmp .ne 7, 3, (104, 0, 0, 0)), (100, .iconst 3, 1, (0, 0, 0, 0)), (101, .goto 4, 3, (105, 0, 0, 0)), (104, .iconst 2, 1, (0, 0, 0, 0)), (105, .invokevirtual 42, 3, (34, 0, 376, 0)), (108, .istore 4, 2, (0, 0, 0, 0)), (110, .iload 4, 2, (0, 0, 0, 0)), (112, .ifCond .ge 5, 3, (117, 0, 0, 0)), (115, .iconst 0, 1, (0, 0, 0, 0)), (116, .ireturn, 1, (1, 0, 0, 0)), (117, .aload_n 0, 1, (0, 0, 0, 0)), (118, .getfield 19, 3, (5, 2, 185, 0)), (121, .iload_n 1, 1, (0, 0, 0, 0)), (122, .iload_n 2, 1, (0, 0, 0, 0)), (123, .iastore, 1, (0, 0, 0, 0)), (124, .aload_n 0, 1, (0, 0, 0, 0)), (125, .getfield 23, 3, (5, 3, 187, 0)), (128, .iload_n 1, 1, (0, 0, 0, 0)), (129, .iload_n 3, 1, (0, 0, 0, 0)), (130, .iastore, 1, (0, 0, 0, 0)), (131, .aload_n 0, 1, (0, 0, 0, 0)), (132, .getfield 26, 3, (5, 4, 189, 0)), (135, .iload_n 1, 1, (0, 0, 0, 0)), (136, .iload 4, 2, (0, 0, 0, 0)), (138, .iastore, 1, (0, 0, 0, 0)), (139, .iconst 1, 1, (0, 0, 0, 0)), (140, .ireturn, 1, (1, 0, 0, 0))]
/-- EstateVessels$Text number (I)I -/
def zc_34 : List (Nat × Instr × Nat × zRes) := [(0, .iconst (-1), 1, (0, 0, 0, 0)), (1, .istore_n 2, 1, (0, 0, 0, 0)), (2, .iconst 0, 1, (0, 0, 0, 0)), (3, .istore_n 3, 1, (0, 0, 0, 0)), (4, .iload_n 3, 1, (0, 0, 0, 0)), (5, .iload_n 1, 1, (0, 0, 0, 0)), (6, .if_icmp .ge 75, 3, (81, 0, 0, 0)), (9, .aload_n 0, 1, (0, 0, 0, 0)), (10, .getfield 32, 3, (5, 6, 193, 0)), (13, .aload_n 0, 1, (0, 0, 0, 0)), (14, .getfield 15, 3, (5, 1, 183, 0)), (17, .if_icmp .ge 64, 3, (81, 0, 0, 0)), (20, .aload_n 0, 1, (0, 0, 0, 0)), (21, .getfield 9, 3, (5, 0, 181, 0)), (24, .aload_n 0, 1, (0, 0, 0, 0)), (25, .getfield 32, 3, (5, 6, 193, 0)), (28, .baload, 1, (0, 0, 0, 0)), (29, .bipush 48, 2, (0, 0, 0, 0)), (31, .isub, 1, (0, 0, 0, 0)), (32, .istore 4, 2, (0, 0, 0, 0)), (34, .iload 4, 2, (0, 0, 0, 0)), (36, .ifCond .lt 10, 3, (46, 0, 0, 0)), (39, .iload 4, 2, (0, 0, 0, 0)), (41, .bipush 9, 2, (0, 0, 0, 0)), (43, .if_icmp .le 5, 3, (48, 0, 0, 0)), (46, .iload_n 2, 1, (0, 0, 0, 0)), (47, .ireturn, 1, (0, 0, 0, 0)), (48, .iload_n 3, 1, (0, 0, 0, 0)), (49, .ifCond .ne 8, 3, (57, 0, 0, 0)), (52, .iload 4, 2, (0, 0, 0, 0)), (54, .goto 10, 3, (64, 0, 0, 0)), (57, .bipush 10, 2, (0, 0, 0, 0)), (59, .iload_n 2, 1, (0, 0, 0, 0)), (60, .imul, 1, (0, 0, 0, 0)), (61, .iload 4, 2, (0, 0, 0, 0)), (63, .iadd, 1, (0, 0, 0, 0)), (64, .istore_n 2, 1, (0, 0, 0, 0)), (65, .aload_n 0, 1, (0, 0, 0, 0)), (66, .dup, 1, (0, 0, 0, 0)), (67, .getfield 32, 3, (5, 6, 193, 0)), (70, .iconst 1, 1, (0, 0, 0, 0)), (71, .iadd, 1, (0, 0, 0, 0)), (72, .putfield 32, 3, (5, 6, 193, 0)), (75, .iinc 3 1, 3, (0, 0, 0, 0)), (78, .goto (-74), 3, (4, 0, 0, 0)), (81, .iload_n 2, 1, (0, 0, 0, 0)), (82, .ireturn, 1, (0, 0, 0, 0))]
/-- EstateVessels$Vessels <init> ()V -/
def zc_35 : List (Nat × Instr × Nat × zRes) := [(0, .aload_n 0, 1, (0, 0, 0, 0)), (1, .invokespecial 3, 3, (1004, 0, 133, 0)), (4, .aload_n 0, 1, (0, 0, 0, 0)), (5, .bipush 6, 2, (0, 0, 0, 0)), (7, .newarray .float, 2, (0, 0, 0, 0)), (9, .putfield 9, 3, (6, 0, 134, 0)), (12, .aload_n 0, 1, (0, 0, 0, 0)), (13, .bipush 6, 2, (0, 0, 0, 0)), (15, .newarray .float, 2, (0, 0, 0, 0)), (17, .putfield 15, 3, (6, 1, 136, 0)), (20, .aload_n 0, 1, (0, 0, 0, 0)), (21, .fconst 0, 1, (0, 0, 0, 0)), (22, .putfield 18, 3, (6, 2, 137, 0)), (25, .aload_n 0, 1, (0, 0, 0, 0)), (26, .iconst 0, 1, (0, 0, 0, 0)), (27, .putfield 22, 3, (6, 3, 138, 0)), (30, .aload_n 0, 1, (0, 0, 0, 0)), (31, .fconst 0, 1, (0, 0, 0, 0)), (32, .putfield 26, 3, (6, 4, 139, 0)), (35, .return_, 1, (0, 0, 0, 0))]
/-- EstateVessels$Vessels pour (LEstateVessels$Setup;II)V -/
def zc_36 : List (Nat × Instr × Nat × zRes) := [(0, .iload_n 3, 1, (0, 0, 0, 0)), (1, .iconst 1, 1, (0, 0, 0, 0)), (2, .if_icmp .ge 4, 3, (6, 0, 0, 0)), (5, .return_, 1, (0, 0, 0, 0)), (6, .aload_n 0, 1, (0, 0, 0, 0)), (7, .aload_n 1, 1, (0, 0, 0, 0)), (8, .getfield 29, 3, (3, 0, 108, 0)), (11, .invokevirtual 35, 3, (37, 0, 524, 0)), (14, .aload_n 1, 1, (0, 0, 0, 0)), (15, .getfield 39, 3, (3, 2, 112, 0)), (18, .i2f, 1, (0, 0, 0, 0)), (19, .iload_n 3, 1, (0, 0, 0, 0)), (20, .i2f, 1, (0, 0, 0, 0)), (21, .fdiv, 1, (0, 0, 0, 0)), (22, .fstore 4, 2, (0, 0, 0, 0)), (24, .iconst 0, 1, (0, 0, 0, 0)), (25, .istore 5, 2, (0, 0, 0, 0)), (27, .iload 5, 2, (0, 0, 0, 0)), (29, .iload_n 3, 1, (0, 0, 0, 0)), (30, .if_icmp .ge 20, 3, (50, 0, 0, 0)), (33, .aload_n 0, 1, (0, 0, 0, 0)), (34, .aload_n 0, 1, (0, 0, 0, 0)), (35, .iload_n 2, 1, (0, 0, 0, 0)), (36, .invokevirtual 42, 3, (39, 0, 528, 0)), (39, .fload 4, 2, (0, 0, 0, 0)), (41, .invokevirtual 46, 3, (38, 0, 537, 0)), (44, .iinc 5 1, 3, (0, 0, 0, 0)), (47, .goto (-20), 3, (27, 0, 0, 0)), (50, .return_, 1, (0, 0, 0, 0))]
/-- EstateVessels$Vessels empty (LEstateVessels$Group;)V -/
def zc_37 : List (Nat × Instr × Nat × zRes) := [(0, .aload_n 0, 1, (0, 0, 0, 0)), (1, .aload_n 1, 1, (0, 0, 0, 0)), (2, .getfield 50, 3, (0, 3, 96, 0)), (5, .putfield 22, 3, (6, 3, 138, 0)), (8, .aload_n 0, 1, (0, 0, 0, 0)), (9, .fconst 0, 1, (0, 0, 0, 0)), (10, .putfield 26, 3, (6, 4, 139, 0)), (13, .aload_n 0, 1, (0, 0, 0, 0)), (14, .fconst 0, 1, (0, 0, 0, 0)), (15, .putfield 18, 3, (6, 2, 137, 0)), (18, .iconst 0, 1, (0, 0, 0, 0)), (19, .istore_n 2, 1, (0, 0, 0, 0)), (20, .iload_n 2, 1, (0, 0, 0, 0)), (21, .aload_n 0, 1, (0, 0, 0, 0)), (22, .getfield 22, 3, (6, 3, 138, 0)), (25, .if_icmp .ge 60, 3, (85, 0, 0, 0)), (28, .aload_n 0, 1, (0, 0, 0, 0)), (29, .getfield 9, 3, (6, 0, 134, 0)), (32, .iload_n 2, 1, (0, 0, 0, 0)), (33, .fconst 0, 1, (0, 0, 0, 0)), (34, .fastore, 1, (0, 0, 0, 0)), (35, .aload_n 0, 1, (0, 0, 0, 0)), (36, .getfield 15, 3, (6, 1, 136, 0)), (39, .iload_n 2, 1, (0, 0, 0, 0)), (40, .aload_n 1, 1, (0, 0, 0, 0)), (41, .getfield 53, 3, (0, 0, 89, 0)), (44, .iload_n 2, 1, (0, 0, 0, 0)), (45, .iaload, 1, (0, 0, 0, 0)), (46, .i2f, 1, (0, 0, 0, 0)), (47, .fastore, 1, (0, 0, 0, 0)), (48, .aload_n 0, 1, (0, 0, 0, 0)), (49, .aload_n 0, 1, (0, 0, 0, 0)), (50, .getfield 15, 3, (6, 1, 136, 0)), (53, .iload_n 2, 1, (0, 0, 0, 0)), (54, .faload, 1, (0, 0, 0, 0)), (55, .aload_n 0, 1, (0, 0, 0, 0)), (56, .getfield 18, 3, (6, 2, 137, 0)), (59, .fcmp .l, 1, (0, 0, 0, 0)), (60, .ifCond .le 12, 3, (72, 0, 0, 0)), (63, .aload_n 0, 1, (0, 0, 0, 0)), (64, .getfield 15, 3, (6, 1, 136, 0)), (67, .iload_n 2, 1, (0, 0, 0, 0)), (68, .faload, 1, (0, 0, 0, 0)), (69, .goto 7, 3, (76, 0, 0, 0)), (72, .aload_n 0, 1, (0, 0, 0, 0)), (73, .getfield 18, 3, (6, 2, 137, 0)), (76, .putfield 18, 3, (6, 2, 137, 0)), (79, .iinc 2 1, 3, (0, 0, 0, 0)), (82, .goto (-62), 3, (20, 0, 0, 0)), (85, .return_, 1, (0, 0, 0, 0))]
/-- EstateVessels$Vessels fall (IF)V -/
def zc_38 : List (Nat × Instr × Nat × zRes) := [(0, .iload_n 1, 1, (0, 0, 0, 0)), (1, .ifCond .ge 14, 3, (15, 0, 0, 0)), (4, .aload_n 0, 1, (0, 0, 0, 0)), (5, .aload_n 0, 1, (0, 0, 0, 0)), (6, .getfield 26, 3, (6, 4, 139, 0)), (9, .fload_n 2, 1, (0, 0, 0, 0)), (10, .fadd, 1, (0, 0, 0, 0)), (11, .putfield 26, 3, (6, 4, 139, 0)), (14, .return_, 1, (0, 0, 0, 0)), (15, .aload_n 0, 1, (0, 0, 0, 0)), (16, .getfield 9, 3, (6, 0, 134, 0)), (19, .iload_n 1, 1, (0, 0, 0, 0)), (20, .faload, 1, (0, 0, 0, 0)), (21, .fload_n 2, 1, (0, 0, 0, 0)), (22, .fadd, 1, (0, 0, 0, 0)), (23, .fstore_n 3, 1, (0, 0, 0, 0)), (24, .fload_n 3, 1, (0, 0, 0, 0)), (25, .aload_n 0, 1, (0, 0, 0, 0)), (26, .getfield 15, 3, (6, 1, 136, 0)), (29, .iload_n 1, 1, (0, 0, 0, 0)), (30, .faload, 1, (0, 0, 0, 0)), (31, .fcmp .l, 1, (0, 0, 0, 0)), (32, .ifCond .le 35, 3, (67, 0, 0, 0)), (35, .aload_n 0, 1, (0, 0, 0, 0)), (36, .getfield 9, 3, (6, 0, 134, 0)), (39, .iload_n 1, 1, (0, 0, 0, 0)), (40, .aload_n 0, 1, (0, 0, 0, 0)), (41, .getfield 15, 3, (6, 1, 136, 0)), (44, .iload_n 1, 1, (0, 0, 0, 0)), (45, .faload, 1, (0, 0, 0, 0)), (46, .fastore, 1, (0, 0, 0, 0)), (47, .aload_n 0, 1, (0, 0, 0, 0)), (48, .aload_n 0, 1, (0, 0, 0, 0)), (49, .getfield 26, 3, (6, 4, 139, 0)), (52, .fload_n 3, 1, (0, 0, 0, 0)), (53, .aload_n 0, 1, (0, 0, 0, 0)), (54, .getfield 15, 3, (6, 1, 136, 0)), (57, .iload_n 1, 1, (0, 0, 0, 0)), (58, .faload, 1, (0, 0, 0, 0)), (59, .fsub, 1, (0, 0, 0, 0)), (60, .fadd, 1, (0, 0, 0, 0)), (61, .putfield 26, 3, (6, 4, 139, 0)), (64, .goto 10, 3, (74, 0, 0, 0)), (67, .aload_n 0, 1, (0, 0, 0, 0)), (68, .getfield 9, 3, (6, 0, 134, 0)), (71, .iload_n 1, 1, (0, 0, 0, 0)), (72, .fload_n 3, 1, (0, 0, 0, 0)), (73, .fastore, 1, (0, 0, 0, 0)), (74, .return_, 1, (0, 0, 0, 0))]
/-- EstateVessels$Vessels lowest (I)I -/
def zc_39 : List (Nat × Instr × Nat × zRes) := [(0, .iconst (-1), 1, (0, 0, 0, 0)), (1, .istore_n 2, 1, (0, 0, 0, 0)), (2, .fconst 0, 1, (0, 0, 0, 0)), (3, .fstore_n 3, 1, (0, 0, 0, 0)), (4, .iconst 0, 1, (0, 0, 0, 0)), (5, .istore 4, 2, (0, 0, 0, 0)), (7, .iload 4, 2, (0, 0, 0, 0)), (9, .aload_n 0, 1, (0, 0, 0, 0)), (10, .getfield 22, 3, (6, 3, 138, 0)), (13, .if_icmp .ge 53, 3, (66, 0, 0, 0)), (16, .aload_n 0, 1, (0, 0, 0, 0)), (17, .getfield 9, 3, (6, 0, 134, 0)), (20, .iload 4, 2, (0, 0, 0, 0)), (22, .faload, 1, (0, 0, 0, 0)), (23, .aload_n 0, 1, (0, 0, 0, 0)), (24, .getfield 15, 3, (6, 1, 136, 0)), (27, .iload 4, 2, (0, 0, 0, 0)), (29, .faload, 1, (0, 0, 0, 0)), (30, .fcmp .g, 1, (0, 0, 0, 0)), (31, .ifCond .ge 29, 3, (60, 0, 0, 0)), (34, .aload_n 0, 1, (0, 0, 0, 0)), (35, .iload_n 1, 1, (0, 0, 0, 0)), (36, .iload 4, 2, (0, 0, 0, 0)), (38, .invokevirtual 56, 3, (40, 0, 532, 0)), (41, .fstore 5, 2, (0, 0, 0, 0)), (43, .iload_n 2, 1, (0, 0, 0, 0)), (44, .ifCond .lt 10, 3, (54, 0, 0, 0)), (47, .fload 5, 2, (0, 0, 0, 0)), (49, .fload_n 3, 1, (0, 0, 0, 0)), (50, .fcmp .g, 1, (0, 0, 0, 0)), (51, .ifCond .ge 9, 3, (60, 0, 0, 0)), (54, .iload 4, 2, (0, 0, 0, 0)), (56, .istore_n 2, 1, (0, 0, 0, 0)), (57, .fload 5, 2, (0, 0, 0, 0)), (59, .fstore_n 3, 1, (0, 0, 0, 0)), (60, .iinc 4 1, 3, (0, 0, 0, 0)), (63, .goto (-56), 3, (7, 0, 0, 0)), (66, .iload_n 2, 1, (0, 0, 0, 0)), (67, .ireturn, 1, (0, 0, 0, 0))]
/-- EstateVessels$Vessels surface (II)F -/
def zc_40 : List (Nat × Instr × Nat × zRes) := [(0, .aload_n 0, 1, (0, 0, 0, 0)), (1, .getfield 9, 3, (6, 0, 134, 0)), (4, .iload_n 2, 1, (0, 0, 0, 0)), (5, .faload, 1, (0, 0, 0, 0)), (6, .fstore_n 3, 1, (0, 0, 0, 0)), (7, .iload_n 1, 1, (0, 0, 0, 0)), (8, .tableswitch 83 0 3 #[32, 34, 43, 52], 32, (0, 0, 0, 0)), (40, .fload_n 3, 1, (0, 0, 0, 0)), (41, .freturn, 1, (0, 0, 0, 0)), (42, .fload_n 3, 1, (0, 0, 0, 0)), (43, .aload_n 0, 1, (0, 0, 0, 0)), (44, .getfield 15, 3, (6, 1, 136, 0)), (47, .iload_n 2, 1, (0, 0, 0, 0)), (48, .faload, 1, (0, 0, 0, 0)), (49, .fsub, 1, (0, 0, 0, 0)), (50, .freturn, 1, (0, 0, 0, 0)), (51, .fload_n 3, 1, (0, 0, 0, 0)), (52, .aload_n 0, 1, (0, 0, 0, 0)), (53, .getfield 15, 3, (6, 1, 136, 0)), (56, .iload_n 2, 1, (0, 0, 0, 0)), (57, .faload, 1, (0, 0, 0, 0)), (58, .fdiv, 1, (0, 0, 0, 0)), (59, .freturn, 1, (0, 0, 0, 0)), (60, .fconst 2, 1, (0, 0, 0, 0)), (61, .fload_n 3, 1, (0, 0, 0, 0)), (62, .fmul, 1, (0, 0, 0, 0)), (63, .aload_n 0, 1, (0, 0, 0, 0)), (64, .getfield 15, 3, (6, 1, 136, 0)), (67, .iload_n 2, 1, (0, 0, 0, 0)), (68, .faload, 1, (0, 0, 0, 0)), (69, .fcmp .g, 1, (0, 0, 0, 0)), (70, .ifCond .ge 7, 3, (77, 0, 0, 0)), (73, .fload_n 3, 1, (0, 0, 0, 0)), (74, .goto 16, 3, (90, 0, 0, 0)), (77, .aload_n 0, 1, (0, 0, 0, 0)), (78, .getfield 18, 3, (6, 2, 137, 0)), (81, .aload_n 0, 1, (0, 0, 0, 0)), (82, .getfield 15, 3, (6, 1, 136, 0)), (85, .iload_n 2, 1, (0, 0, 0, 0)), (86, .faload, 1, (0, 0, 0, 0)), (87, .fload_n 3, 1, (0, 0, 0, 0)), (88, .fsub, 1, (0, 0, 0, 0)), (89, .fsub, 1, (0, 0, 0, 0)), (90, .freturn, 1, (0, 0, 0, 0)), (91, .fload_n 3, 1, (0, 0, 0, 0)), (92, .aload_n 0, 1, (0, 0, 0, 0)), (93, .getfield 15, 3, (6, 1, 136, 0)), (96, .iload_n 2, 1, (0, 0, 0, 0)), (97, .faload, 1, (0, 0, 0, 0)), (98, .ldc 60, 2, (1, 0, 536, 1056964608)), (100, .fmul, 1, (0, 0, 0, 0)), (101, .fsub, 1, (0, 0, 0, 0)), (102, .freturn, 1, (0, 0, 0, 0))]
/-- EstateVessels <init> ()V -/
def zc_41 : List (Nat × Instr × Nat × zRes) := [(0, .aload_n 0, 1, (0, 0, 0, 0)), (1, .invokespecial 3, 3, (1004, 0, 72, 0)), (4, .aload_n 0, 1, (0, 0, 0, 0)), (5, .new 9, 3, (3, 0, 75, 0)), (8, .dup, 1, (0, 0, 0, 0)), (9, .invokespecial 11, 3, (15, 1, 77, 0)), (12, .putfield 12, 3, (7, 0, 261, 0)), (15, .aload_n 0, 1, (0, 0, 0, 0)), (16, .new 9, 3, (3, 0, 75, 0)), (19, .dup, 1, (0, 0, 0, 0)), (20, .invokespecial 11, 3, (15, 1, 77, 0)), (23, .putfield 18, 3, (7, 1, 262, 0)), (26, .aload_n 0, 1, (0, 0, 0, 0)), (27, .new 21, 3, (0, 0, 126, 0)), (30, .dup, 1, (0, 0, 0, 0)), (31, .invokespecial 23, 3, (0, 1, 127, 0)), (34, .putfield 24, 3, (7, 2, 263, 0)), (37, .aload_n 0, 1, (0, 0, 0, 0)), (38, .new 28, 3, (6, 0, 128, 0)), (41, .dup, 1, (0, 0, 0, 0)), (42, .invokespecial 30, 3, (35, 1, 130, 0)), (45, .putfield 31, 3, (7, 3, 264, 0)), (48, .aload_n 0, 1, (0, 0, 0, 0)), (49, .new 35, 3, (2, 0, 153, 0)), (52, .dup, 1, (0, 0, 0, 0)), (53, .iconst 5, 1, (0, 0, 0, 0)), (54, .invokespecial 37, 3, (12, 0, 155, 0)), (57, .putfield 40, 3, (7, 4, 265, 0)), (60, .aload_n 0, 1, (0, 0, 0, 0)), (61, .new 35, 3, (2, 0, 153, 0)), (64, .dup, 1, (0, 0, 0, 0)), (65, .bipush 8, 2, (0, 0, 0, 0)), (67, .invokespecial 37, 3, (12, 0, 155, 0)), (70, .putfield 44, 3, (7, 5, 266, 0)), (73, .aload_n 0, 1, (0, 0, 0, 0)), (74, .new 35, 3, (2, 0, 153, 0)), (77, .dup, 1, (0, 0, 0, 0)), (78, .bipush 8, 2, (0, 0, 0, 0)), (80, .invokespecial 37, 3, (12, 0, 155, 0)), (83, .putfield 47, 3, (7, 6, 267, 0)), (86, .aload_n 0, 1, (0, 0, 0, 0)), (87, .new 50, 3, (5, 0, 175, 0)), (90, .dup, 1, (0, 0, 0, 0)), (91, .invokespecial 52, 3, (30, 1, 177, 0)), (94, .putfield 53, 3, (7, 7, 268, 0)), (97, .aload_n 0, 1, (0, 0, 0, 0)), (98, .bipush 6, 2, (0, 0, 0, 0)), (100, .anewarray 57, 3, (4, 0, 210, 0)), (103, .putfield 59, 3, (7, 8, 269, 0)), (106, .aload_n 0, 1, (0, 0, 0, 0)), (107, .new 63, 3, (1, 0, 212, 0)), (110, .dup, 1, (0, 0, 0, 0)), (111, .invokespecial 65, 3, (11, 1, 214, 0)), (114, .putfield 66, 3, (7, 9, 270, 0)), (117, .iconst 0, 1, (0, 0, 0, 0)), (118, .istore_n 1, 1, (0, 0, 0, 0)), (119, .iload_n 1, 1, (0, 0, 0, 0)), (120, .bipush 6, 2, (0, 0, 0, 0)), (122, .if_icmp .ge 22, 3, (144, 0, 0, 0)), (125, .aload_n 0, 1, (0, 0, 0, 0)), (126, .getfield 59, 3, (7, 8, 269, 0)), (129, .iload_n 1, 1, (0, 0, 0, 0)), (130, .new 57, 3, (4, 0, 210, 0)), (133, .dup, 1, (0, 0, 0, 0)), (134, .invokespecial 70, 3, (25, 1, 244, 0)), (137, .aastore, 1, (0, 0, 0, 0)), (138, .iinc 1 1, 3, (0, 0, 0, 0)), (141, .goto (-22), 3, (119, 0, 0, 0)), (144, .return_, 1, (0, 0, 0, 0))]
/-- EstateVessels claim (I)I -/
def zc_42 : List (Nat × Instr × Nat × zRes) := [(0, .iload_n 1, 1, (0, 0, 0, 0)), (1, .invokestatic 71, 3, (84, 0, 296, 0)), (4, .ifCond .ne 6, 3, (10, 0, 0, 0)), (7, .bipush (-2), 2, (0, 0, 0, 0)), (9, .ireturn, 1, (0, 0, 0, 0)), (10, .aload_n 0, 1, (0, 0, 0, 0)), (11, .getfield 12, 3, (7, 0, 261, 0)), (14, .getfield 75, 3, (3, 0, 109, 0)), (17, .getfield 78, 3, (0, 3, 95, 0)), (20, .bipush 6, 2, (0, 0, 0, 0)), (22, .if_icmp .lt 6, 3, (28, 0, 0, 0)), (25, .bipush (-4), 2, (0, 0, 0, 0)), (27, .ireturn, 1, (0, 0, 0, 0)), (28, .aload_n 0, 1, (0, 0, 0, 0)), (29, .getfield 12, 3, (7, 0, 261, 0)), (32, .getfield 75, 3, (3, 0, 109, 0)), (35, .iload_n 1, 1, (0, 0, 0, 0)), (36, .invokevirtual 82, 3, (4, 0, 299, 0)), (39, .aload_n 0, 1, (0, 0, 0, 0)), (40, .getfield 12, 3, (7, 0, 261, 0)), (43, .getfield 75, 3, (3, 0, 109, 0)), (46, .getfield 78, 3, (0, 3, 95, 0)), (49, .iconst 1, 1, (0, 0, 0, 0)), (50, .isub, 1, (0, 0, 0, 0)), (51, .ireturn, 1, (0, 0, 0, 0))]
/-- EstateVessels renew (II)I -/
def zc_43 : List (Nat × Instr × Nat × zRes) := [(0, .aload_n 0, 1, (0, 0, 0, 0)), (1, .getfield 12, 3, (7, 0, 261, 0)), (4, .getfield 75, 3, (3, 0, 109, 0)), (7, .iload_n 1, 1, (0, 0, 0, 0)), (8, .invokevirtual 85, 3, (1, 0, 307, 0)), (11, .ifCond .ne 5, 3, (16, 0, 0, 0)), (14, .iconst (-1), 1, (0, 0, 0, 0)), (15, .ireturn, 1, (0, 0, 0, 0)), (16, .iload_n 2, 1, (0, 0, 0, 0)), (17, .invokestatic 71, 3, (84, 0, 296, 0)), (20, .ifCond .ne 6, 3, (26, 0, 0, 0)), (23, .bipush (-2), 2, (0, 0, 0, 0)), (25, .ireturn, 1, (0, 0, 0, 0)), (26, .aload_n 0, 1, (0, 0, 0, 0)), (27, .getfield 12, 3, (7, 0, 261, 0)), (30, .getfield 75, 3, (3, 0, 109, 0)), (33, .getfield 88, 3, (0, 0, 88, 0)), (36, .iload_n 1, 1, (0, 0, 0, 0)), (37, .iaload, 1, (0, 0, 0, 0)), (38, .istore_n 3, 1, (0, 0, 0, 0)), (39, .aload_n 0, 1, (0, 0, 0, 0)), (40, .getfield 12, 3, (7, 0, 261, 0)), (43, .getfield 75, 3, (3, 0, 109, 0)), (46, .iload_n 1, 1, (0, 0, 0, 0)), (47, .iload_n 2, 1, (0, 0, 0, 0)), (48, .invokevirtual 92, 3, (5, 0, 311, 0)), (51, .iload_n 3, 1, (0, 0, 0, 0)), (52, .ireturn, 1, (0, 0, 0, 0))]
/-- EstateVessels estate (I)I -/
def zc_44 : List (Nat × Instr × Nat × zRes) := [(0, .iload_n 1, 1, (0, 0, 0, 0)), (1, .invokestatic 96, 3, (85, 0, 329, 0)), (4, .ifCond .ne 6, 3, (10, 0, 0, 0)), (7, .bipush (-2), 2, (0, 0, 0, 0)), (9, .ireturn, 1, (0, 0, 0, 0)), (10, .aload_n 0, 1, (0, 0, 0, 0)), (11, .getfield 12, 3, (7, 0, 261, 0)), (14, .getfield 99, 3, (3, 2, 113, 0)), (17, .istore_n 2, 1, (0, 0, 0, 0)), (18, .aload_n 0, 1, (0, 0, 0, 0)), (19, .getfield 12, 3, (7, 0, 261, 0)), (22, .iload_n 1, 1, (0, 0, 0, 0)), (23, .putfield 99, 3, (3, 2, 113, 0)), (26, .iload_n 2, 1, (0, 0, 0, 0)), (27, .ireturn, 1, (0, 0, 0, 0))]
/-- EstateVessels rule (I)I -/
def zc_45 : List (Nat × Instr × Nat × zRes) := [(0, .iload_n 1, 1, (0, 0, 0, 0)), (1, .invokestatic 102, 3, (86, 0, 336, 0)), (4, .ifCond .ne 6, 3, (10, 0, 0, 0)), (7, .bipush (-2), 2, (0, 0, 0, 0)), (9, .ireturn, 1, (0, 0, 0, 0)), (10, .aload_n 0, 1, (0, 0, 0, 0)), (11, .getfield 12, 3, (7, 0, 261, 0)), (14, .getfield 105, 3, (3, 3, 115, 0)), (17, .istore_n 2, 1, (0, 0, 0, 0)), (18, .aload_n 0, 1, (0, 0, 0, 0)), (19, .getfield 12, 3, (7, 0, 261, 0)), (22, .iload_n 1, 1, (0, 0, 0, 0)), (23, .putfield 105, 3, (3, 3, 115, 0)), (26, .iload_n 2, 1, (0, 0, 0, 0)), (27, .ireturn, 1, (0, 0, 0, 0))]
/-- EstateVessels of (I)I -/
def zc_46 : List (Nat × Instr × Nat × zRes) := [(0, .aload_n 0, 1, (0, 0, 0, 0)), (1, .getfield 12, 3, (7, 0, 261, 0)), (4, .getfield 75, 3, (3, 0, 109, 0)), (7, .iload_n 1, 1, (0, 0, 0, 0)), (8, .invokevirtual 85, 3, (1, 0, 307, 0)), (11, .ifCond .eq 18, 3, (29, 0, 0, 0)), (14, .aload_n 0, 1, (0, 0, 0, 0)), (15, .getfield 12, 3, (7, 0, 261, 0)), (18, .getfield 75, 3, (3, 0, 109, 0)), (21, .getfield 88, 3, (0, 0, 88, 0)), (24, .iload_n 1, 1, (0, 0, 0, 0)), (25, .iaload, 1, (0, 0, 0, 0)), (26, .goto 4, 3, (30, 0, 0, 0)), (29, .iconst (-1), 1, (0, 0, 0, 0)), (30, .ireturn, 1, (0, 0, 0, 0))]
/-- EstateVessels told (I)I -/
def zc_47 : List (Nat × Instr × Nat × zRes) := [(0, .iload_n 1, 1, (0, 0, 0, 0)), (1, .tableswitch 89 0 4 #[35, 46, 57, 65, 73], 35, (0, 0, 0, 0)), (36, .aload_n 0, 1, (0, 0, 0, 0)), (37, .getfield 12, 3, (7, 0, 261, 0)), (40, .getfield 75, 3, (3, 0, 109, 0)), (43, .getfield 78, 3, (0, 3, 95, 0)), (46, .ireturn, 1, (0, 0, 0, 0)), (47, .aload_n 0, 1, (0, 0, 0, 0)), (48, .getfield 12, 3, (7, 0, 261, 0)), (51, .getfield 75, 3, (3, 0, 109, 0)), (54, .invokevirtual 108, 3, (2, 0, 347, 0)), (57, .ireturn, 1, (0, 0, 0, 0)), (58, .aload_n 0, 1, (0, 0, 0, 0)), (59, .getfield 12, 3, (7, 0, 261, 0)), (62, .getfield 99, 3, (3, 2, 113, 0)), (65, .ireturn, 1, (0, 0, 0, 0)), (66, .aload_n 0, 1, (0, 0, 0, 0)), (67, .getfield 12, 3, (7, 0, 261, 0)), (70, .getfield 105, 3, (3, 3, 115, 0)), (73, .ireturn, 1, (0, 0, 0, 0)), (74, .aload_n 0, 1, (0, 0, 0, 0)), (75, .getfield 12, 3, (7, 0, 261, 0)), (78, .invokevirtual 112, 3, (16, 0, 351, 0)), (81, .ifCond .eq 7, 3, (88, 0, 0, 0)), (84, .iconst 1, 1, (0, 0, 0, 0)), (85, .goto 4, 3, (89, 0, 0, 0)), (88, .iconst 0, 1, (0, 0, 0, 0)), (89, .ireturn, 1, (0, 0, 0, 0)), (90, .iconst (-1), 1, (0, 0, 0, 0)), (91, .ireturn, 1, (0, 0, 0, 0))]
/-- EstateVessels feed (I)I -/
def zc_48 : List (Nat × Instr × Nat × zRes) := [(0, .iload_n 1, 1, (0, 0, 0, 0)), (1, .ifCond .lt 9, 3, (10, 0, 0, 0)), (4, .iload_n 1, 1, (0, 0, 0, 0)), (5, .bipush 127, 2, (0, 0, 0, 0)), (7, .if_icmp .le 6, 3, (13, 0, 0, 0)), (10, .bipush (-2), 2, (0, 0, 0, 0)), (12, .ireturn, 1, (0, 0, 0, 0)), (13, .aload_n 0, 1, (0, 0, 0, 0)), (14, .getfield 53, 3, (7, 7, 268, 0)), (17, .getfield 116, 3, (5, 1, 184, 0)), (20, .bipush 100, 2, (0, 0, 0, 0)), (22, .if_icmp .lt 6, 3, (28, 0, 0, 0)), (25, .bipush (-4), 2, (0, 0, 0, 0)), (27, .ireturn, 1, (0, 0, 0, 0)), (28, .aload_n 0, 1, (0, 0, 0, 0)), (29, .getfield 53, 3, (7, 7, 268, 0)), (32, .getfield 119, 3, (5, 0, 182, 0)), (35, .aload_n 0, 1, (0, 0, 0, 0)), (36, .getfield 53, 3, (7, 7, 268, 0)), (39, .getfield 116, 3, (5, 1, 184, 0)), (42, .iload_n 1, 1, (0, 0, 0, 0)), (43, .i2b, 1, (0, 0, 0, 0)), (44, .bastore, 1, (0, 0, 0, 0)), (45, .aload_n 0, 1, (0, 0, 0, 0)), (46, .getfield 53, 3, (7, 7, 268, 0)), (49, .dup, 1, (0, 0, 0, 0)), (50, .getfield 116, 3, (5, 1, 184, 0)), (53, .iconst 1, 1, (0, 0, 0, 0)), (54, .iadd, 1, (0, 0, 0, 0)), (55, .putfield 116, 3, (5, 1, 184, 0)), (58, .aload_n 0, 1, (0, 0, 0, 0)), (59, .getfield 53, 3, (7, 7, 268, 0)), (62, .getfield 116, 3, (5, 1, 184, 0)), (65, .ireturn, 1, (0, 0, 0, 0))]
/-- EstateVessels read ()I -/
def zc_49 : List (Nat × Instr × Nat × zRes) := [(0, .aload_n 0, 1, (0, 0, 0, 0)), (1, .getfield 53, 3, (7, 7, 268, 0)), (4, .invokevirtual 123, 3, (31, 0, 364, 0)), (7, .istore_n 1, 1, (0, 0, 0, 0)), (8, .aload_n 0, 1, (0, 0, 0, 0)), (9, .getfield 53, 3, (7, 7, 268, 0)), (12, .iconst 0, 1, (0, 0, 0, 0)), (13, .putfield 116, 3, (5, 1, 184, 0)), (16, .iload_n 1, 1, (0, 0, 0, 0)), (17, .ifCond .lt 8, 3, (25, 0, 0, 0)), (20, .bipush (-10), 2, (0, 0, 0, 0)), (22, .iload_n 1, 1, (0, 0, 0, 0)), (23, .isub, 1, (0, 0, 0, 0)), (24, .ireturn, 1, (0, 0, 0, 0)), (25, .iconst 0, 1, (0, 0, 0, 0)), (26, .istore_n 2, 1, (0, 0, 0, 0)), (27, .iconst 0, 1, (0, 0, 0, 0)), (28, .istore_n 3, 1, (0, 0, 0, 0)), (29, .iload_n 3, 1, (0, 0, 0, 0)), (30, .aload_n 0, 1, (0, 0, 0, 0)), (31, .getfield 53, 3, (7, 7, 268, 0)), (34, .getfield 126, 3, (5, 5, 192, 0)), (37, .if_icmp .ge 46, 3, (83, 0, 0, 0)), (40, .aload_n 0, 1, (0, 0, 0, 0)), (41, .aload_n 0, 1, (0, 0, 0, 0)), (42, .getfield 53, 3, (7, 7, 268, 0)), (45, .getfield 129, 3, (5, 2, 186, 0)), (48, .iload_n 3, 1, (0, 0, 0, 0)), (49, .iaload, 1, (0, 0, 0, 0)), (50, .aload_n 0, 1, (0, 0, 0, 0)), (51, .getfield 53, 3, (7, 7, 268, 0)), (54, .getfield 132, 3, (5, 3, 188, 0)), (57, .iload_n 3, 1, (0, 0, 0, 0)), (58, .iaload, 1, (0, 0, 0, 0)), (59, .aload_n 0, 1, (0, 0, 0, 0)), (60, .getfield 53, 3, (7, 7, 268, 0)), (63, .getfield 135, 3, (5, 4, 190, 0)), (66, .iload_n 3, 1, (0, 0, 0, 0)), (67, .iaload, 1, (0, 0, 0, 0)), (68, .invokevirtual 138, 3, (50, 0, 380, 0)), (71, .ifCond .lt 6, 3, (77, 0, 0, 0)), (74, .iinc 2 1, 3, (0, 0, 0, 0)), (77, .iinc 3 1, 3, (0, 0, 0, 0)), (80, .goto (-51), 3, (29, 0, 0, 0)), (83, .iload_n 2, 1, (0, 0, 0, 0)), (84, .ireturn, 1, (0, 0, 0, 0))]
/-- EstateVessels perform (III)I -/
def zc_50 : List (Nat × Instr × Nat × zRes) := [(0, .iload_n 1, 1, (0, 0, 0, 0)), (1, .lookupswitch 54 #[(99, 35), (101, 48), (110, 41)], 35, (0, 0, 0, 0)), (36, .aload_n 0, 1, (0, 0, 0, 0)), (37, .iload_n 3, 1, (0, 0, 0, 0)), (38, .invokevirtual 142, 3, (42, 0, 384, 0)), (41, .ireturn, 1, (0, 0, 0, 0)), (42, .aload_n 0, 1, (0, 0, 0, 0)), (43, .iload_n 2, 1, (0, 0, 0, 0)), (44, .iload_n 3, 1, (0, 0, 0, 0)), (45, .invokevirtual 146, 3, (43, 0, 385, 0)), (48, .ireturn, 1, (0, 0, 0, 0)), (49, .aload_n 0, 1, (0, 0, 0, 0)), (50, .iload_n 3, 1, (0, 0, 0, 0)), (51, .invokevirtual 150, 3, (44, 0, 386, 0)), (54, .ireturn, 1, (0, 0, 0, 0)), (55, .aload_n 0, 1, (0, 0, 0, 0)), (56, .iload_n 3, 1, (0, 0, 0, 0)), (57, .invokevirtual 152, 3, (45, 0, 387, 0)), (60, .ireturn, 1, (0, 0, 0, 0))]
/-- EstateVessels award (III)J -/
def zc_51 : List (Nat × Instr × Nat × zRes) := [(0, .iload_n 1, 1, (0, 0, 0, 0)), (1, .invokestatic 102, 3, (86, 0, 336, 0)), (4, .ifCond .eq 34, 3, (38, 0, 0, 0)), (7, .aload_n 0, 1, (0, 0, 0, 0)), (8, .getfield 12, 3, (7, 0, 261, 0)), (11, .getfield 75, 3, (3, 0, 109, 0)), (14, .iload_n 2, 1, (0, 0, 0, 0)), (15, .invokevirtual 85, 3, (1, 0, 307, 0)), (18, .ifCond .eq 20, 3, (38, 0, 0, 0)), (21, .iload_n 3, 1, (0, 0, 0, 0)), (22, .invokestatic 154, 3, (87, 0, 392, 0)), (25, .ifCond .eq 13, 3, (38, 0, 0, 0)), (28, .aload_n 0, 1, (0, 0, 0, 0)), (29, .getfield 12, 3, (7, 0, 261, 0)), (32, .invokevirtual 112, 3, (16, 0, 351, 0)), (35, .ifCond .ne 7, 3, (42, 0, 0, 0)), (38, .ldc2_w 157, 3, (0, 0, 395, -9223372036854775808)), (41, .lreturn, 1, (0, 0, 0, 0)), (42, .aload_n 0, 1, (0, 0, 0, 0)), (43, .getfield 12, 3, (7, 0, 261, 0)), (46, .iload_n 1, 1, (0, 0, 0, 0)), (47, .iload_n 2, 1, (0, 0, 0, 0)), (48, .iload_n 3, 1, (0, 0, 0, 0)), (49, .invokevirtual 159, 3, (18, 0, 396, 0)), (52, .lreturn, 1, (0, 0, 0, 0))]
/-- EstateVessels cut (II)I -/
def zc_52 : List (Nat × Instr × Nat × zRes) := [(0, .iload_n 1, 1, (0, 0, 0, 0)), (1, .invokestatic 102, 3, (86, 0, 336, 0)), (4, .ifCond .ne 6, 3, (10, 0, 0, 0)), (7, .bipush (-2), 2, (0, 0, 0, 0)), (9, .ireturn, 1, (0, 0, 0, 0)), (10, .aload_n 0, 1, (0, 0, 0, 0)), (11, .getfield 12, 3, (7, 0, 261, 0)), (14, .getfield 75, 3, (3, 0, 109, 0)), (17, .iload_n 2, 1, (0, 0, 0, 0)), (18, .invokevirtual 85, 3, (1, 0, 307, 0)), (21, .ifCond .ne 5, 3, (26, 0, 0, 0)), (24, .iconst (-1), 1, (0, 0, 0, 0)), (25, .ireturn, 1, (0, 0, 0, 0)), (26, .aload_n 0, 1, (0, 0, 0, 0)), (27, .getfield 12, 3, (7, 0, 261, 0)), (30, .invokevirtual 112, 3, (16, 0, 351, 0)), (33, .ifCond .eq 15, 3, (48, 0, 0, 0)), (36, .aload_n 0, 1, (0, 0, 0, 0)), (37, .getfield 12, 3, (7, 0, 261, 0)), (40, .iload_n 1, 1, (0, 0, 0, 0)), (41, .iload_n 2, 1, (0, 0, 0, 0)), (42, .invokevirtual 163, 3, (19, 0, 444, 0)), (45, .goto 5, 3, (50, 0, 0, 0)), (48, .bipush (-3), 2, (0, 0, 0, 0)), (50, .ireturn, 1, (0, 0, 0, 0))]
/-- EstateVessels dual (III)J -/
def zc_53 : List (Nat × Instr × Nat × zRes) := [(0, .iload_n 1, 1, (0, 0, 0, 0)), (1, .invokestatic 102, 3, (86, 0, 336, 0)), (4, .ifCond .eq 34, 3, (38, 0, 0, 0)), (7, .aload_n 0, 1, (0, 0, 0, 0)), (8, .getfield 12, 3, (7, 0, 261, 0)), (11, .getfield 75, 3, (3, 0, 109, 0)), (14, .iload_n 2, 1, (0, 0, 0, 0)), (15, .invokevirtual 85, 3, (1, 0, 307, 0)), (18, .ifCond .eq 20, 3, (38, 0, 0, 0)), (21, .iload_n 3, 1, (0, 0, 0, 0)), (22, .invokestatic 154, 3, (87, 0, 392, 0)), (25, .ifCond .eq 13, 3, (38, 0, 0, 0)), (28, .aload_n 0, 1, (0, 0, 0, 0)), (29, .getfield 12, 3, (7, 0, 261, 0)), (32, .invokevirtual 112, 3, (16, 0, 351, 0)), (35, .ifCond .ne 7, 3, (42, 0, 0, 0)), (38, .ldc2_w 157, 3, (0, 0, 395, -9223372036854775808)), (41, .lreturn, 1, (0, 0, 0, 0)), (42, .aload_n 0, 1, (0, 0, 0, 0)), (43, .getfield 12, 3, (7, 0, 261, 0)), (46, .getfield 75, 3, (3, 0, 109, 0)), (49, .astore 4, 2, (0, 0, 0, 0)), (51, .aload 4, 2, (0, 0, 0, 0)), (53, .iload_n 1, 1, (0, 0, 0, 0)), (54, .invokevirtual 166, 3, (7, 0, 452, 0)), (57, .lstore 5, 2, (0, 0, 0, 0)), (59, .aload 4, 2, (0, 0, 0, 0)), (61, .iload_n 1, 1, (0, 0, 0, 0)), (62, .iload_n 2, 1, (0, 0, 0, 0)), (63, .aload 4, 2, (0, 0, 0, 0)), (65, .invokevirtual 108, 3, (2, 0, 347, 0)), (68, .aload_n 0, 1, (0, 0, 0, 0)), (69, .getfield 12, 3, (7, 0, 261, 0)), (72, .getfield 99, 3, (3, 2, 113, 0)), (75, .isub, 1, (0, 0, 0, 0)), (76, .i2l, 1, (0, 0, 0, 0)), (77, .lconst 1, 1, (0, 0, 0, 0)), (78, .invokevirtual 170, 3, (8, 0, 453, 0)), (81, .lstore 7, 2, (0, 0, 0, 0)), (83, .aload 4, 2, (0, 0, 0, 0)), (85, .getfield 88, 3, (0, 0, 88, 0)), (88, .iload_n 2, 1, (0, 0, 0, 0)), (89, .iaload, 1, (0, 0, 0, 0)), (90, .i2l, 1, (0, 0, 0, 0)), (91, .lload 5, 2, (0, 0, 0, 0)), (93, .lmul, 1, (0, 0, 0, 0)), (94, .lload 7, 2, (0, 0, 0, 0)), (96, .lsub, 1, (0, 0, 0, 0)), (97, .lload 5, 2, (0, 0, 0, 0)), (99, .iload_n 3, 1, (0, 0, 0, 0)), (100, .invokestatic 174, 3, (90, 0, 454, 0)), (103, .lreturn, 1, (0, 0, 0, 0))]
/-- EstateVessels alone (IIII)J -/
def zc_54 : List (Nat × Instr × Nat × zRes) := [(0, .iload_n 1, 1, (0, 0, 0, 0)), (1, .invokestatic 102, 3, (86, 0, 336, 0)), (4, .ifCond .eq 36, 3, (40, 0, 0, 0)), (7, .aload_n 0, 1, (0, 0, 0, 0)), (8, .getfield 12, 3, (7, 0, 261, 0)), (11, .getfield 75, 3, (3, 0, 109, 0)), (14, .iload_n 2, 1, (0, 0, 0, 0)), (15, .invokevirtual 85, 3, (1, 0, 307, 0)), (18, .ifCond .eq 22, 3, (40, 0, 0, 0)), (21, .aload_n 0, 1, (0, 0, 0, 0)), (22, .getfield 12, 3, (7, 0, 261, 0)), (25, .getfield 75, 3, (3, 0, 109, 0)), (28, .iload_n 3, 1, (0, 0, 0, 0)), (29, .invokevirtual 85, 3, (1, 0, 307, 0)), (32, .ifCond .eq 8, 3, (40, 0, 0, 0)), (35, .iload_n 2, 1, (0, 0, 0, 0)), (36, .iload_n 3, 1, (0, 0, 0, 0)), (37, .if_icmp .ne 7, 3, (44, 0, 0, 0)), (40, .ldc2_w 157, 3, (0, 0, 395, -9223372036854775808)), (43, .lreturn, 1, (0, 0, 0, 0)), (44, .iload 4, 2, (0, 0, 0, 0)), (46, .invokestatic 154, 3, (87, 0, 392, 0)), (49, .ifCond .eq 13, 3, (62, 0, 0, 0)), (52, .aload_n 0, 1, (0, 0, 0, 0)), (53, .getfield 12, 3, (7, 0, 261, 0)), (56, .invokevirtual 112, 3, (16, 0, 351, 0)), (59, .ifCond .ne 7, 3, (66, 0, 0, 0)), (62, .ldc2_w 157, 3, (0, 0, 395, -9223372036854775808)), (65, .lreturn, 1, (0, 0, 0, 0)), (66, .aload_n 0, 1, (0, 0, 0, 0)), (67, .iload_n 1, 1, (0, 0, 0, 0)), (68, .iload_n 2, 1, (0, 0, 0, 0)), (69, .iload_n 3, 1, (0, 0, 0, 0)), (70, .invokevirtual 178, 3, (55, 0, 459, 0)), (73, .lstore 5, 2, (0, 0, 0, 0)), (75, .lload 5, 2, (0, 0, 0, 0)), (77, .aload_n 0, 1, (0, 0, 0, 0)), (78, .getfield 24, 3, (7, 2, 263, 0)), (81, .iload_n 1, 1, (0, 0, 0, 0)), (82, .invokevirtual 166, 3, (7, 0, 452, 0)), (85, .aload_n 0, 1, (0, 0, 0, 0)), (86, .getfield 12, 3, (7, 0, 261, 0)), (89, .getfield 75, 3, (3, 0, 109, 0)), (92, .iload_n 1, 1, (0, 0, 0, 0)), (93, .invokevirtual 166, 3, (7, 0, 452, 0)), (96, .lmul, 1, (0, 0, 0, 0)), (97, .iload 4, 2, (0, 0, 0, 0)), (99, .invokestatic 174, 3, (90, 0, 454, 0)), (102, .lreturn, 1, (0, 0, 0, 0))]
/-- EstateVessels firstOfTwo (III)J -/
def zc_55 : List (Nat × Instr × Nat × zRes) := [(0, .aload_n 0, 1, (0, 0, 0, 0)), (1, .getfield 12, 3, (7, 0, 261, 0)), (4, .getfield 75, 3, (3, 0, 109, 0)), (7, .astore 4, 2, (0, 0, 0, 0)), (9, .aload_n 0, 1, (0, 0, 0, 0)), (10, .getfield 24, 3, (7, 2, 263, 0)), (13, .invokevirtual 181, 3, (3, 0, 463, 0)), (16, .aload_n 0, 1, (0, 0, 0, 0)), (17, .getfield 24, 3, (7, 2, 263, 0)), (20, .aload 4, 2, (0, 0, 0, 0)), (22, .getfield 88, 3, (0, 0, 88, 0)), (25, .iload_n 2, 1, (0, 0, 0, 0)), (26, .iaload, 1, (0, 0, 0, 0)), (27, .invokevirtual 82, 3, (4, 0, 299, 0)), (30, .aload_n 0, 1, (0, 0, 0, 0)), (31, .getfield 24, 3, (7, 2, 263, 0)), (34, .aload 4, 2, (0, 0, 0, 0)), (36, .getfield 88, 3, (0, 0, 88, 0)), (39, .iload_n 3, 1, (0, 0, 0, 0)), (40, .iaload, 1, (0, 0, 0, 0)), (41, .invokevirtual 82, 3, (4, 0, 299, 0)), (44, .aload 4, 2, (0, 0, 0, 0)), (46, .iload_n 1, 1, (0, 0, 0, 0)), (47, .iload_n 2, 1, (0, 0, 0, 0)), (48, .aload_n 0, 1, (0, 0, 0, 0)), (49, .getfield 12, 3, (7, 0, 261, 0)), (52, .getfield 99, 3, (3, 2, 113, 0)), (55, .i2l, 1, (0, 0, 0, 0)), (56, .lconst 1, 1, (0, 0, 0, 0)), (57, .invokevirtual 170, 3, (8, 0, 453, 0)), (60, .aload 4, 2, (0, 0, 0, 0)), (62, .iload_n 1, 1, (0, 0, 0, 0)), (63, .iload_n 3, 1, (0, 0, 0, 0)), (64, .aload_n 0, 1, (0, 0, 0, 0)), (65, .getfield 12, 3, (7, 0, 261, 0)), (68, .getfield 99, 3, (3, 2, 113, 0)), (71, .i2l, 1, (0, 0, 0, 0)), (72, .lconst 1, 1, (0, 0, 0, 0)), (73, .invokevirtual 170, 3, (8, 0, 453, 0)), (76, .ladd, 1, (0, 0, 0, 0)), (77, .lstore 5, 2, (0, 0, 0, 0)), (79, .aload_n 0, 1, (0, 0, 0, 0)), (80, .getfield 24, 3, (7, 2, 263, 0)), (83, .iload_n 1, 1, (0, 0, 0, 0)), (84, .iconst 0, 1, (0, 0, 0, 0)), (85, .lload 5, 2, (0, 0, 0, 0)), (87, .aload 4, 2, (0, 0, 0, 0)), (89, .iload_n 1, 1, (0, 0, 0, 0)), (90, .invokevirtual 166, 3, (7, 0, 452, 0)), (93, .invokevirtual 170, 3, (8, 0, 453, 0)), (96, .lreturn, 1, (0, 0, 0, 0))]
/-- EstateVessels consistent (I)I -/
def zc_56 : List (Nat × Instr × Nat × zRes) := [(0, .iload_n 1, 1, (0, 0, 0, 0)), (1, .invokestatic 102, 3, (86, 0, 336, 0)), (4, .ifCond .ne 6, 3, (10, 0, 0, 0)), (7, .bipush (-2), 2, (0, 0, 0, 0)), (9, .ireturn, 1, (0, 0, 0, 0)), (10, .aload_n 0, 1, (0, 0, 0, 0)), (11, .getfield 12, 3, (7, 0, 261, 0)), (14, .invokevirtual 112, 3, (16, 0, 351, 0)), (17, .ifCond .ne 6, 3, (23, 0, 0, 0)), (20, .bipush (-3), 2, (0, 0, 0, 0)), (22, .ireturn, 1, (0, 0, 0, 0)), (23, .iconst 0, 1, (0, 0, 0, 0)), (24, .istore_n 2, 1, (0, 0, 0, 0)), (25, .iload_n 2, 1, (0, 0, 0, 0)), (26, .aload_n 0, 1, (0, 0, 0, 0)), (27, .getfield 12, 3, (7, 0, 261, 0)), (30, .getfield 75, 3, (3, 0, 109, 0)), (33, .getfield 78, 3, (0, 3, 95, 0)), (36, .if_icmp .ge 50, 3, (86, 0, 0, 0)), (39, .iload_n 2, 1, (0, 0, 0, 0)), (40, .iconst 1, 1, (0, 0, 0, 0)), (41, .iadd, 1, (0, 0, 0, 0)), (42, .istore_n 3, 1, (0, 0, 0, 0)), (43, .iload_n 3, 1, (0, 0, 0, 0)), (44, .aload_n 0, 1, (0, 0, 0, 0)), (45, .getfield 12, 3, (7, 0, 261, 0)), (48, .getfield 75, 3, (3, 0, 109, 0)), (51, .getfield 78, 3, (0, 3, 95, 0)), (54, .if_icmp .ge 26, 3, (80, 0, 0, 0)), (57, .aload_n 0, 1, (0, 0, 0, 0)), (58, .iload_n 1, 1, (0, 0, 0, 0)), (59, .iload_n 2, 1, (0, 0, 0, 0)), (60, .iload_n 3, 1, (0, 0, 0, 0)), (61, .invokevirtual 184, 3, (57, 0, 468, 0)), (64, .ifCond .ne 10, 3, (74, 0, 0, 0)), (67, .bipush 10, 2, (0, 0, 0, 0)), (69, .iload_n 2, 1, (0, 0, 0, 0)), (70, .imul, 1, (0, 0, 0, 0)), (71, .iload_n 3, 1, (0, 0, 0, 0)), (72, .iadd, 1, (0, 0, 0, 0)), (73, .ireturn, 1, (0, 0, 0, 0)), (74, .iinc 3 1, 3, (0, 0, 0, 0)), (77, .goto (-34), 3, (43, 0, 0, 0)), (80, .iinc 2 1, 3, (0, 0, 0, 0)), (83, .goto (-58), 3, (25, 0, 0, 0)), (86, .bipush (-5), 2, (0, 0, 0, 0)), (88, .ireturn, 1, (0, 0, 0, 0))]
/-- EstateVessels isSameAlone (III)Z -/
def zc_57 : List (Nat × Instr × Nat × zRes) := [(0, .aload_n 0, 1, (0, 0, 0, 0)), (1, .iload_n 1, 1, (0, 0, 0, 0)), (2, .iload_n 2, 1, (0, 0, 0, 0)), (3, .iload_n 3, 1, (0, 0, 0, 0)), (4, .invokevirtual 178, 3, (55, 0, 459, 0)), (7, .lstore 4, 2, (0, 0, 0, 0)), (9, .lload 4, 2, (0, 0, 0, 0)), (11, .aload_n 0, 1, (0, 0, 0, 0)), (12, .getfield 12, 3, (7, 0, 261, 0)), (15, .getfield 75, 3, (3, 0, 109, 0)), (18, .iload_n 1, 1, (0, 0, 0, 0)), (19, .iload_n 2, 1, (0, 0, 0, 0)), (20, .aload_n 0, 1, (0, 0, 0, 0)), (21, .getfield 12, 3, (7, 0, 261, 0)), (24, .getfield 99, 3, (3, 2, 113, 0)), (27, .i2l, 1, (0, 0, 0, 0)), (28, .lconst 1, 1, (0, 0, 0, 0)), (29, .invokevirtual 170, 3, (8, 0, 453, 0)), (32, .aload_n 0, 1, (0, 0, 0, 0)), (33, .getfield 24, 3, (7, 2, 263, 0)), (36, .iload_n 1, 1, (0, 0, 0, 0)), (37, .invokevirtual 166, 3, (7, 0, 452, 0)), (40, .lmul, 1, (0, 0, 0, 0)), (41, .lcmp, 1, (0, 0, 0, 0)), (42, .ifCond .ne 7, 3, (49, 0, 0, 0)), (45, .iconst 1, 1, (0, 0, 0, 0)), (46, .goto 4, 3, (50, 0, 0, 0)), (49, .iconst 0, 1, (0, 0, 0, 0)), (50, .ireturn, 1, (1, 0, 0, 0))]
/-- EstateVessels change (IIIII)J -/
def zc_58 : List (Nat × Instr × Nat × zRes) := [(0, .iload_n 1, 1, (0, 0, 0, 0)), (1, .invokestatic 102, 3, (86, 0, 336, 0)), (4, .ifCond .eq 39, 3, (43, 0, 0, 0)), (7, .aload_n 0, 1, (0, 0, 0, 0)), (8, .getfield 12, 3, (7, 0, 261, 0)), (11, .getfield 75, 3, (3, 0, 109, 0)), (14, .iload_n 2, 1, (0, 0, 0, 0)), (15, .invokevirtual 85, 3, (1, 0, 307, 0)), (18, .ifCond .eq 25, 3, (43, 0, 0, 0)), (21, .iload_n 3, 1, (0, 0, 0, 0)), (22, .invokestatic 71, 3, (84, 0, 296, 0)), (25, .ifCond .eq 18, 3, (43, 0, 0, 0)), (28, .aload_n 0, 1, (0, 0, 0, 0)), (29, .getfield 12, 3, (7, 0, 261, 0)), (32, .getfield 75, 3, (3, 0, 109, 0)), (35, .iload 4, 2, (0, 0, 0, 0)), (37, .invokevirtual 85, 3, (1, 0, 307, 0)), (40, .ifCond .ne 7, 3, (47, 0, 0, 0)), (43, .ldc2_w 157, 3, (0, 0, 395, -9223372036854775808)), (46, .lreturn, 1, (0, 0, 0, 0)), (47, .iload 5, 2, (0, 0, 0, 0)), (49, .invokestatic 154, 3, (87, 0, 392, 0)), (52, .ifCond .eq 13, 3, (65, 0, 0, 0)), (55, .aload_n 0, 1, (0, 0, 0, 0)), (56, .getfield 12, 3, (7, 0, 261, 0)), (59, .invokevirtual 112, 3, (16, 0, 351, 0)), (62, .ifCond .ne 7, 3, (69, 0, 0, 0)), (65, .ldc2_w 157, 3, (0, 0, 395, -9223372036854775808)), (68, .lreturn, 1, (0, 0, 0, 0)), (69, .aload_n 0, 1, (0, 0, 0, 0)), (70, .getfield 18, 3, (7, 1, 262, 0)), (73, .aload_n 0, 1, (0, 0, 0, 0)), (74, .getfield 12, 3, (7, 0, 261, 0)), (77, .invokevirtual 188, 3, (17, 0, 476, 0)), (80, .aload_n 0, 1, (0, 0, 0, 0)), (81, .getfield 18, 3, (7, 1, 262, 0)), (84, .getfield 75, 3, (3, 0, 109, 0)), (87, .iload_n 2, 1, (0, 0, 0, 0)), (88, .iload_n 3, 1, (0, 0, 0, 0)), (89, .invokevirtual 92, 3, (5, 0, 311, 0)), (92, .aload_n 0, 1, (0, 0, 0, 0)), (93, .getfield 18, 3, (7, 1, 262, 0)), (96, .invokevirtual 112, 3, (16, 0, 351, 0)), (99, .ifCond .ne 7, 3, (106, 0, 0, 0)), (102, .ldc2_w 157, 3, (0, 0, 395, -9223372036854775808)), (105, .lreturn, 1, (0, 0, 0, 0)), (106, .aload_n 0, 1, (0, 0, 0, 0)), (107, .getfield 12, 3, (7, 0, 261, 0)), (110, .getfield 75, 3, (3, 0, 109, 0)), (113, .iload_n 1, 1, (0, 0, 0, 0)), (114, .invokevirtual 166, 3, (7, 0, 452, 0)), (117, .lstore 6, 2, (0, 0, 0, 0)), (119, .aload_n 0, 1, (0, 0, 0, 0)), (120, .getfield 18, 3, (7, 1, 262, 0)), (123, .getfield 75, 3, (3, 0, 109, 0)), (126, .iload_n 1, 1, (0, 0, 0, 0)), (127, .invokevirtual 166, 3, (7, 0, 452, 0)), (130, .lstore 8, 2, (0, 0, 0, 0)), (132, .aload_n 0, 1, (0, 0, 0, 0)), (133, .getfield 12, 3, (7, 0, 261, 0)), (136, .getfield 75, 3, (3, 0, 109, 0)), (139, .iload_n 1, 1, (0, 0, 0, 0)), (140, .iload 4, 2, (0, 0, 0, 0)), (142, .aload_n 0, 1, (0, 0, 0, 0)), (143, .getfield 12, 3, (7, 0, 261, 0)), (146, .getfield 99, 3, (3, 2, 113, 0)), (149, .i2l, 1, (0, 0, 0, 0)), (150, .lconst 1, 1, (0, 0, 0, 0)), (151, .invokevirtual 170, 3, (8, 0, 453, 0)), (154, .lstore 10, 2, (0, 0, 0, 0)), (156, .aload_n 0, 1, (0, 0, 0, 0)), (157, .getfield 18, 3, (7, 1, 262, 0)), (160, .getfield 75, 3, (3, 0, 109, 0)), (163, .iload_n 1, 1, (0, 0, 0, 0)), (164, .iload 4, 2, (0, 0, 0, 0)), (166, .aload_n 0, 1, (0, 0, 0, 0)), (167, .getfield 18, 3, (7, 1, 262, 0)), (170, .getfield 99, 3, (3, 2, 113, 0)), (173, .i2l, 1, (0, 0, 0, 0)), (174, .lconst 1, 1, (0, 0, 0, 0)), (175, .invokevirtual 170, 3, (8, 0, 453, 0)), (178, .lstore 12, 2, (0, 0, 0, 0)), (180, .lload 12, 2, (0, 0, 0, 0)), (182, .lload 6, 2, (0, 0, 0, 0)), (184, .lmul, 1, (0, 0, 0, 0)), (185, .lload 10, 2, (0, 0, 0, 0)), (187, .lload 8, 2, (0, 0, 0, 0)), (189, .lmul, 1, (0, 0, 0, 0)), (190, .lsub, 1, (0, 0, 0, 0)), (191, .lload 6, 2, (0, 0, 0, 0)), (193, .lload 8, 2, (0, 0, 0, 0)), (195, .lmul, 1, (0, 0, 0, 0)), (196, .iload 5, 2, (0, 0, 0, 0)), (198, .invokestatic 174, 3, (90, 0, 454, 0)), (201, .lreturn, 1, (0, 0, 0, 0))]
/-- EstateVessels inverse (III)I -/
def zc_59 : List (Nat × Instr × Nat × zRes) := [(0, .iload_n 1, 1, (0, 0, 0, 0)), (1, .invokestatic 102, 3, (86, 0, 336, 0)), (4, .ifCond .ne 6, 3, (10, 0, 0, 0)), (7, .bipush (-2), 2, (0, 0, 0, 0)), (9, .ireturn, 1, (0, 0, 0, 0)), (10, .aload_n 0, 1, (0, 0, 0, 0)), (11, .getfield 12, 3, (7, 0, 261, 0)), (14, .getfield 75, 3, (3, 0, 109, 0)), (17, .iload_n 2, 1, (0, 0, 0, 0)), (18, .invokevirtual 85, 3, (1, 0, 307, 0)), (21, .ifCond .ne 5, 3, (26, 0, 0, 0)), (24, .iconst (-1), 1, (0, 0, 0, 0)), (25, .ireturn, 1, (0, 0, 0, 0)), (26, .iload_n 3, 1, (0, 0, 0, 0)), (27, .ifCond .lt 9, 3, (36, 0, 0, 0)), (30, .iload_n 3, 1, (0, 0, 0, 0)), (31, .bipush 60, 2, (0, 0, 0, 0)), (33, .if_icmp .le 6, 3, (39, 0, 0, 0)), (36, .bipush (-2), 2, (0, 0, 0, 0)), (38, .ireturn, 1, (0, 0, 0, 0)), (39, .aload_n 0, 1, (0, 0, 0, 0)), (40, .getfield 12, 3, (7, 0, 261, 0)), (43, .getfield 75, 3, (3, 0, 109, 0)), (46, .astore 4, 2, (0, 0, 0, 0)), (48, .aload 4, 2, (0, 0, 0, 0)), (50, .invokevirtual 108, 3, (2, 0, 347, 0)), (53, .istore 5, 2, (0, 0, 0, 0)), (55, .iload_n 3, 1, (0, 0, 0, 0)), (56, .i2l, 1, (0, 0, 0, 0)), (57, .aload 4, 2, (0, 0, 0, 0)), (59, .iload_n 1, 1, (0, 0, 0, 0)), (60, .invokevirtual 166, 3, (7, 0, 452, 0)), (63, .lmul, 1, (0, 0, 0, 0)), (64, .lstore 6, 2, (0, 0, 0, 0)), (66, .iconst 0, 1, (0, 0, 0, 0)), (67, .istore 8, 2, (0, 0, 0, 0)), (69, .iload 8, 2, (0, 0, 0, 0)), (71, .iload 5, 2, (0, 0, 0, 0)), (73, .if_icmp .gt 29, 3, (102, 0, 0, 0)), (76, .aload 4, 2, (0, 0, 0, 0)), (78, .iload_n 1, 1, (0, 0, 0, 0)), (79, .iload_n 2, 1, (0, 0, 0, 0)), (80, .iload 8, 2, (0, 0, 0, 0)), (82, .i2l, 1, (0, 0, 0, 0)), (83, .lconst 1, 1, (0, 0, 0, 0)), (84, .invokevirtual 170, 3, (8, 0, 453, 0)), (87, .lload 6, 2, (0, 0, 0, 0)), (89, .lcmp, 1, (0, 0, 0, 0)), (90, .ifCond .lt 6, 3, (96, 0, 0, 0)), (93, .iload 8, 2, (0, 0, 0, 0)), (95, .ireturn, 1, (0, 0, 0, 0)), (96, .iinc 8 1, 3, (0, 0, 0, 0)), (99, .goto (-30), 3, (69, 0, 0, 0)), (102, .bipush (-5), 2, (0, 0, 0, 0)), (104, .ireturn, 1, (0, 0, 0, 0))]
/-- EstateVessels bends (II)I -/
def zc_60 : List (Nat × Instr × Nat × zRes) := [(0, .iload_n 1, 1, (0, 0, 0, 0)), (1, .invokestatic 102, 3, (86, 0, 336, 0)), (4, .ifCond .ne 6, 3, (10, 0, 0, 0)), (7, .bipush (-2), 2, (0, 0, 0, 0)), (9, .ireturn, 1, (0, 0, 0, 0)), (10, .aload_n 0, 1, (0, 0, 0, 0)), (11, .getfield 12, 3, (7, 0, 261, 0)), (14, .getfield 75, 3, (3, 0, 109, 0)), (17, .iload_n 2, 1, (0, 0, 0, 0)), (18, .invokevirtual 85, 3, (1, 0, 307, 0)), (21, .ifCond .ne 5, 3, (26, 0, 0, 0)), (24, .iconst (-1), 1, (0, 0, 0, 0)), (25, .ireturn, 1, (0, 0, 0, 0)), (26, .aload_n 0, 1, (0, 0, 0, 0)), (27, .getfield 12, 3, (7, 0, 261, 0)), (30, .getfield 75, 3, (3, 0, 109, 0)), (33, .astore_n 3, 1, (0, 0, 0, 0)), (34, .aload_n 3, 1, (0, 0, 0, 0)), (35, .invokevirtual 108, 3, (2, 0, 347, 0)), (38, .istore 4, 2, (0, 0, 0, 0)), (40, .iconst 0, 1, (0, 0, 0, 0)), (41, .istore 5, 2, (0, 0, 0, 0)), (43, .aload_n 3, 1, (0, 0, 0, 0)), (44, .iload_n 1, 1, (0, 0, 0, 0)), (45, .iload_n 2, 1, (0, 0, 0, 0)), (46, .lconst 0, 1, (0, 0, 0, 0)), (47, .lconst 1, 1, (0, 0, 0, 0)), (48, .invokevirtual 170, 3, (8, 0, 453, 0)), (51, .lstore 6, 2, (0, 0, 0, 0)), (53, .aload_n 3, 1, (0, 0, 0, 0)), (54, .iload_n 1, 1, (0, 0, 0, 0)), (55, .iload_n 2, 1, (0, 0, 0, 0)), (56, .lconst 1, 1, (0, 0, 0, 0)), (57, .lconst 1, 1, (0, 0, 0, 0)), (58, .invokevirtual 170, 3, (8, 0, 453, 0)), (61, .lstore 8, 2, (0, 0, 0, 0)), (63, .iconst 1, 1, (0, 0, 0, 0)), (64, .istore 10, 2, (0, 0, 0, 0)), (66, .iload 10, 2, (0, 0, 0, 0)), (68, .iload 4, 2, (0, 0, 0, 0)), (70, .if_icmp .ge 48, 3, (118, 0, 0, 0)), (73, .aload_n 3, 1, (0, 0, 0, 0)), (74, .iload_n 1, 1, (0, 0, 0, 0)), (75, .iload_n 2, 1, (0, 0, 0, 0)), (76, .iload 10, 2, (0, 0, 0, 0)), (78, .iconst 1, 1, (0, 0, 0, 0)), (79, .iadd, 1, (0, 0, 0, 0)), (80, .i2l, 1, (0, 0, 0, 0)), (81, .lconst 1, 1, (0, 0, 0, 0)), (82, .invokevirtual 170, 3, (8, 0, 453, 0)), (85, .lstore 11, 2, (0, 0, 0, 0)), (87, .lload 11, 2, (0, 0, 0, 0)), (89, .lload 8, 2, (0, 0, 0, 0)), (91, .lsub, 1, (0, 0, 0, 0)), (92, .lload 8, 2, (0, 0, 0, 0)), (94, .lload 6, 2, (0, 0, 0, 0)), (96, .lsub, 1, (0, 0, 0, 0)), (97, .lcmp, 1, (0, 0, 0, 0)), (98, .ifCond .eq 6, 3, (104, 0, 0, 0)), (101, .iinc 5 1, 3, (0, 0, 0, 0)), (104, .lload 8, 2, (0, 0, 0, 0)), (106, .lstore 6, 2, (0, 0, 0, 0)), (108, .lload 11, 2, (0, 0, 0, 0)), (110, .lstore 8, 2, (0, 0, 0, 0)), (112, .iinc 10 1, 3, (0, 0, 0, 0)), (115, .goto (-49), 3, (66, 0, 0, 0)), (118, .iload 5, 2, (0, 0, 0, 0)), (120, .ireturn, 1, (0, 0, 0, 0))]
/-- EstateVessels like (I)I -/
def zc_61 : List (Nat × Instr × Nat × zRes) := [(0, .iload_n 1, 1, (0, 0, 0, 0)), (1, .invokestatic 102, 3, (86, 0, 336, 0)), (4, .ifCond .ne 6, 3, (10, 0, 0, 0)), (7, .bipush (-2), 2, (0, 0, 0, 0)), (9, .ireturn, 1, (0, 0, 0, 0)), (10, .aload_n 0, 1, (0, 0, 0, 0)), (11, .getfield 12, 3, (7, 0, 261, 0)), (14, .invokevirtual 112, 3, (16, 0, 351, 0)), (17, .ifCond .eq 14, 3, (31, 0, 0, 0)), (20, .aload_n 0, 1, (0, 0, 0, 0)), (21, .getfield 12, 3, (7, 0, 261, 0)), (24, .iload_n 1, 1, (0, 0, 0, 0)), (25, .invokevirtual 192, 3, (20, 0, 493, 0)), (28, .goto 5, 3, (33, 0, 0, 0)), (31, .bipush (-3), 2, (0, 0, 0, 0)), (33, .ireturn, 1, (0, 0, 0, 0))]
/-- EstateVessels sore (II)I -/
def zc_62 : List (Nat × Instr × Nat × zRes) := [(0, .iload_n 1, 1, (0, 0, 0, 0)), (1, .invokestatic 102, 3, (86, 0, 336, 0)), (4, .ifCond .ne 6, 3, (10, 0, 0, 0)), (7, .bipush (-2), 2, (0, 0, 0, 0)), (9, .ireturn, 1, (0, 0, 0, 0)), (10, .aload_n 0, 1, (0, 0, 0, 0)), (11, .getfield 12, 3, (7, 0, 261, 0)), (14, .getfield 75, 3, (3, 0, 109, 0)), (17, .iload_n 2, 1, (0, 0, 0, 0)), (18, .invokevirtual 85, 3, (1, 0, 307, 0)), (21, .ifCond .ne 5, 3, (26, 0, 0, 0)), (24, .iconst (-1), 1, (0, 0, 0, 0)), (25, .ireturn, 1, (0, 0, 0, 0)), (26, .aload_n 0, 1, (0, 0, 0, 0)), (27, .getfield 12, 3, (7, 0, 261, 0)), (30, .invokevirtual 112, 3, (16, 0, 351, 0)), (33, .ifCond .eq 15, 3, (48, 0, 0, 0)), (36, .aload_n 0, 1, (0, 0, 0, 0)), (37, .getfield 12, 3, (7, 0, 261, 0)), (40, .iload_n 1, 1, (0, 0, 0, 0)), (41, .iload_n 2, 1, (0, 0, 0, 0)), (42, .invokevirtual 195, 3, (22, 0, 505, 0)), (45, .goto 5, 3, (50, 0, 0, 0)), (48, .bipush (-3), 2, (0, 0, 0, 0)), (50, .ireturn, 1, (0, 0, 0, 0))]
/-- EstateVessels poured (III)J -/
def zc_63 : List (Nat × Instr × Nat × zRes) := [(0, .iload_n 1, 1, (0, 0, 0, 0)), (1, .iload_n 2, 1, (0, 0, 0, 0)), (2, .invokestatic 198, 3, (88, 0, 517, 0)), (5, .ifCond .eq 13, 3, (18, 0, 0, 0)), (8, .aload_n 0, 1, (0, 0, 0, 0)), (9, .getfield 12, 3, (7, 0, 261, 0)), (12, .invokevirtual 112, 3, (16, 0, 351, 0)), (15, .ifCond .ne 7, 3, (22, 0, 0, 0)), (18, .ldc2_w 157, 3, (0, 0, 395, -9223372036854775808)), (21, .lreturn, 1, (0, 0, 0, 0)), (22, .iload_n 3, 1, (0, 0, 0, 0)), (23, .iconst (-1), 1, (0, 0, 0, 0)), (24, .if_icmp .eq 21, 3, (45, 0, 0, 0)), (27, .aload_n 0, 1, (0, 0, 0, 0)), (28, .getfield 12, 3, (7, 0, 261, 0)), (31, .getfield 75, 3, (3, 0, 109, 0)), (34, .iload_n 3, 1, (0, 0, 0, 0)), (35, .invokevirtual 85, 3, (1, 0, 307, 0)), (38, .ifCond .ne 7, 3, (45, 0, 0, 0)), (41, .ldc2_w 157, 3, (0, 0, 395, -9223372036854775808)), (44, .lreturn, 1, (0, 0, 0, 0)), (45, .aload_n 0, 1, (0, 0, 0, 0)), (46, .getfield 31, 3, (7, 3, 264, 0)), (49, .aload_n 0, 1, (0, 0, 0, 0)), (50, .getfield 12, 3, (7, 0, 261, 0)), (53, .iload_n 1, 1, (0, 0, 0, 0)), (54, .iload_n 2, 1, (0, 0, 0, 0)), (55, .invokevirtual 202, 3, (36, 0, 520, 0)), (58, .iload_n 3, 1, (0, 0, 0, 0)), (59, .iconst (-1), 1, (0, 0, 0, 0)), (60, .if_icmp .ne 13, 3, (73, 0, 0, 0)), (63, .aload_n 0, 1, (0, 0, 0, 0)), (64, .getfield 31, 3, (7, 3, 264, 0)), (67, .getfield 206, 3, (6, 4, 140, 0)), (70, .goto 12, 3, (82, 0, 0, 0)), (73, .aload_n 0, 1, (0, 0, 0, 0)), (74, .getfield 31, 3, (7, 3, 264, 0)), (77, .getfield 210, 3, (6, 0, 135, 0)), (80, .iload_n 3, 1, (0, 0, 0, 0)), (81, .faload, 1, (0, 0, 0, 0)), (82, .fstore 4, 2, (0, 0, 0, 0)), (84, .fload 4, 2, (0, 0, 0, 0)), (86, .f2d, 1, (0, 0, 0, 0)), (87, .bipush 127, 2, (0, 0, 0, 0)), (89, .bipush 23, 2, (0, 0, 0, 0)), (91, .invokestatic 214, 3, (92, 0, 541, 0)), (94, .lreturn, 1, (0, 0, 0, 0))]
/-- EstateVessels gap (III)J -/
def zc_64 : List (Nat × Instr × Nat × zRes) := [(0, .iload_n 1, 1, (0, 0, 0, 0)), (1, .iload_n 2, 1, (0, 0, 0, 0)), (2, .invokestatic 198, 3, (88, 0, 517, 0)), (5, .ifCond .eq 20, 3, (25, 0, 0, 0)), (8, .iload_n 3, 1, (0, 0, 0, 0)), (9, .invokestatic 154, 3, (87, 0, 392, 0)), (12, .ifCond .eq 13, 3, (25, 0, 0, 0)), (15, .aload_n 0, 1, (0, 0, 0, 0)), (16, .getfield 12, 3, (7, 0, 261, 0)), (19, .invokevirtual 112, 3, (16, 0, 351, 0)), (22, .ifCond .ne 7, 3, (29, 0, 0, 0)), (25, .ldc2_w 157, 3, (0, 0, 395, -9223372036854775808)), (28, .lreturn, 1, (0, 0, 0, 0)), (29, .aload_n 0, 1, (0, 0, 0, 0)), (30, .getfield 31, 3, (7, 3, 264, 0)), (33, .aload_n 0, 1, (0, 0, 0, 0)), (34, .getfield 12, 3, (7, 0, 261, 0)), (37, .iload_n 1, 1, (0, 0, 0, 0)), (38, .iload_n 2, 1, (0, 0, 0, 0)), (39, .invokevirtual 202, 3, (36, 0, 520, 0)), (42, .aload_n 0, 1, (0, 0, 0, 0)), (43, .iload_n 1, 1, (0, 0, 0, 0)), (44, .invokevirtual 218, 3, (65, 0, 550, 0)), (47, .sipush 1023, 3, (0, 0, 0, 0)), (50, .bipush 52, 2, (0, 0, 0, 0)), (52, .invokestatic 214, 3, (92, 0, 541, 0)), (55, .lstore 4, 2, (0, 0, 0, 0)), (57, .iload_n 3, 1, (0, 0, 0, 0)), (58, .ifCond .ne 11, 3, (69, 0, 0, 0)), (61, .lload 4, 2, (0, 0, 0, 0)), (63, .bipush 32, 2, (0, 0, 0, 0)), (65, .lushr, 1, (0, 0, 0, 0)), (66, .goto 9, 3, (75, 0, 0, 0)), (69, .lload 4, 2, (0, 0, 0, 0)), (71, .ldc2_w 222, 3, (0, 0, 554, 4294967295)), (74, .land, 1, (0, 0, 0, 0)), (75, .lreturn, 1, (0, 0, 0, 0))]
/-- EstateVessels widestGap (I)D -/
def zc_65 : List (Nat × Instr × Nat × zRes) := [(0, .dconst 0, 1, (0, 0, 0, 0)), (1, .dstore_n 2, 1, (0, 0, 0, 0)), (2, .aload_n 0, 1, (0, 0, 0, 0)), (3, .getfield 12, 3, (7, 0, 261, 0)), (6, .getfield 75, 3, (3, 0, 109, 0)), (9, .iload_n 1, 1, (0, 0, 0, 0)), (10, .invokevirtual 166, 3, (7, 0, 452, 0)), (13, .l2d, 1, (0, 0, 0, 0)), (14, .dstore 4, 2, (0, 0, 0, 0)), (16, .iconst 0, 1, (0, 0, 0, 0)), (17, .istore 6, 2, (0, 0, 0, 0)), (19, .iload 6, 2, (0, 0, 0, 0)), (21, .aload_n 0, 1, (0, 0, 0, 0)), (22, .getfield 12, 3, (7, 0, 261, 0)), (25, .getfield 75, 3, (3, 0, 109, 0)), (28, .getfield 78, 3, (0, 3, 95, 0)), (31, .if_icmp .ge 84, 3, (115, 0, 0, 0)), (34, .aload_n 0, 1, (0, 0, 0, 0)), (35, .getfield 12, 3, (7, 0, 261, 0)), (38, .getfield 75, 3, (3, 0, 109, 0)), (41, .iload_n 1, 1, (0, 0, 0, 0)), (42, .iload 6, 2, (0, 0, 0, 0)), (44, .aload_n 0, 1, (0, 0, 0, 0)), (45, .getfield 12, 3, (7, 0, 261, 0)), (48, .getfield 99, 3, (3, 2, 113, 0)), (51, .i2l, 1, (0, 0, 0, 0)), (52, .lconst 1, 1, (0, 0, 0, 0)), (53, .invokevirtual 170, 3, (8, 0, 453, 0)), (56, .l2d, 1, (0, 0, 0, 0)), (57, .dload 4, 2, (0, 0, 0, 0)), (59, .ddiv, 1, (0, 0, 0, 0)), (60, .dstore 7, 2, (0, 0, 0, 0)), (62, .aload_n 0, 1, (0, 0, 0, 0)), (63, .getfield 31, 3, (7, 3, 264, 0)), (66, .getfield 210, 3, (6, 0, 135, 0)), (69, .iload 6, 2, (0, 0, 0, 0)), (71, .faload, 1, (0, 0, 0, 0)), (72, .f2d, 1, (0, 0, 0, 0)), (73, .dload 7, 2, (0, 0, 0, 0)), (75, .dsub, 1, (0, 0, 0, 0)), (76, .dstore 9, 2, (0, 0, 0, 0)), (78, .dload 9, 2, (0, 0, 0, 0)), (80, .dconst 0, 1, (0, 0, 0, 0)), (81, .dcmp .g, 1, (0, 0, 0, 0)), (82, .ifCond .ge 9, 3, (91, 0, 0, 0)), (85, .dload 9, 2, (0, 0, 0, 0)), (87, .dneg, 1, (0, 0, 0, 0)), (88, .goto 5, 3, (93, 0, 0, 0)), (91, .dload 9, 2, (0, 0, 0, 0)), (93, .dstore 11, 2, (0, 0, 0, 0)), (95, .dload 11, 2, (0, 0, 0, 0)), (97, .dload_n 2, 1, (0, 0, 0, 0)), (98, .dcmp .l, 1, (0, 0, 0, 0)), (99, .ifCond .le 8, 3, (107, 0, 0, 0)), (102, .dload 11, 2, (0, 0, 0, 0)), (104, .goto 4, 3, (108, 0, 0, 0)), (107, .dload_n 2, 1, (0, 0, 0, 0)), (108, .dstore_n 2, 1, (0, 0, 0, 0)), (109, .iinc 6 1, 3, (0, 0, 0, 0)), (112, .goto (-93), 3, (19, 0, 0, 0)), (115, .dload_n 2, 1, (0, 0, 0, 0)), (116, .dreturn, 1, (0, 0, 0, 0))]
/-- EstateVessels see (II)I -/
def zc_66 : List (Nat × Instr × Nat × zRes) := [(0, .aload_n 0, 1, (0, 0, 0, 0)), (1, .aload_n 0, 1, (0, 0, 0, 0)), (2, .getfield 40, 3, (7, 4, 265, 0)), (5, .iload_n 1, 1, (0, 0, 0, 0)), (6, .iload_n 2, 1, (0, 0, 0, 0)), (7, .invokevirtual 224, 3, (67, 0, 559, 0)), (10, .ireturn, 1, (0, 0, 0, 0))]
/-- EstateVessels tell (LEstateVessels$Rows;II)I -/
def zc_67 : List (Nat × Instr × Nat × zRes) := [(0, .iload_n 2, 1, (0, 0, 0, 0)), (1, .iconst (-1), 1, (0, 0, 0, 0)), (2, .if_icmp .ne 10, 3, (12, 0, 0, 0)), (5, .aload_n 1, 1, (0, 0, 0, 0)), (6, .iconst 0, 1, (0, 0, 0, 0)), (7, .putfield 228, 3, (2, 3, 165, 0)), (10, .iconst 0, 1, (0, 0, 0, 0)), (11, .ireturn, 1, (0, 0, 0, 0)), (12, .aload_n 0, 1, (0, 0, 0, 0)), (13, .getfield 12, 3, (7, 0, 261, 0)), (16, .getfield 75, 3, (3, 0, 109, 0)), (19, .iload_n 2, 1, (0, 0, 0, 0)), (20, .invokevirtual 85, 3, (1, 0, 307, 0)), (23, .ifCond .ne 5, 3, (28, 0, 0, 0)), (26, .iconst (-1), 1, (0, 0, 0, 0)), (27, .ireturn, 1, (0, 0, 0, 0)), (28, .iload_n 3, 1, (0, 0, 0, 0)), (29, .ifCond .lt 9, 3, (38, 0, 0, 0)), (32, .iload_n 3, 1, (0, 0, 0, 0)), (33, .bipush 60, 2, (0, 0, 0, 0)), (35, .if_icmp .le 8, 3, (43, 0, 0, 0)), (38, .bipush (-2), 2, (0, 0, 0, 0)), (40, .goto 9, 3, (49, 0, 0, 0)), (43, .aload_n 1, 1, (0, 0, 0, 0)), (44, .iload_n 2, 1, (0, 0, 0, 0)), (45, .iload_n 3, 1, (0, 0, 0, 0)), (46, .invokevirtual 229, 3, (13, 0, 563, 0)), (49, .ireturn, 1, (0, 0, 0, 0))]
/-- EstateVessels fits (II)I -/
def zc_68 : List (Nat × Instr × Nat × zRes) := [(0, .aload_n 0, 1, (0, 0, 0, 0)), (1, .getfield 12, 3, (7, 0, 261, 0)), (4, .getfield 75, 3, (3, 0, 109, 0)), (7, .iload_n 1, 1, (0, 0, 0, 0)), (8, .invokevirtual 85, 3, (1, 0, 307, 0)), (11, .ifCond .eq 12, 3, (23, 0, 0, 0)), (14, .iload_n 2, 1, (0, 0, 0, 0)), (15, .ifCond .eq 10, 3, (25, 0, 0, 0)), (18, .iload_n 2, 1, (0, 0, 0, 0)), (19, .iconst 1, 1, (0, 0, 0, 0)), (20, .if_icmp .eq 5, 3, (25, 0, 0, 0)), (23, .iconst (-1), 1, (0, 0, 0, 0)), (24, .ireturn, 1, (0, 0, 0, 0)), (25, .iconst 0, 1, (0, 0, 0, 0)), (26, .istore_n 3, 1, (0, 0, 0, 0)), (27, .bipush (-5), 2, (0, 0, 0, 0)), (29, .istore 4, 2, (0, 0, 0, 0)), (31, .aload_n 0, 1, (0, 0, 0, 0)), (32, .getfield 18, 3, (7, 1, 262, 0)), (35, .aload_n 0, 1, (0, 0, 0, 0)), (36, .getfield 12, 3, (7, 0, 261, 0)), (39, .invokevirtual 188, 3, (17, 0, 476, 0)), (42, .iconst 1, 1, (0, 0, 0, 0)), (43, .istore 5, 2, (0, 0, 0, 0)), (45, .iload 5, 2, (0, 0, 0, 0)), (47, .bipush 30, 2, (0, 0, 0, 0)), (49, .if_icmp .gt 62, 3, (111, 0, 0, 0)), (52, .aload_n 0, 1, (0, 0, 0, 0)), (53, .getfield 18, 3, (7, 1, 262, 0)), (56, .getfield 75, 3, (3, 0, 109, 0)), (59, .iload_n 1, 1, (0, 0, 0, 0)), (60, .iload 5, 2, (0, 0, 0, 0)), (62, .invokevirtual 92, 3, (5, 0, 311, 0)), (65, .aload_n 0, 1, (0, 0, 0, 0)), (66, .getfield 18, 3, (7, 1, 262, 0)), (69, .invokevirtual 112, 3, (16, 0, 351, 0)), (72, .ifCond .eq 33, 3, (105, 0, 0, 0)), (75, .aload_n 0, 1, (0, 0, 0, 0)), (76, .getfield 18, 3, (7, 1, 262, 0)), (79, .aload_n 0, 1, (0, 0, 0, 0)), (80, .getfield 40, 3, (7, 4, 265, 0)), (83, .invokestatic 231, 3, (69, 0, 571, 0)), (86, .ifCond .ge 19, 3, (105, 0, 0, 0)), (89, .iload_n 3, 1, (0, 0, 0, 0)), (90, .ifCond .ne 8, 3, (98, 0, 0, 0)), (93, .iload 5, 2, (0, 0, 0, 0)), (95, .goto 5, 3, (100, 0, 0, 0)), (98, .iload 4, 2, (0, 0, 0, 0)), (100, .istore 4, 2, (0, 0, 0, 0)), (102, .iinc 3 1, 3, (0, 0, 0, 0)), (105, .iinc 5 1, 3, (0, 0, 0, 0)), (108, .goto (-63), 3, (45, 0, 0, 0)), (111, .iload_n 2, 1, (0, 0, 0, 0)), (112, .ifCond .ne 7, 3, (119, 0, 0, 0)), (115, .iload_n 3, 1, (0, 0, 0, 0)), (116, .goto 5, 3, (121, 0, 0, 0)), (119, .iload 4, 2, (0, 0, 0, 0)), (121, .ireturn, 1, (0, 0, 0, 0))]
/-- EstateVessels firstOtherwise (LEstateVessels$Setup;LEstateVessels$Rows;)I -/
def zc_69 : List (Nat × Instr × Nat × zRes) := [(0, .iconst 0, 1, (0, 0, 0, 0)), (1, .istore_n 2, 1, (0, 0, 0, 0)), (2, .iload_n 2, 1, (0, 0, 0, 0)), (3, .aload_n 1, 1, (0, 0, 0, 0)), (4, .getfield 228, 3, (2, 3, 165, 0)), (7, .if_icmp .ge 34, 3, (41, 0, 0, 0)), (10, .aload_n 0, 1, (0, 0, 0, 0)), (11, .aload_n 0, 1, (0, 0, 0, 0)), (12, .getfield 105, 3, (3, 3, 115, 0)), (15, .aload_n 1, 1, (0, 0, 0, 0)), (16, .getfield 235, 3, (2, 0, 160, 0)), (19, .iload_n 2, 1, (0, 0, 0, 0)), (20, .iaload, 1, (0, 0, 0, 0)), (21, .invokevirtual 163, 3, (19, 0, 444, 0)), (24, .aload_n 1, 1, (0, 0, 0, 0)), (25, .getfield 238, 3, (2, 1, 162, 0)), (28, .iload_n 2, 1, (0, 0, 0, 0)), (29, .iaload, 1, (0, 0, 0, 0)), (30, .if_icmp .eq 5, 3, (35, 0, 0, 0)), (33, .iload_n 2, 1, (0, 0, 0, 0)), (34, .ireturn, 1, (0, 0, 0, 0)), (35, .iinc 2 1, 3, (0, 0, 0, 0)), (38, .goto (-36), 3, (2, 0, 0, 0)), (41, .bipush (-5), 2, (0, 0, 0, 0)), (43, .ireturn, 1, (0, 0, 0, 0))]
/-- EstateVessels odds (III)J -/
def zc_70 : List (Nat × Instr × Nat × zRes) := [(0, .iload_n 1, 1, (0, 0, 0, 0)), (1, .invokestatic 102, 3, (86, 0, 336, 0)), (4, .ifCond .eq 24, 3, (28, 0, 0, 0)), (7, .aload_n 0, 1, (0, 0, 0, 0)), (8, .getfield 12, 3, (7, 0, 261, 0)), (11, .getfield 75, 3, (3, 0, 109, 0)), (14, .iload_n 2, 1, (0, 0, 0, 0)), (15, .invokevirtual 85, 3, (1, 0, 307, 0)), (18, .ifCond .eq 10, 3, (28, 0, 0, 0)), (21, .iload_n 3, 1, (0, 0, 0, 0)), (22, .invokestatic 154, 3, (87, 0, 392, 0)), (25, .ifCond .ne 7, 3, (32, 0, 0, 0)), (28, .ldc2_w 157, 3, (0, 0, 395, -9223372036854775808)), (31, .lreturn, 1, (0, 0, 0, 0)), (32, .aload_n 0, 1, (0, 0, 0, 0)), (33, .getfield 12, 3, (7, 0, 261, 0)), (36, .getfield 75, 3, (3, 0, 109, 0)), (39, .astore 4, 2, (0, 0, 0, 0)), (41, .aload 4, 2, (0, 0, 0, 0)), (43, .invokevirtual 108, 3, (2, 0, 347, 0)), (46, .istore 5, 2, (0, 0, 0, 0)), (48, .aload 4, 2, (0, 0, 0, 0)), (50, .getfield 88, 3, (0, 0, 88, 0)), (53, .iload_n 2, 1, (0, 0, 0, 0)), (54, .iaload, 1, (0, 0, 0, 0)), (55, .i2l, 1, (0, 0, 0, 0)), (56, .aload 4, 2, (0, 0, 0, 0)), (58, .iload_n 1, 1, (0, 0, 0, 0)), (59, .invokevirtual 166, 3, (7, 0, 452, 0)), (62, .lmul, 1, (0, 0, 0, 0)), (63, .lstore 6, 2, (0, 0, 0, 0)), (65, .iconst 0, 1, (0, 0, 0, 0)), (66, .istore 8, 2, (0, 0, 0, 0)), (68, .iconst 0, 1, (0, 0, 0, 0)), (69, .istore 9, 2, (0, 0, 0, 0)), (71, .iload 9, 2, (0, 0, 0, 0)), (73, .iload 5, 2, (0, 0, 0, 0)), (75, .if_icmp .gt 33, 3, (108, 0, 0, 0)), (78, .ldc2_w 241, 3, (0, 0, 578, 2)), (81, .aload 4, 2, (0, 0, 0, 0)), (83, .iload_n 1, 1, (0, 0, 0, 0)), (84, .iload_n 2, 1, (0, 0, 0, 0)), (85, .iload 9, 2, (0, 0, 0, 0)), (87, .i2l, 1, (0, 0, 0, 0)), (88, .lconst 1, 1, (0, 0, 0, 0)), (89, .invokevirtual 170, 3, (8, 0, 453, 0)), (92, .lmul, 1, (0, 0, 0, 0)), (93, .lload 6, 2, (0, 0, 0, 0)), (95, .lcmp, 1, (0, 0, 0, 0)), (96, .ifCond .lt 6, 3, (102, 0, 0, 0)), (99, .iinc 8 1, 3, (0, 0, 0, 0)), (102, .iinc 9 1, 3, (0, 0, 0, 0)), (105, .goto (-34), 3, (71, 0, 0, 0)), (108, .iload 8, 2, (0, 0, 0, 0)), (110, .i2l, 1, (0, 0, 0, 0)), (111, .iload 5, 2, (0, 0, 0, 0)), (113, .iconst 1, 1, (0, 0, 0, 0)), (114, .iadd, 1, (0, 0, 0, 0)), (115, .i2l, 1, (0, 0, 0, 0)), (116, .iload_n 3, 1, (0, 0, 0, 0)), (117, .invokestatic 174, 3, (90, 0, 454, 0)), (120, .lreturn, 1, (0, 0, 0, 0))]
/-- EstateVessels mean (I)J -/
def zc_71 : List (Nat × Instr × Nat × zRes) := [(0, .iload_n 1, 1, (0, 0, 0, 0)), (1, .invokestatic 154, 3, (87, 0, 392, 0)), (4, .ifCond .eq 17, 3, (21, 0, 0, 0)), (7, .aload_n 0, 1, (0, 0, 0, 0)), (8, .getfield 12, 3, (7, 0, 261, 0)), (11, .getfield 75, 3, (3, 0, 109, 0)), (14, .getfield 78, 3, (0, 3, 95, 0)), (17, .iconst 1, 1, (0, 0, 0, 0)), (18, .if_icmp .ge 7, 3, (25, 0, 0, 0)), (21, .ldc2_w 157, 3, (0, 0, 395, -9223372036854775808)), (24, .lreturn, 1, (0, 0, 0, 0)), (25, .aload_n 0, 1, (0, 0, 0, 0)), (26, .getfield 12, 3, (7, 0, 261, 0)), (29, .getfield 99, 3, (3, 2, 113, 0)), (32, .i2l, 1, (0, 0, 0, 0)), (33, .aload_n 0, 1, (0, 0, 0, 0)), (34, .getfield 12, 3, (7, 0, 261, 0)), (37, .getfield 75, 3, (3, 0, 109, 0)), (40, .getfield 78, 3, (0, 3, 95, 0)), (43, .i2l, 1, (0, 0, 0, 0)), (44, .iload_n 1, 1, (0, 0, 0, 0)), (45, .invokestatic 174, 3, (90, 0, 454, 0)), (48, .lreturn, 1, (0, 0, 0, 0))]
/-- EstateVessels event (II)I -/
def zc_72 : List (Nat × Instr × Nat × zRes) := [(0, .iload_n 1, 1, (0, 0, 0, 0)), (1, .iconst (-1), 1, (0, 0, 0, 0)), (2, .if_icmp .ne 13, 3, (15, 0, 0, 0)), (5, .aload_n 0, 1, (0, 0, 0, 0)), (6, .getfield 44, 3, (7, 5, 266, 0)), (9, .iconst 0, 1, (0, 0, 0, 0)), (10, .putfield 228, 3, (2, 3, 165, 0)), (13, .iconst 0, 1, (0, 0, 0, 0)), (14, .ireturn, 1, (0, 0, 0, 0)), (15, .iload_n 1, 1, (0, 0, 0, 0)), (16, .ifCond .lt 27, 3, (43, 0, 0, 0)), (19, .iload_n 1, 1, (0, 0, 0, 0)), (20, .iconst 3, 1, (0, 0, 0, 0)), (21, .if_icmp .gt 22, 3, (43, 0, 0, 0)), (24, .iload_n 1, 1, (0, 0, 0, 0)), (25, .iconst 2, 1, (0, 0, 0, 0)), (26, .if_icmp .ge 19, 3, (45, 0, 0, 0)), (29, .aload_n 0, 1, (0, 0, 0, 0)), (30, .getfield 12, 3, (7, 0, 261, 0)), (33, .getfield 75, 3, (3, 0, 109, 0)), (36, .iload_n 2, 1, (0, 0, 0, 0)), (37, .invokevirtual 85, 3, (1, 0, 307, 0)), (40, .ifCond .ne 5, 3, (45, 0, 0, 0)), (43, .iconst (-1), 1, (0, 0, 0, 0)), (44, .ireturn, 1, (0, 0, 0, 0)), (45, .iload_n 1, 1, (0, 0, 0, 0)), (46, .iconst 2, 1, (0, 0, 0, 0)), (47, .if_icmp .ne 10, 3, (57, 0, 0, 0)), (50, .iload_n 2, 1, (0, 0, 0, 0)), (51, .invokestatic 102, 3, (86, 0, 336, 0)), (54, .ifCond .eq 15, 3, (69, 0, 0, 0)), (57, .iload_n 1, 1, (0, 0, 0, 0)), (58, .iconst 3, 1, (0, 0, 0, 0)), (59, .if_icmp .ne 13, 3, (72, 0, 0, 0)), (62, .iload_n 2, 1, (0, 0, 0, 0)), (63, .invokestatic 96, 3, (85, 0, 329, 0)), (66, .ifCond .ne 6, 3, (72, 0, 0, 0)), (69, .bipush (-2), 2, (0, 0, 0, 0)), (71, .ireturn, 1, (0, 0, 0, 0)), (72, .aload_n 0, 1, (0, 0, 0, 0)), (73, .getfield 44, 3, (7, 5, 266, 0)), (76, .iload_n 1, 1, (0, 0, 0, 0)), (77, .iload_n 2, 1, (0, 0, 0, 0)), (78, .invokevirtual 229, 3, (13, 0, 563, 0)), (81, .ireturn, 1, (0, 0, 0, 0))]
/-- EstateVessels after (I)J -/
def zc_73 : List (Nat × Instr × Nat × zRes) := [(0, .iload_n 1, 1, (0, 0, 0, 0)), (1, .ifCond .lt 8, 3, (9, 0, 0, 0)), (4, .iload_n 1, 1, (0, 0, 0, 0)), (5, .iconst 2, 1, (0, 0, 0, 0)), (6, .if_icmp .le 7, 3, (13, 0, 0, 0)), (9, .ldc2_w 157, 3, (0, 0, 395, -9223372036854775808)), (12, .lreturn, 1, (0, 0, 0, 0)), (13, .aload_n 0, 1, (0, 0, 0, 0)), (14, .getfield 18, 3, (7, 1, 262, 0)), (17, .aload_n 0, 1, (0, 0, 0, 0)), (18, .getfield 12, 3, (7, 0, 261, 0)), (21, .invokevirtual 188, 3, (17, 0, 476, 0)), (24, .iconst 0, 1, (0, 0, 0, 0)), (25, .istore_n 2, 1, (0, 0, 0, 0)), (26, .iload_n 2, 1, (0, 0, 0, 0)), (27, .aload_n 0, 1, (0, 0, 0, 0)), (28, .getfield 44, 3, (7, 5, 266, 0)), (31, .getfield 228, 3, (2, 3, 165, 0)), (34, .if_icmp .ge 34, 3, (68, 0, 0, 0)), (37, .aload_n 0, 1, (0, 0, 0, 0)), (38, .getfield 18, 3, (7, 1, 262, 0)), (41, .aload_n 0, 1, (0, 0, 0, 0)), (42, .getfield 44, 3, (7, 5, 266, 0)), (45, .getfield 235, 3, (2, 0, 160, 0)), (48, .iload_n 2, 1, (0, 0, 0, 0)), (49, .iaload, 1, (0, 0, 0, 0)), (50, .aload_n 0, 1, (0, 0, 0, 0)), (51, .getfield 44, 3, (7, 5, 266, 0)), (54, .getfield 238, 3, (2, 1, 162, 0)), (57, .iload_n 2, 1, (0, 0, 0, 0)), (58, .iaload, 1, (0, 0, 0, 0)), (59, .invokevirtual 243, 3, (24, 0, 591, 0)), (62, .iinc 2 1, 3, (0, 0, 0, 0)), (65, .goto (-39), 3, (26, 0, 0, 0)), (68, .aload_n 0, 1, (0, 0, 0, 0)), (69, .getfield 18, 3, (7, 1, 262, 0)), (72, .invokevirtual 112, 3, (16, 0, 351, 0)), (75, .ifCond .ne 7, 3, (82, 0, 0, 0)), (78, .ldc2_w 157, 3, (0, 0, 395, -9223372036854775808)), (81, .lreturn, 1, (0, 0, 0, 0)), (82, .iload_n 1, 1, (0, 0, 0, 0)), (83, .iconst 2, 1, (0, 0, 0, 0)), (84, .if_icmp .ne 21, 3, (105, 0, 0, 0)), (87, .aload_n 0, 1, (0, 0, 0, 0)), (88, .getfield 18, 3, (7, 1, 262, 0)), (91, .aload_n 0, 1, (0, 0, 0, 0)), (92, .getfield 18, 3, (7, 1, 262, 0)), (95, .getfield 105, 3, (3, 3, 115, 0)), (98, .invokevirtual 192, 3, (20, 0, 493, 0)), (101, .i2l, 1, (0, 0, 0, 0)), (102, .goto 19, 3, (121, 0, 0, 0)), (105, .aload_n 0, 1, (0, 0, 0, 0)), (106, .getfield 18, 3, (7, 1, 262, 0)), (109, .aload_n 0, 1, (0, 0, 0, 0)), (110, .getfield 18, 3, (7, 1, 262, 0)), (113, .getfield 105, 3, (3, 3, 115, 0)), (116, .iconst 0, 1, (0, 0, 0, 0)), (117, .iload_n 1, 1, (0, 0, 0, 0)), (118, .invokevirtual 159, 3, (18, 0, 396, 0)), (121, .lreturn, 1, (0, 0, 0, 0))]
/-- EstateVessels book (II)I -/
def zc_74 : List (Nat × Instr × Nat × zRes) := [(0, .aload_n 0, 1, (0, 0, 0, 0)), (1, .aload_n 0, 1, (0, 0, 0, 0)), (2, .getfield 47, 3, (7, 6, 267, 0)), (5, .iload_n 1, 1, (0, 0, 0, 0)), (6, .iload_n 2, 1, (0, 0, 0, 0)), (7, .invokevirtual 224, 3, (67, 0, 559, 0)), (10, .ireturn, 1, (0, 0, 0, 0))]
/-- EstateVessels looked ()I -/
def zc_75 : List (Nat × Instr × Nat × zRes) := [(0, .aload_n 0, 1, (0, 0, 0, 0)), (1, .getfield 12, 3, (7, 0, 261, 0)), (4, .invokevirtual 112, 3, (16, 0, 351, 0)), (7, .ifCond .eq 17, 3, (24, 0, 0, 0)), (10, .aload_n 0, 1, (0, 0, 0, 0)), (11, .getfield 12, 3, (7, 0, 261, 0)), (14, .aload_n 0, 1, (0, 0, 0, 0)), (15, .getfield 47, 3, (7, 6, 267, 0)), (18, .invokestatic 231, 3, (69, 0, 571, 0)), (21, .goto 5, 3, (26, 0, 0, 0)), (24, .bipush (-3), 2, (0, 0, 0, 0)), (26, .ireturn, 1, (0, 0, 0, 0))]
/-- EstateVessels judge (II)I -/
def zc_76 : List (Nat × Instr × Nat × zRes) := [(0, .iload_n 1, 1, (0, 0, 0, 0)), (1, .invokestatic 246, 3, (89, 0, 612, 0)), (4, .ifCond .ne 5, 3, (9, 0, 0, 0)), (7, .iconst (-1), 1, (0, 0, 0, 0)), (8, .ireturn, 1, (0, 0, 0, 0)), (9, .aload_n 0, 1, (0, 0, 0, 0)), (10, .getfield 12, 3, (7, 0, 261, 0)), (13, .invokevirtual 112, 3, (16, 0, 351, 0)), (16, .ifCond .ne 6, 3, (22, 0, 0, 0)), (19, .bipush (-3), 2, (0, 0, 0, 0)), (21, .ireturn, 1, (0, 0, 0, 0)), (22, .aload_n 0, 1, (0, 0, 0, 0)), (23, .getfield 59, 3, (7, 8, 269, 0)), (26, .iload_n 1, 1, (0, 0, 0, 0)), (27, .aaload, 1, (0, 0, 0, 0)), (28, .astore_n 3, 1, (0, 0, 0, 0)), (29, .aload_n 3, 1, (0, 0, 0, 0)), (30, .getfield 249, 3, (4, 1, 251, 0)), (33, .iconst 3, 1, (0, 0, 0, 0)), (34, .if_icmp .eq 14, 3, (48, 0, 0, 0)), (37, .aload_n 3, 1, (0, 0, 0, 0)), (38, .getfield 249, 3, (4, 1, 251, 0)), (41, .iconst (-1), 1, (0, 0, 0, 0)), (42, .if_icmp .eq 6, 3, (48, 0, 0, 0)), (45, .bipush (-12), 2, (0, 0, 0, 0)), (47, .ireturn, 1, (0, 0, 0, 0)), (48, .aload_n 3, 1, (0, 0, 0, 0)), (49, .getfield 249, 3, (4, 1, 251, 0)), (52, .iconst (-1), 1, (0, 0, 0, 0)), (53, .if_icmp .eq 7, 3, (60, 0, 0, 0)), (56, .iload_n 2, 1, (0, 0, 0, 0)), (57, .ifCond .ge 6, 3, (63, 0, 0, 0)), (60, .bipush 100, 2, (0, 0, 0, 0)), (62, .ireturn, 1, (0, 0, 0, 0)), (63, .iconst 0, 1, (0, 0, 0, 0)), (64, .istore 4, 2, (0, 0, 0, 0)), (66, .iload 4, 2, (0, 0, 0, 0)), (68, .aload_n 0, 1, (0, 0, 0, 0)), (69, .getfield 12, 3, (7, 0, 261, 0)), (72, .getfield 75, 3, (3, 0, 109, 0)), (75, .getfield 78, 3, (0, 3, 95, 0)), (78, .if_icmp .ge 59, 3, (137, 0, 0, 0)), (81, .iload 4, 2, (0, 0, 0, 0)), (83, .aload_n 3, 1, (0, 0, 0, 0)), (84, .getfield 252, 3, (4, 2, 253, 0)), (87, .iload_n 2, 1, (0, 0, 0, 0)), (88, .isub, 1, (0, 0, 0, 0)), (89, .if_icmp .lt 9, 3, (98, 0, 0, 0)), (92, .bipush 100, 2, (0, 0, 0, 0)), (94, .iload 4, 2, (0, 0, 0, 0)), (96, .iadd, 1, (0, 0, 0, 0)), (97, .ireturn, 1, (0, 0, 0, 0)), (98, .aload_n 3, 1, (0, 0, 0, 0)), (99, .getfield 253, 3, (4, 0, 249, 0)), (102, .iload_n 2, 1, (0, 0, 0, 0)), (103, .iload 4, 2, (0, 0, 0, 0)), (105, .iadd, 1, (0, 0, 0, 0)), (106, .laload, 1, (0, 0, 0, 0)), (107, .aload_n 0, 1, (0, 0, 0, 0)), (108, .getfield 12, 3, (7, 0, 261, 0)), (111, .aload_n 0, 1, (0, 0, 0, 0)), (112, .getfield 12, 3, (7, 0, 261, 0)), (115, .getfield 105, 3, (3, 3, 115, 0)), (118, .iload 4, 2, (0, 0, 0, 0)), (120, .invokevirtual 163, 3, (19, 0, 444, 0)), (123, .i2l, 1, (0, 0, 0, 0)), (124, .lcmp, 1, (0, 0, 0, 0)), (125, .ifCond .eq 6, 3, (131, 0, 0, 0)), (128, .iload 4, 2, (0, 0, 0, 0)), (130, .ireturn, 1, (0, 0, 0, 0)), (131, .iinc 4 1, 3, (0, 0, 0, 0)), (134, .goto (-68), 3, (66, 0, 0, 0)), (137, .bipush (-5), 2, (0, 0, 0, 0)), (139, .ireturn, 1, (0, 0, 0, 0))]
/-- EstateVessels image ()I -/
def zc_77 : List (Nat × Instr × Nat × zRes) := [(0, .aload_n 0, 1, (0, 0, 0, 0)), (1, .getfield 66, 3, (7, 9, 270, 0)), (4, .iconst 1, 1, (0, 0, 0, 0)), (5, .putfield 257, 3, (1, 4, 231, 0)), (8, .aload_n 0, 1, (0, 0, 0, 0)), (9, .getfield 66, 3, (7, 9, 270, 0)), (12, .getfield 261, 3, (1, 0, 223, 0)), (15, .aload_n 0, 1, (0, 0, 0, 0)), (16, .getfield 12, 3, (7, 0, 261, 0)), (19, .invokevirtual 188, 3, (17, 0, 476, 0)), (22, .aload_n 0, 1, (0, 0, 0, 0)), (23, .getfield 66, 3, (7, 9, 270, 0)), (26, .getfield 262, 3, (1, 1, 225, 0)), (29, .aload_n 0, 1, (0, 0, 0, 0)), (30, .getfield 40, 3, (7, 4, 265, 0)), (33, .invokevirtual 263, 3, (14, 0, 619, 0)), (36, .aload_n 0, 1, (0, 0, 0, 0)), (37, .getfield 66, 3, (7, 9, 270, 0)), (40, .getfield 266, 3, (1, 2, 227, 0)), (43, .aload_n 0, 1, (0, 0, 0, 0)), (44, .getfield 44, 3, (7, 5, 266, 0)), (47, .invokevirtual 263, 3, (14, 0, 619, 0)), (50, .aload_n 0, 1, (0, 0, 0, 0)), (51, .getfield 66, 3, (7, 9, 270, 0)), (54, .getfield 267, 3, (1, 3, 229, 0)), (57, .aload_n 0, 1, (0, 0, 0, 0)), (58, .getfield 47, 3, (7, 6, 267, 0)), (61, .invokevirtual 263, 3, (14, 0, 619, 0)), (64, .aload_n 0, 1, (0, 0, 0, 0)), (65, .getfield 12, 3, (7, 0, 261, 0)), (68, .getfield 75, 3, (3, 0, 109, 0)), (71, .getfield 78, 3, (0, 3, 95, 0)), (74, .ireturn, 1, (0, 0, 0, 0))]
/-- EstateVessels undo ()I -/
def zc_78 : List (Nat × Instr × Nat × zRes) := [(0, .aload_n 0, 1, (0, 0, 0, 0)), (1, .getfield 66, 3, (7, 9, 270, 0)), (4, .getfield 257, 3, (1, 4, 231, 0)), (7, .ifCond .ne 6, 3, (13, 0, 0, 0)), (10, .bipush (-3), 2, (0, 0, 0, 0)), (12, .ireturn, 1, (0, 0, 0, 0)), (13, .aload_n 0, 1, (0, 0, 0, 0)), (14, .getfield 12, 3, (7, 0, 261, 0)), (17, .aload_n 0, 1, (0, 0, 0, 0)), (18, .getfield 66, 3, (7, 9, 270, 0)), (21, .getfield 261, 3, (1, 0, 223, 0)), (24, .invokevirtual 188, 3, (17, 0, 476, 0)), (27, .aload_n 0, 1, (0, 0, 0, 0)), (28, .getfield 40, 3, (7, 4, 265, 0)), (31, .aload_n 0, 1, (0, 0, 0, 0)), (32, .getfield 66, 3, (7, 9, 270, 0)), (35, .getfield 262, 3, (1, 1, 225, 0)), (38, .invokevirtual 263, 3, (14, 0, 619, 0)), (41, .aload_n 0, 1, (0, 0, 0, 0)), (42, .getfield 44, 3, (7, 5, 266, 0)), (45, .aload_n 0, 1, (0, 0, 0, 0)), (46, .getfield 66, 3, (7, 9, 270, 0)), (49, .getfield 266, 3, (1, 2, 227, 0)), (52, .invokevirtual 263, 3, (14, 0, 619, 0)), (55, .aload_n 0, 1, (0, 0, 0, 0)), (56, .getfield 47, 3, (7, 6, 267, 0)), (59, .aload_n 0, 1, (0, 0, 0, 0)), (60, .getfield 66, 3, (7, 9, 270, 0)), (63, .getfield 267, 3, (1, 3, 229, 0)), (66, .invokevirtual 263, 3, (14, 0, 619, 0)), (69, .aload_n 0, 1, (0, 0, 0, 0)), (70, .getfield 12, 3, (7, 0, 261, 0)), (73, .getfield 75, 3, (3, 0, 109, 0)), (76, .getfield 78, 3, (0, 3, 95, 0)), (79, .ireturn, 1, (0, 0, 0, 0))]
/-- EstateVessels count (I)I -/
def zc_79 : List (Nat × Instr × Nat × zRes) := [(0, .iload_n 1, 1, (0, 0, 0, 0)), (1, .tableswitch 63 0 3 #[31, 39, 47, 55], 31, (0, 0, 0, 0)), (32, .aload_n 0, 1, (0, 0, 0, 0)), (33, .getfield 40, 3, (7, 4, 265, 0)), (36, .getfield 228, 3, (2, 3, 165, 0)), (39, .ireturn, 1, (0, 0, 0, 0)), (40, .aload_n 0, 1, (0, 0, 0, 0)), (41, .getfield 44, 3, (7, 5, 266, 0)), (44, .getfield 228, 3, (2, 3, 165, 0)), (47, .ireturn, 1, (0, 0, 0, 0)), (48, .aload_n 0, 1, (0, 0, 0, 0)), (49, .getfield 47, 3, (7, 6, 267, 0)), (52, .getfield 228, 3, (2, 3, 165, 0)), (55, .ireturn, 1, (0, 0, 0, 0)), (56, .aload_n 0, 1, (0, 0, 0, 0)), (57, .getfield 53, 3, (7, 7, 268, 0)), (60, .getfield 116, 3, (5, 1, 184, 0)), (63, .ireturn, 1, (0, 0, 0, 0)), (64, .bipush (-2), 2, (0, 0, 0, 0)), (66, .ireturn, 1, (0, 0, 0, 0))]
/-- EstateVessels tape (III)I -/
def zc_80 : List (Nat × Instr × Nat × zRes) := [(0, .iload_n 1, 1, (0, 0, 0, 0)), (1, .invokestatic 246, 3, (89, 0, 612, 0)), (4, .ifCond .ne 5, 3, (9, 0, 0, 0)), (7, .iconst (-1), 1, (0, 0, 0, 0)), (8, .ireturn, 1, (0, 0, 0, 0)), (9, .iload_n 2, 1, (0, 0, 0, 0)), (10, .iconst (-1), 1, (0, 0, 0, 0)), (11, .if_icmp .ne 16, 3, (27, 0, 0, 0)), (14, .aload_n 0, 1, (0, 0, 0, 0)), (15, .getfield 59, 3, (7, 8, 269, 0)), (18, .iload_n 1, 1, (0, 0, 0, 0)), (19, .aaload, 1, (0, 0, 0, 0)), (20, .iconst (-1), 1, (0, 0, 0, 0)), (21, .iconst 0, 1, (0, 0, 0, 0)), (22, .invokevirtual 268, 3, (26, 0, 636, 0)), (25, .iconst 1, 1, (0, 0, 0, 0)), (26, .ireturn, 1, (0, 0, 0, 0)), (27, .iload_n 2, 1, (0, 0, 0, 0)), (28, .ifCond .lt 14, 3, (42, 0, 0, 0)), (31, .iload_n 2, 1, (0, 0, 0, 0)), (32, .iconst 5, 1, (0, 0, 0, 0)), (33, .if_icmp .ge 9, 3, (42, 0, 0, 0)), (36, .iload_n 3, 1, (0, 0, 0, 0)), (37, .bipush 60, 2, (0, 0, 0, 0)), (39, .if_icmp .le 6, 3, (45, 0, 0, 0)), (42, .bipush (-2), 2, (0, 0, 0, 0)), (44, .ireturn, 1, (0, 0, 0, 0)), (45, .iload_n 3, 1, (0, 0, 0, 0)), (46, .ifCond .ge 6, 3, (52, 0, 0, 0)), (49, .bipush (-14), 2, (0, 0, 0, 0)), (51, .ireturn, 1, (0, 0, 0, 0)), (52, .aload_n 0, 1, (0, 0, 0, 0)), (53, .getfield 59, 3, (7, 8, 269, 0)), (56, .iload_n 1, 1, (0, 0, 0, 0)), (57, .aaload, 1, (0, 0, 0, 0)), (58, .iload_n 2, 1, (0, 0, 0, 0)), (59, .iload_n 3, 1, (0, 0, 0, 0)), (60, .invokevirtual 268, 3, (26, 0, 636, 0)), (63, .iconst 1, 1, (0, 0, 0, 0)), (64, .ireturn, 1, (0, 0, 0, 0))]
/-- EstateVessels item (IIJ)I -/
def zc_81 : List (Nat × Instr × Nat × zRes) := [(0, .iload_n 1, 1, (0, 0, 0, 0)), (1, .invokestatic 246, 3, (89, 0, 612, 0)), (4, .ifCond .ne 5, 3, (9, 0, 0, 0)), (7, .iconst (-1), 1, (0, 0, 0, 0)), (8, .ireturn, 1, (0, 0, 0, 0)), (9, .aload_n 0, 1, (0, 0, 0, 0)), (10, .getfield 59, 3, (7, 8, 269, 0)), (13, .iload_n 1, 1, (0, 0, 0, 0)), (14, .aaload, 1, (0, 0, 0, 0)), (15, .astore 5, 2, (0, 0, 0, 0)), (17, .aload 5, 2, (0, 0, 0, 0)), (19, .getfield 249, 3, (4, 1, 251, 0)), (22, .iconst (-1), 1, (0, 0, 0, 0)), (23, .if_icmp .ne 6, 3, (29, 0, 0, 0)), (26, .bipush (-11), 2, (0, 0, 0, 0)), (28, .ireturn, 1, (0, 0, 0, 0)), (29, .aload 5, 2, (0, 0, 0, 0)), (31, .iload_n 2, 1, (0, 0, 0, 0)), (32, .invokevirtual 271, 3, (27, 0, 647, 0)), (35, .ifCond .ne 6, 3, (41, 0, 0, 0)), (38, .bipush (-13), 2, (0, 0, 0, 0)), (40, .ireturn, 1, (0, 0, 0, 0)), (41, .aload 5, 2, (0, 0, 0, 0)), (43, .getfield 253, 3, (4, 0, 249, 0)), (46, .iload_n 2, 1, (0, 0, 0, 0)), (47, .aload 5, 2, (0, 0, 0, 0)), (49, .lload_n 3, 1, (0, 0, 0, 0)), (50, .invokevirtual 272, 3, (29, 0, 651, 0)), (53, .lastore, 1, (0, 0, 0, 0)), (54, .iconst 1, 1, (0, 0, 0, 0)), (55, .ireturn, 1, (0, 0, 0, 0))]
/-- EstateVessels peek (II)J -/
def zc_82 : List (Nat × Instr × Nat × zRes) := [(0, .iload_n 1, 1, (0, 0, 0, 0)), (1, .invokestatic 246, 3, (89, 0, 612, 0)), (4, .ifCond .eq 30, 3, (34, 0, 0, 0)), (7, .aload_n 0, 1, (0, 0, 0, 0)), (8, .getfield 59, 3, (7, 8, 269, 0)), (11, .iload_n 1, 1, (0, 0, 0, 0)), (12, .aaload, 1, (0, 0, 0, 0)), (13, .iload_n 2, 1, (0, 0, 0, 0)), (14, .invokevirtual 271, 3, (27, 0, 647, 0)), (17, .ifCond .eq 17, 3, (34, 0, 0, 0)), (20, .aload_n 0, 1, (0, 0, 0, 0)), (21, .getfield 59, 3, (7, 8, 269, 0)), (24, .iload_n 1, 1, (0, 0, 0, 0)), (25, .aaload, 1, (0, 0, 0, 0)), (26, .getfield 253, 3, (4, 0, 249, 0)), (29, .iload_n 2, 1, (0, 0, 0, 0)), (30, .laload, 1, (0, 0, 0, 0)), (31, .goto 6, 3, (37, 0, 0, 0)), (34, .ldc2_w 157, 3, (0, 0, 395, -9223372036854775808)), (37, .lreturn, 1, (0, 0, 0, 0))]
/-- EstateVessels shift (IIIII)I -/
def zc_83 : List (Nat × Instr × Nat × zRes) := [(0, .iload_n 1, 1, (0, 0, 0, 0)), (1, .invokestatic 246, 3, (89, 0, 612, 0)), (4, .ifCond .eq 10, 3, (14, 0, 0, 0)), (7, .iload_n 3, 1, (0, 0, 0, 0)), (8, .invokestatic 246, 3, (89, 0, 612, 0)), (11, .ifCond .ne 5, 3, (16, 0, 0, 0)), (14, .iconst (-1), 1, (0, 0, 0, 0)), (15, .ireturn, 1, (0, 0, 0, 0)), (16, .aload_n 0, 1, (0, 0, 0, 0)), (17, .getfield 59, 3, (7, 8, 269, 0)), (20, .iload_n 1, 1, (0, 0, 0, 0)), (21, .aaload, 1, (0, 0, 0, 0)), (22, .astore 6, 2, (0, 0, 0, 0)), (24, .aload_n 0, 1, (0, 0, 0, 0)), (25, .getfield 59, 3, (7, 8, 269, 0)), (28, .iload_n 3, 1, (0, 0, 0, 0)), (29, .aaload, 1, (0, 0, 0, 0)), (30, .astore 7, 2, (0, 0, 0, 0)), (32, .aload 6, 2, (0, 0, 0, 0)), (34, .getfield 249, 3, (4, 1, 251, 0)), (37, .iconst (-1), 1, (0, 0, 0, 0)), (38, .if_icmp .eq 12, 3, (50, 0, 0, 0)), (41, .aload 7, 2, (0, 0, 0, 0)), (43, .getfield 249, 3, (4, 1, 251, 0)), (46, .iconst (-1), 1, (0, 0, 0, 0)), (47, .if_icmp .ne 6, 3, (53, 0, 0, 0)), (50, .bipush (-11), 2, (0, 0, 0, 0)), (52, .ireturn, 1, (0, 0, 0, 0)), (53, .aload 6, 2, (0, 0, 0, 0)), (55, .getfield 249, 3, (4, 1, 251, 0)), (58, .aload 7, 2, (0, 0, 0, 0)), (60, .getfield 249, 3, (4, 1, 251, 0)), (63, .if_icmp .eq 6, 3, (69, 0, 0, 0)), (66, .bipush (-12), 2, (0, 0, 0, 0)), (68, .ireturn, 1, (0, 0, 0, 0)), (69, .aload 6, 2, (0, 0, 0, 0)), (71, .iload_n 2, 1, (0, 0, 0, 0)), (72, .iload 5, 2, (0, 0, 0, 0)), (74, .invokevirtual 276, 3, (28, 0, 663, 0)), (77, .ifCond .eq 15, 3, (92, 0, 0, 0)), (80, .aload 7, 2, (0, 0, 0, 0)), (82, .iload 4, 2, (0, 0, 0, 0)), (84, .iload 5, 2, (0, 0, 0, 0)), (86, .invokevirtual 276, 3, (28, 0, 663, 0)), (89, .ifCond .ne 6, 3, (95, 0, 0, 0)), (92, .bipush (-13), 2, (0, 0, 0, 0)), (94, .ireturn, 1, (0, 0, 0, 0)), (95, .aload 6, 2, (0, 0, 0, 0)), (97, .getfield 253, 3, (4, 0, 249, 0)), (100, .iload_n 2, 1, (0, 0, 0, 0)), (101, .aload 7, 2, (0, 0, 0, 0)), (103, .getfield 253, 3, (4, 0, 249, 0)), (106, .iload 4, 2, (0, 0, 0, 0)), (108, .iload 5, 2, (0, 0, 0, 0)), (110, .invokestatic 279, 3, (1000, 0, 667, 0)), (113, .iload 5, 2, (0, 0, 0, 0)), (115, .ireturn, 1, (0, 0, 0, 0))]
/-- EstateVessels isClaim (I)Z -/
def zc_84 : List (Nat × Instr × Nat × zRes) := [(0, .iload_n 0, 1, (0, 0, 0, 0)), (1, .iconst 1, 1, (0, 0, 0, 0)), (2, .if_icmp .lt 13, 3, (15, 0, 0, 0)), (5, .iload_n 0, 1, (0, 0, 0, 0)), (6, .bipush 60, 2, (0, 0, 0, 0)), (8, .if_icmp .gt 7, 3, (15, 0, 0, 0)), (11, .iconst 1, 1, (0, 0, 0, 0)), (12, .goto 4, 3, (16, 0, 0, 0)), (15, .iconst 0, 1, (0, 0, 0, 0)), (16, .ireturn, 1, (1, 0, 0, 0))]
/-- EstateVessels isEstate (I)Z -/
def zc_85 : List (Nat × Instr × Nat × zRes) := [(0, .iload_n 0, 1, (0, 0, 0, 0)), (1, .ifCond .lt 14, 3, (15, 0, 0, 0)), (4, .iload_n 0, 1, (0, 0, 0, 0)), (5, .sipush 360, 3, (0, 0, 0, 0)), (8, .if_icmp .gt 7, 3, (15, 0, 0, 0)), (11, .iconst 1, 1, (0, 0, 0, 0)), (12, .goto 4, 3, (16, 0, 0, 0)), (15, .iconst 0, 1, (0, 0, 0, 0)), (16, .ireturn, 1, (1, 0, 0, 0))]
/-- EstateVessels isRule (I)Z -/
def zc_86 : List (Nat × Instr × Nat × zRes) := [(0, .iload_n 0, 1, (0, 0, 0, 0)), (1, .ifCond .lt 13, 3, (14, 0, 0, 0)), (4, .iload_n 0, 1, (0, 0, 0, 0)), (5, .bipush 6, 2, (0, 0, 0, 0)), (7, .if_icmp .ge 7, 3, (14, 0, 0, 0)), (10, .iconst 1, 1, (0, 0, 0, 0)), (11, .goto 4, 3, (15, 0, 0, 0)), (14, .iconst 0, 1, (0, 0, 0, 0)), (15, .ireturn, 1, (1, 0, 0, 0))]
/-- EstateVessels isPart (I)Z -/
def zc_87 : List (Nat × Instr × Nat × zRes) := [(0, .iload_n 0, 1, (0, 0, 0, 0)), (1, .ifCond .eq 8, 3, (9, 0, 0, 0)), (4, .iload_n 0, 1, (0, 0, 0, 0)), (5, .iconst 1, 1, (0, 0, 0, 0)), (6, .if_icmp .ne 7, 3, (13, 0, 0, 0)), (9, .iconst 1, 1, (0, 0, 0, 0)), (10, .goto 4, 3, (14, 0, 0, 0)), (13, .iconst 0, 1, (0, 0, 0, 0)), (14, .ireturn, 1, (1, 0, 0, 0))]
/-- EstateVessels isPourable (II)Z -/
def zc_88 : List (Nat × Instr × Nat × zRes) := [(0, .iload_n 0, 1, (0, 0, 0, 0)), (1, .ifCond .lt 23, 3, (24, 0, 0, 0)), (4, .iload_n 0, 1, (0, 0, 0, 0)), (5, .iconst 4, 1, (0, 0, 0, 0)), (6, .if_icmp .gt 18, 3, (24, 0, 0, 0)), (9, .iload_n 1, 1, (0, 0, 0, 0)), (10, .iconst 1, 1, (0, 0, 0, 0)), (11, .if_icmp .lt 13, 3, (24, 0, 0, 0)), (14, .iload_n 1, 1, (0, 0, 0, 0)), (15, .bipush 60, 2, (0, 0, 0, 0)), (17, .if_icmp .gt 7, 3, (24, 0, 0, 0)), (20, .iconst 1, 1, (0, 0, 0, 0)), (21, .goto 4, 3, (25, 0, 0, 0)), (24, .iconst 0, 1, (0, 0, 0, 0)), (25, .ireturn, 1, (1, 0, 0, 0))]
/-- EstateVessels isTape (I)Z -/
def zc_89 : List (Nat × Instr × Nat × zRes) := [(0, .iload_n 0, 1, (0, 0, 0, 0)), (1, .ifCond .lt 13, 3, (14, 0, 0, 0)), (4, .iload_n 0, 1, (0, 0, 0, 0)), (5, .bipush 6, 2, (0, 0, 0, 0)), (7, .if_icmp .ge 7, 3, (14, 0, 0, 0)), (10, .iconst 1, 1, (0, 0, 0, 0)), (11, .goto 4, 3, (15, 0, 0, 0)), (14, .iconst 0, 1, (0, 0, 0, 0)), (15, .ireturn, 1, (1, 0, 0, 0))]
/-- EstateVessels inLowestTerms (JJI)J -/
def zc_90 : List (Nat × Instr × Nat × zRes) := [(0, .lload_n 0, 1, (0, 0, 0, 0)), (1, .invokestatic 285, 3, (178, 0, 434, 0)), (4, .lload_n 2, 1, (0, 0, 0, 0)), (5, .invokestatic 290, 3, (91, 0, 437, 0)), (8, .lstore 5, 2, (0, 0, 0, 0)), (10, .lload 5, 2, (0, 0, 0, 0)), (12, .lconst 1, 1, (0, 0, 0, 0)), (13, .lcmp, 1, (0, 0, 0, 0)), (14, .ifCond .ge 7, 3, (21, 0, 0, 0)), (17, .ldc2_w 157, 3, (0, 0, 395, -9223372036854775808)), (20, .lreturn, 1, (0, 0, 0, 0)), (21, .iload 4, 2, (0, 0, 0, 0)), (23, .ifCond .ne 7, 3, (30, 0, 0, 0)), (26, .lload_n 0, 1, (0, 0, 0, 0)), (27, .goto 4, 3, (31, 0, 0, 0)), (30, .lload_n 2, 1, (0, 0, 0, 0)), (31, .lload 5, 2, (0, 0, 0, 0)), (33, .ldiv, 1, (0, 0, 0, 0)), (34, .lreturn, 1, (0, 0, 0, 0))]
/-- EstateVessels greatestDivisor (JJ)J -/
def zc_91 : List (Nat × Instr × Nat × zRes) := [(0, .lload_n 0, 1, (0, 0, 0, 0)), (1, .lstore 4, 2, (0, 0, 0, 0)), (3, .lload_n 2, 1, (0, 0, 0, 0)), (4, .lstore 6, 2, (0, 0, 0, 0)), (6, .iconst 0, 1, (0, 0, 0, 0)), (7, .istore 8, 2, (0, 0, 0, 0)), (9, .iload 8, 2, (0, 0, 0, 0)), (11, .bipush 100, 2, (0, 0, 0, 0)), (13, .if_icmp .ge 31, 3, (44, 0, 0, 0)), (16, .lload 6, 2, (0, 0, 0, 0)), (18, .lconst 0, 1, (0, 0, 0, 0)), (19, .lcmp, 1, (0, 0, 0, 0)), (20, .ifCond .eq 24, 3, (44, 0, 0, 0)), (23, .lload 4, 2, (0, 0, 0, 0)), (25, .lload 6, 2, (0, 0, 0, 0)), (27, .lrem, 1, (0, 0, 0, 0)), (28, .lstore 9, 2, (0, 0, 0, 0)), (30, .lload 6, 2, (0, 0, 0, 0)), (32, .lstore 4, 2, (0, 0, 0, 0)), (34, .lload 9, 2, (0, 0, 0, 0)), (36, .lstore 6, 2, (0, 0, 0, 0)), (38, .iinc 8 1, 3, (0, 0, 0, 0)), (41, .goto (-32), 3, (9, 0, 0, 0)), (44, .lload 4, 2, (0, 0, 0, 0)), (46, .lreturn, 1, (0, 0, 0, 0))]
/-- EstateVessels bits (DII)J -/
def zc_92 : List (Nat × Instr × Nat × zRes) := [(0, .dload_n 0, 1, (0, 0, 0, 0)), (1, .dconst 0, 1, (0, 0, 0, 0)), (2, .dcmp .g, 1, (0, 0, 0, 0)), (3, .ifCond .gt 5, 3, (8, 0, 0, 0)), (6, .lconst 0, 1, (0, 0, 0, 0)), (7, .lreturn, 1, (0, 0, 0, 0)), (8, .dload_n 0, 1, (0, 0, 0, 0)), (9, .dstore 4, 2, (0, 0, 0, 0)), (11, .iload_n 2, 1, (0, 0, 0, 0)), (12, .istore 6, 2, (0, 0, 0, 0)), (14, .dload 4, 2, (0, 0, 0, 0)), (16, .ldc2_w 294, 3, (1, 0, 544, 4611686018427387904)), (19, .dcmp .l, 1, (0, 0, 0, 0)), (20, .ifCond .lt 25, 3, (45, 0, 0, 0)), (23, .iload 6, 2, (0, 0, 0, 0)), (25, .iconst 2, 1, (0, 0, 0, 0)), (26, .iload_n 2, 1, (0, 0, 0, 0)), (27, .imul, 1, (0, 0, 0, 0)), (28, .if_icmp .ge 17, 3, (45, 0, 0, 0)), (31, .dload 4, 2, (0, 0, 0, 0)), (33, .ldc2_w 296, 3, (1, 0, 545, 4602678819172646912)), (36, .dmul, 1, (0, 0, 0, 0)), (37, .dstore 4, 2, (0, 0, 0, 0)), (39, .iinc 6 1, 3, (0, 0, 0, 0)), (42, .goto (-28), 3, (14, 0, 0, 0)), (45, .dload 4, 2, (0, 0, 0, 0)), (47, .dconst 1, 1, (0, 0, 0, 0)), (48, .dcmp .g, 1, (0, 0, 0, 0)), (49, .ifCond .ge 23, 3, (72, 0, 0, 0)), (52, .iload 6, 2, (0, 0, 0, 0)), (54, .iconst 1, 1, (0, 0, 0, 0)), (55, .if_icmp .le 17, 3, (72, 0, 0, 0)), (58, .dload 4, 2, (0, 0, 0, 0)), (60, .ldc2_w 294, 3, (1, 0, 544, 4611686018427387904)), (63, .dmul, 1, (0, 0, 0, 0)), (64, .dstore 4, 2, (0, 0, 0, 0)), (66, .iinc 6 (-1), 3, (0, 0, 0, 0)), (69, .goto (-24), 3, (45, 0, 0, 0)), (72, .lconst 1, 1, (0, 0, 0, 0)), (73, .iload_n 3, 1, (0, 0, 0, 0)), (74, .lshl, 1, (0, 0, 0, 0)), (75, .lstore 7, 2, (0, 0, 0, 0)), (77, .iload 6, 2, (0, 0, 0, 0)), (79, .i2l, 1, (0, 0, 0, 0)), (80, .iload_n 3, 1, (0, 0, 0, 0)), (81, .lshl, 1, (0, 0, 0, 0)), (82, .dload 4, 2, (0, 0, 0, 0)), (84, .lload 7, 2, (0, 0, 0, 0)), (86, .l2d, 1, (0, 0, 0, 0)), (87, .dmul, 1, (0, 0, 0, 0)), (88, .d2l, 1, (0, 0, 0, 0)), (89, .ladd, 1, (0, 0, 0, 0)), (90, .lload 7, 2, (0, 0, 0, 0)), (92, .lsub, 1, (0, 0, 0, 0)), (93, .lreturn, 1, (0, 0, 0, 0))]
/-- EstateVesselsModel <init> ()V -/
def zc_93 : List (Nat × Instr × Nat × zRes) := [(0, .aload_n 0, 1, (0, 0, 0, 0)), (1, .invokespecial 3, 3, (1004, 0, 675, 0)), (4, .aload_n 0, 1, (0, 0, 0, 0)), (5, .bipush 6, 2, (0, 0, 0, 0)), (7, .newarray .int, 2, (0, 0, 0, 0)), (9, .putfield 9, 3, (8, 1, 677, 0)), (12, .aload_n 0, 1, (0, 0, 0, 0)), (13, .iconst 5, 1, (0, 0, 0, 0)), (14, .newarray .int, 2, (0, 0, 0, 0)), (16, .putfield 15, 3, (8, 5, 681, 0)), (19, .aload_n 0, 1, (0, 0, 0, 0)), (20, .iconst 5, 1, (0, 0, 0, 0)), (21, .newarray .int, 2, (0, 0, 0, 0)), (23, .putfield 18, 3, (8, 6, 682, 0)), (26, .aload_n 0, 1, (0, 0, 0, 0)), (27, .bipush 8, 2, (0, 0, 0, 0)), (29, .newarray .int, 2, (0, 0, 0, 0)), (31, .putfield 21, 3, (8, 8, 684, 0)), (34, .aload_n 0, 1, (0, 0, 0, 0)), (35, .bipush 8, 2, (0, 0, 0, 0)), (37, .newarray .int, 2, (0, 0, 0, 0)), (39, .putfield 24, 3, (8, 9, 685, 0)), (42, .aload_n 0, 1, (0, 0, 0, 0)), (43, .bipush 8, 2, (0, 0, 0, 0)), (45, .newarray .int, 2, (0, 0, 0, 0)), (47, .putfield 27, 3, (8, 11, 687, 0)), (50, .aload_n 0, 1, (0, 0, 0, 0)), (51, .bipush 8, 2, (0, 0, 0, 0)), (53, .newarray .int, 2, (0, 0, 0, 0)), (55, .putfield 30, 3, (8, 12, 688, 0)), (58, .aload_n 0, 1, (0, 0, 0, 0)), (59, .bipush 100, 2, (0, 0, 0, 0)), (61, .newarray .int, 2, (0, 0, 0, 0)), (63, .putfield 33, 3, (8, 13, 689, 0)), (66, .aload_n 0, 1, (0, 0, 0, 0)), (67, .bipush 60, 2, (0, 0, 0, 0)), (69, .newarray .int, 2, (0, 0, 0, 0)), (71, .putfield 36, 3, (8, 15, 691, 0)), (74, .aload_n 0, 1, (0, 0, 0, 0)), (75, .bipush 60, 2, (0, 0, 0, 0)), (77, .newarray .int, 2, (0, 0, 0, 0)), (79, .putfield 39, 3, (8, 16, 692, 0)), (82, .aload_n 0, 1, (0, 0, 0, 0)), (83, .bipush 6, 2, (0, 0, 0, 0)), (85, .newarray .boolean, 2, (0, 0, 0, 0)), (87, .putfield 42, 3, (8, 24, 700, 0)), (90, .aload_n 0, 1, (0, 0, 0, 0)), (91, .bipush 6, 2, (0, 0, 0, 0)), (93, .newarray .float, 2, (0, 0, 0, 0)), (95, .putfield 46, 3, (8, 25, 701, 0)), (98, .aload_n 0, 1, (0, 0, 0, 0)), (99, .bipush 6, 2, (0, 0, 0, 0)), (101, .newarray .int, 2, (0, 0, 0, 0)), (103, .dup, 1, (0, 0, 0, 0)), (104, .iconst 0, 1, (0, 0, 0, 0)), (105, .iconst (-1), 1, (0, 0, 0, 0)), (106, .iastore, 1, (0, 0, 0, 0)), (107, .dup, 1, (0, 0, 0, 0)), (108, .iconst 1, 1, (0, 0, 0, 0)), (109, .iconst (-1), 1, (0, 0, 0, 0)), (110, .iastore, 1, (0, 0, 0, 0)), (111, .dup, 1, (0, 0, 0, 0)), (112, .iconst 2, 1, (0, 0, 0, 0)), (113, .iconst (-1), 1, (0, 0, 0, 0)), (114, .iastore, 1, (0, 0, 0, 0)), (115, .dup, 1, (0, 0, 0, 0)), (116, .iconst 3, 1, (0, 0, 0, 0)), (117, .iconst (-1), 1, (0, 0, 0, 0)), (118, .iastore, 1, (0, 0, 0, 0)), (119, .dup, 1, (0, 0, 0, 0)), (120, .iconst 4, 1, (0, 0, 0, 0)), (121, .iconst (-1), 1, (0, 0, 0, 0)), (122, .iastore, 1, (0, 0, 0, 0)), (123, .dup, 1, (0, 0, 0, 0)), (124, .iconst 5, 1, (0, 0, 0, 0)), (125, .iconst (-1), 1, (0, 0, 0, 0)), (126, .iastore, 1, (0, 0, 0, 0)), (127, .putfield 50, 3, (8, 27, 703, 0)), (130, .aload_n 0, 1, (0, 0, 0, 0)), (131, .bipush 6, 2, (0, 0, 0, 0)), (133, .newarray .int, 2, (0, 0, 0, 0)), (135, .putfield 53, 3, (8, 28, 704, 0)), (138, .aload_n 0, 1, (0, 0, 0, 0)), (139, .sipush 360, 3, (0, 0, 0, 0)), (142, .newarray .long, 2, (0, 0, 0, 0)), (144, .putfield 56, 3, (8, 29, 705, 0)), (147, .aload_n 0, 1, (0, 0, 0, 0)), (148, .bipush 60, 2, (0, 0, 0, 0)), (150, .newarray .long, 2, (0, 0, 0, 0)), (152, .putfield 60, 3, (8, 30, 706, 0)), (155, .return_, 1, (0, 0, 0, 0))]
/-- EstateVesselsModel in (III)Z -/
def zc_94 : List (Nat × Instr × Nat × zRes) := [(0, .iload_n 0, 1, (0, 0, 0, 0)), (1, .iload_n 1, 1, (0, 0, 0, 0)), (2, .if_icmp .lt 12, 3, (14, 0, 0, 0)), (5, .iload_n 0, 1, (0, 0, 0, 0)), (6, .iload_n 2, 1, (0, 0, 0, 0)), (7, .if_icmp .gt 7, 3, (14, 0, 0, 0)), (10, .iconst 1, 1, (0, 0, 0, 0)), (11, .goto 4, 3, (15, 0, 0, 0)), (14, .iconst 0, 1, (0, 0, 0, 0)), (15, .ireturn, 1, (1, 0, 0, 0))]
/-- EstateVesselsModel has (II)Z -/
def zc_95 : List (Nat × Instr × Nat × zRes) := [(0, .iload_n 0, 1, (0, 0, 0, 0)), (1, .iload_n 1, 1, (0, 0, 0, 0)), (2, .ishr, 1, (0, 0, 0, 0)), (3, .iconst 1, 1, (0, 0, 0, 0)), (4, .iand, 1, (0, 0, 0, 0)), (5, .iconst 1, 1, (0, 0, 0, 0)), (6, .if_icmp .ne 7, 3, (13, 0, 0, 0)), (9, .iconst 1, 1, (0, 0, 0, 0)), (10, .goto 4, 3, (14, 0, 0, 0)), (13, .iconst 0, 1, (0, 0, 0, 0)), (14, .ireturn, 1, (1, 0, 0, 0))]
/-- EstateVesselsModel isOne (I)Z -/
def zc_96 : List (Nat × Instr × Nat × zRes) := [(0, .iload_n 1, 1, (0, 0, 0, 0)), (1, .iconst 0, 1, (0, 0, 0, 0)), (2, .aload_n 0, 1, (0, 0, 0, 0)), (3, .getfield 63, 3, (8, 0, 676, 0)), (6, .iconst 1, 1, (0, 0, 0, 0)), (7, .isub, 1, (0, 0, 0, 0)), (8, .invokestatic 67, 3, (94, 0, 778, 0)), (11, .ireturn, 1, (1, 0, 0, 0))]
/-- EstateVesselsModel isRule (I)Z -/
def zc_97 : List (Nat × Instr × Nat × zRes) := [(0, .iload_n 0, 1, (0, 0, 0, 0)), (1, .iconst 0, 1, (0, 0, 0, 0)), (2, .iconst 5, 1, (0, 0, 0, 0)), (3, .invokestatic 67, 3, (94, 0, 778, 0)), (6, .ireturn, 1, (1, 0, 0, 0))]
/-- EstateVesselsModel isPart (I)Z -/
def zc_98 : List (Nat × Instr × Nat × zRes) := [(0, .iload_n 0, 1, (0, 0, 0, 0)), (1, .iconst 0, 1, (0, 0, 0, 0)), (2, .iconst 1, 1, (0, 0, 0, 0)), (3, .invokestatic 67, 3, (94, 0, 778, 0)), (6, .ireturn, 1, (1, 0, 0, 0))]
/-- EstateVesselsModel isClaim (I)Z -/
def zc_99 : List (Nat × Instr × Nat × zRes) := [(0, .iload_n 0, 1, (0, 0, 0, 0)), (1, .iconst 1, 1, (0, 0, 0, 0)), (2, .bipush 60, 2, (0, 0, 0, 0)), (4, .invokestatic 67, 3, (94, 0, 778, 0)), (7, .ireturn, 1, (1, 0, 0, 0))]
/-- EstateVesselsModel fraction (JJ)V -/
def zc_100 : List (Nat × Instr × Nat × zRes) := [(0, .lload_n 1, 1, (0, 0, 0, 0)), (1, .lconst 0, 1, (0, 0, 0, 0)), (2, .lcmp, 1, (0, 0, 0, 0)), (3, .ifCond .ge 8, 3, (11, 0, 0, 0)), (6, .lload_n 1, 1, (0, 0, 0, 0)), (7, .lneg, 1, (0, 0, 0, 0)), (8, .goto 4, 3, (12, 0, 0, 0)), (11, .lload_n 1, 1, (0, 0, 0, 0)), (12, .lstore 5, 2, (0, 0, 0, 0)), (14, .lload_n 3, 1, (0, 0, 0, 0)), (15, .lstore 7, 2, (0, 0, 0, 0)), (17, .lload 7, 2, (0, 0, 0, 0)), (19, .lconst 0, 1, (0, 0, 0, 0)), (20, .lcmp, 1, (0, 0, 0, 0)), (21, .ifCond .eq 21, 3, (42, 0, 0, 0)), (24, .lload 5, 2, (0, 0, 0, 0)), (26, .lload 7, 2, (0, 0, 0, 0)), (28, .lrem, 1, (0, 0, 0, 0)), (29, .lstore 9, 2, (0, 0, 0, 0)), (31, .lload 7, 2, (0, 0, 0, 0)), (33, .lstore 5, 2, (0, 0, 0, 0)), (35, .lload 9, 2, (0, 0, 0, 0)), (37, .lstore 7, 2, (0, 0, 0, 0)), (39, .goto (-22), 3, (17, 0, 0, 0)), (42, .aload_n 0, 1, (0, 0, 0, 0)), (43, .lload_n 1, 1, (0, 0, 0, 0)), (44, .lload 5, 2, (0, 0, 0, 0)), (46, .ldiv, 1, (0, 0, 0, 0)), (47, .putfield 71, 3, (8, 18, 694, 0)), (50, .aload_n 0, 1, (0, 0, 0, 0)), (51, .lload_n 3, 1, (0, 0, 0, 0)), (52, .lload 5, 2, (0, 0, 0, 0)), (54, .ldiv, 1, (0, 0, 0, 0)), (55, .putfield 75, 3, (8, 19, 695, 0)), (58, .return_, 1, (0, 0, 0, 0))]
/-- EstateVesselsModel part (I)J -/
def zc_101 : List (Nat × Instr × Nat × zRes) := [(0, .iload_n 1, 1, (0, 0, 0, 0)), (1, .ifCond .ne 10, 3, (11, 0, 0, 0)), (4, .aload_n 0, 1, (0, 0, 0, 0)), (5, .getfield 71, 3, (8, 18, 694, 0)), (8, .goto 7, 3, (15, 0, 0, 0)), (11, .aload_n 0, 1, (0, 0, 0, 0)), (12, .getfield 75, 3, (8, 19, 695, 0)), (15, .lreturn, 1, (0, 0, 0, 0))]
/-- EstateVesselsModel everyone ()I -/
def zc_102 : List (Nat × Instr × Nat × zRes) := [(0, .iconst 1, 1, (0, 0, 0, 0)), (1, .aload_n 0, 1, (0, 0, 0, 0)), (2, .getfield 63, 3, (8, 0, 676, 0)), (5, .ishl, 1, (0, 0, 0, 0)), (6, .iconst 1, 1, (0, 0, 0, 0)), (7, .isub, 1, (0, 0, 0, 0)), (8, .ireturn, 1, (0, 0, 0, 0))]
/-- EstateVesselsModel allOf (I)I -/
def zc_103 : List (Nat × Instr × Nat × zRes) := [(0, .iconst 0, 1, (0, 0, 0, 0)), (1, .istore_n 2, 1, (0, 0, 0, 0)), (2, .iconst 0, 1, (0, 0, 0, 0)), (3, .istore_n 3, 1, (0, 0, 0, 0)), (4, .iload_n 3, 1, (0, 0, 0, 0)), (5, .aload_n 0, 1, (0, 0, 0, 0)), (6, .getfield 63, 3, (8, 0, 676, 0)), (9, .if_icmp .ge 30, 3, (39, 0, 0, 0)), (12, .iload_n 2, 1, (0, 0, 0, 0)), (13, .iload_n 1, 1, (0, 0, 0, 0)), (14, .iload_n 3, 1, (0, 0, 0, 0)), (15, .invokestatic 78, 3, (95, 0, 820, 0)), (18, .ifCond .eq 12, 3, (30, 0, 0, 0)), (21, .aload_n 0, 1, (0, 0, 0, 0)), (22, .getfield 9, 3, (8, 1, 677, 0)), (25, .iload_n 3, 1, (0, 0, 0, 0)), (26, .iaload, 1, (0, 0, 0, 0)), (27, .goto 4, 3, (31, 0, 0, 0)), (30, .iconst 0, 1, (0, 0, 0, 0)), (31, .iadd, 1, (0, 0, 0, 0)), (32, .istore_n 2, 1, (0, 0, 0, 0)), (33, .iinc 3 1, 3, (0, 0, 0, 0)), (36, .goto (-32), 3, (4, 0, 0, 0)), (39, .iload_n 2, 1, (0, 0, 0, 0)), (40, .ireturn, 1, (0, 0, 0, 0))]
/-- EstateVesselsModel all ()I -/
def zc_104 : List (Nat × Instr × Nat × zRes) := [(0, .aload_n 0, 1, (0, 0, 0, 0)), (1, .aload_n 0, 1, (0, 0, 0, 0)), (2, .invokevirtual 82, 3, (102, 0, 812, 0)), (5, .invokevirtual 86, 3, (103, 0, 816, 0)), (8, .ireturn, 1, (0, 0, 0, 0))]
/-- EstateVesselsModel isReady ()Z -/
def zc_105 : List (Nat × Instr × Nat × zRes) := [(0, .aload_n 0, 1, (0, 0, 0, 0)), (1, .getfield 63, 3, (8, 0, 676, 0)), (4, .ifCond .le 18, 3, (22, 0, 0, 0)), (7, .aload_n 0, 1, (0, 0, 0, 0)), (8, .getfield 90, 3, (8, 2, 678, 0)), (11, .aload_n 0, 1, (0, 0, 0, 0)), (12, .invokevirtual 93, 3, (104, 0, 808, 0)), (15, .if_icmp .gt 7, 3, (22, 0, 0, 0)), (18, .iconst 1, 1, (0, 0, 0, 0)), (19, .goto 4, 3, (23, 0, 0, 0)), (22, .iconst 0, 1, (0, 0, 0, 0)), (23, .ireturn, 1, (1, 0, 0, 0))]
/-- EstateVesselsModel claim (I)I -/
def zc_106 : List (Nat × Instr × Nat × zRes) := [(0, .iload_n 1, 1, (0, 0, 0, 0)), (1, .invokestatic 96, 3, (99, 0, 775, 0)), (4, .ifCond .ne 6, 3, (10, 0, 0, 0)), (7, .bipush (-2), 2, (0, 0, 0, 0)), (9, .ireturn, 1, (0, 0, 0, 0)), (10, .aload_n 0, 1, (0, 0, 0, 0)), (11, .getfield 63, 3, (8, 0, 676, 0)), (14, .bipush 6, 2, (0, 0, 0, 0)), (16, .if_icmp .ne 6, 3, (22, 0, 0, 0)), (19, .bipush (-4), 2, (0, 0, 0, 0)), (21, .ireturn, 1, (0, 0, 0, 0)), (22, .aload_n 0, 1, (0, 0, 0, 0)), (23, .getfield 9, 3, (8, 1, 677, 0)), (26, .aload_n 0, 1, (0, 0, 0, 0)), (27, .getfield 63, 3, (8, 0, 676, 0)), (30, .iload_n 1, 1, (0, 0, 0, 0)), (31, .iastore, 1, (0, 0, 0, 0)), (32, .aload_n 0, 1, (0, 0, 0, 0)), (33, .dup, 1, (0, 0, 0, 0)), (34, .getfield 63, 3, (8, 0, 676, 0)), (37, .iconst 1, 1, (0, 0, 0, 0)), (38, .iadd, 1, (0, 0, 0, 0)), (39, .putfield 63, 3, (8, 0, 676, 0)), (42, .aload_n 0, 1, (0, 0, 0, 0)), (43, .getfield 63, 3, (8, 0, 676, 0)), (46, .iconst 1, 1, (0, 0, 0, 0)), (47, .isub, 1, (0, 0, 0, 0)), (48, .ireturn, 1, (0, 0, 0, 0))]
/-- EstateVesselsModel renew (II)I -/
def zc_107 : List (Nat × Instr × Nat × zRes) := [(0, .aload_n 0, 1, (0, 0, 0, 0)), (1, .iload_n 1, 1, (0, 0, 0, 0)), (2, .invokevirtual 100, 3, (96, 0, 785, 0)), (5, .ifCond .ne 5, 3, (10, 0, 0, 0)), (8, .iconst (-1), 1, (0, 0, 0, 0)), (9, .ireturn, 1, (0, 0, 0, 0)), (10, .iload_n 2, 1, (0, 0, 0, 0)), (11, .invokestatic 96, 3, (99, 0, 775, 0)), (14, .ifCond .ne 6, 3, (20, 0, 0, 0)), (17, .bipush (-2), 2, (0, 0, 0, 0)), (19, .ireturn, 1, (0, 0, 0, 0)), (20, .aload_n 0, 1, (0, 0, 0, 0)), (21, .getfield 9, 3, (8, 1, 677, 0)), (24, .iload_n 1, 1, (0, 0, 0, 0)), (25, .iaload, 1, (0, 0, 0, 0)), (26, .istore_n 3, 1, (0, 0, 0, 0)), (27, .aload_n 0, 1, (0, 0, 0, 0)), (28, .getfield 9, 3, (8, 1, 677, 0)), (31, .iload_n 1, 1, (0, 0, 0, 0)), (32, .iload_n 2, 1, (0, 0, 0, 0)), (33, .iastore, 1, (0, 0, 0, 0)), (34, .iload_n 3, 1, (0, 0, 0, 0)), (35, .ireturn, 1, (0, 0, 0, 0))]
/-- EstateVesselsModel estate (I)I -/
def zc_108 : List (Nat × Instr × Nat × zRes) := [(0, .iload_n 1, 1, (0, 0, 0, 0)), (1, .iconst 0, 1, (0, 0, 0, 0)), (2, .sipush 360, 3, (0, 0, 0, 0)), (5, .invokestatic 67, 3, (94, 0, 778, 0)), (8, .ifCond .ne 6, 3, (14, 0, 0, 0)), (11, .bipush (-2), 2, (0, 0, 0, 0)), (13, .ireturn, 1, (0, 0, 0, 0)), (14, .aload_n 0, 1, (0, 0, 0, 0)), (15, .getfield 90, 3, (8, 2, 678, 0)), (18, .istore_n 2, 1, (0, 0, 0, 0)), (19, .aload_n 0, 1, (0, 0, 0, 0)), (20, .iload_n 1, 1, (0, 0, 0, 0)), (21, .putfield 90, 3, (8, 2, 678, 0)), (24, .iload_n 2, 1, (0, 0, 0, 0)), (25, .ireturn, 1, (0, 0, 0, 0))]
/-- EstateVesselsModel rule (I)I -/
def zc_109 : List (Nat × Instr × Nat × zRes) := [(0, .iload_n 1, 1, (0, 0, 0, 0)), (1, .invokestatic 103, 3, (97, 0, 797, 0)), (4, .ifCond .ne 6, 3, (10, 0, 0, 0)), (7, .bipush (-2), 2, (0, 0, 0, 0)), (9, .ireturn, 1, (0, 0, 0, 0)), (10, .aload_n 0, 1, (0, 0, 0, 0)), (11, .getfield 106, 3, (8, 3, 679, 0)), (14, .istore_n 2, 1, (0, 0, 0, 0)), (15, .aload_n 0, 1, (0, 0, 0, 0)), (16, .iload_n 1, 1, (0, 0, 0, 0)), (17, .putfield 106, 3, (8, 3, 679, 0)), (20, .iload_n 2, 1, (0, 0, 0, 0)), (21, .ireturn, 1, (0, 0, 0, 0))]
/-- EstateVesselsModel of (I)I -/
def zc_110 : List (Nat × Instr × Nat × zRes) := [(0, .aload_n 0, 1, (0, 0, 0, 0)), (1, .iload_n 1, 1, (0, 0, 0, 0)), (2, .invokevirtual 100, 3, (96, 0, 785, 0)), (5, .ifCond .eq 12, 3, (17, 0, 0, 0)), (8, .aload_n 0, 1, (0, 0, 0, 0)), (9, .getfield 9, 3, (8, 1, 677, 0)), (12, .iload_n 1, 1, (0, 0, 0, 0)), (13, .iaload, 1, (0, 0, 0, 0)), (14, .goto 4, 3, (18, 0, 0, 0)), (17, .iconst (-1), 1, (0, 0, 0, 0)), (18, .ireturn, 1, (0, 0, 0, 0))]
/-- EstateVesselsModel told (I)I -/
def zc_111 : List (Nat × Instr × Nat × zRes) := [(0, .iload_n 1, 1, (0, 0, 0, 0)), (1, .tableswitch 68 0 4 #[35, 40, 45, 50, 55], 35, (0, 0, 0, 0)), (36, .aload_n 0, 1, (0, 0, 0, 0)), (37, .getfield 63, 3, (8, 0, 676, 0)), (40, .ireturn, 1, (0, 0, 0, 0)), (41, .aload_n 0, 1, (0, 0, 0, 0)), (42, .invokevirtual 93, 3, (104, 0, 808, 0)), (45, .ireturn, 1, (0, 0, 0, 0)), (46, .aload_n 0, 1, (0, 0, 0, 0)), (47, .getfield 90, 3, (8, 2, 678, 0)), (50, .ireturn, 1, (0, 0, 0, 0)), (51, .aload_n 0, 1, (0, 0, 0, 0)), (52, .getfield 106, 3, (8, 3, 679, 0)), (55, .ireturn, 1, (0, 0, 0, 0)), (56, .aload_n 0, 1, (0, 0, 0, 0)), (57, .invokevirtual 109, 3, (105, 0, 823, 0)), (60, .ifCond .eq 7, 3, (67, 0, 0, 0)), (63, .iconst 1, 1, (0, 0, 0, 0)), (64, .goto 4, 3, (68, 0, 0, 0)), (67, .iconst 0, 1, (0, 0, 0, 0)), (68, .ireturn, 1, (0, 0, 0, 0)), (69, .iconst (-1), 1, (0, 0, 0, 0)), (70, .ireturn, 1, (0, 0, 0, 0))]
/-- EstateVesselsModel feed (I)I -/
def zc_112 : List (Nat × Instr × Nat × zRes) := [(0, .iload_n 1, 1, (0, 0, 0, 0)), (1, .iconst 0, 1, (0, 0, 0, 0)), (2, .bipush 127, 2, (0, 0, 0, 0)), (4, .invokestatic 67, 3, (94, 0, 778, 0)), (7, .ifCond .ne 6, 3, (13, 0, 0, 0)), (10, .bipush (-2), 2, (0, 0, 0, 0)), (12, .ireturn, 1, (0, 0, 0, 0)), (13, .aload_n 0, 1, (0, 0, 0, 0)), (14, .getfield 113, 3, (8, 14, 690, 0)), (17, .bipush 100, 2, (0, 0, 0, 0)), (19, .if_icmp .ne 6, 3, (25, 0, 0, 0)), (22, .bipush (-4), 2, (0, 0, 0, 0)), (24, .ireturn, 1, (0, 0, 0, 0)), (25, .aload_n 0, 1, (0, 0, 0, 0)), (26, .getfield 33, 3, (8, 13, 689, 0)), (29, .aload_n 0, 1, (0, 0, 0, 0)), (30, .getfield 113, 3, (8, 14, 690, 0)), (33, .iload_n 1, 1, (0, 0, 0, 0)), (34, .iastore, 1, (0, 0, 0, 0)), (35, .aload_n 0, 1, (0, 0, 0, 0)), (36, .dup, 1, (0, 0, 0, 0)), (37, .getfield 113, 3, (8, 14, 690, 0)), (40, .iconst 1, 1, (0, 0, 0, 0)), (41, .iadd, 1, (0, 0, 0, 0)), (42, .putfield 113, 3, (8, 14, 690, 0)), (45, .aload_n 0, 1, (0, 0, 0, 0)), (46, .getfield 113, 3, (8, 14, 690, 0)), (49, .ireturn, 1, (0, 0, 0, 0))]
/-- EstateVesselsModel here ()I -/
def zc_113 : List (Nat × Instr × Nat × zRes) := [(0, .aload_n 0, 1, (0, 0, 0, 0)), (1, .getfield 116, 3, (8, 20, 696, 0)), (4, .aload_n 0, 1, (0, 0, 0, 0)), (5, .getfield 113, 3, (8, 14, 690, 0)), (8, .if_icmp .ge 15, 3, (23, 0, 0, 0)), (11, .aload_n 0, 1, (0, 0, 0, 0)), (12, .getfield 33, 3, (8, 13, 689, 0)), (15, .aload_n 0, 1, (0, 0, 0, 0)), (16, .getfield 116, 3, (8, 20, 696, 0)), (19, .iaload, 1, (0, 0, 0, 0)), (20, .goto 4, 3, (24, 0, 0, 0)), (23, .iconst (-1), 1, (0, 0, 0, 0)), (24, .ireturn, 1, (0, 0, 0, 0))]
/-- EstateVesselsModel readNumber (I)Z -/
def zc_114 : List (Nat × Instr × Nat × zRes) := [(0, .aload_n 0, 1, (0, 0, 0, 0)), (1, .iconst 0, 1, (0, 0, 0, 0)), (2, .putfield 119, 3, (8, 21, 697, 0)), (5, .aload_n 0, 1, (0, 0, 0, 0)), (6, .getfield 116, 3, (8, 20, 696, 0)), (9, .istore_n 2, 1, (0, 0, 0, 0)), (10, .aload_n 0, 1, (0, 0, 0, 0)), (11, .getfield 116, 3, (8, 20, 696, 0)), (14, .iload_n 2, 1, (0, 0, 0, 0)), (15, .iload_n 1, 1, (0, 0, 0, 0)), (16, .iadd, 1, (0, 0, 0, 0)), (17, .if_icmp .ge 49, 3, (66, 0, 0, 0)), (20, .aload_n 0, 1, (0, 0, 0, 0)), (21, .invokevirtual 122, 3, (113, 0, 843, 0)), (24, .bipush 48, 2, (0, 0, 0, 0)), (26, .bipush 57, 2, (0, 0, 0, 0)), (28, .invokestatic 67, 3, (94, 0, 778, 0)), (31, .ifCond .eq 35, 3, (66, 0, 0, 0)), (34, .aload_n 0, 1, (0, 0, 0, 0)), (35, .bipush 10, 2, (0, 0, 0, 0)), (37, .aload_n 0, 1, (0, 0, 0, 0)), (38, .getfield 119, 3, (8, 21, 697, 0)), (41, .imul, 1, (0, 0, 0, 0)), (42, .aload_n 0, 1, (0, 0, 0, 0)), (43, .invokevirtual 122, 3, (113, 0, 843, 0)), (46, .iadd, 1, (0, 0, 0, 0)), (47, .bipush 48, 2, (0, 0, 0, 0)), (49, .isub, 1, (0, 0, 0, 0)), (50, .putfield 119, 3, (8, 21, 697, 0)), (53, .aload_n 0, 1, (0, 0, 0, 0)), (54, .dup, 1, (0, 0, 0, 0)), (55, .getfield 116, 3, (8, 20, 696, 0)), (58, .iconst 1, 1, (0, 0, 0, 0)), (59, .iadd, 1, (0, 0, 0, 0)), (60, .putfield 116, 3, (8, 20, 696, 0)), (63, .goto (-53), 3, (10, 0, 0, 0)), (66, .aload_n 0, 1, (0, 0, 0, 0)), (67, .getfield 116, 3, (8, 20, 696, 0)), (70, .iload_n 2, 1, (0, 0, 0, 0)), (71, .if_icmp .le 7, 3, (78, 0, 0, 0)), (74, .iconst 1, 1, (0, 0, 0, 0)), (75, .goto 4, 3, (79, 0, 0, 0)), (78, .iconst 0, 1, (0, 0, 0, 0)), (79, .ireturn, 1, (1, 0, 0, 0))]
/-- EstateVesselsModel clause (Z)I -/
def zc_115 : List (Nat × Instr × Nat × zRes) := [(0, .aload_n 0, 1, (0, 0, 0, 0)), (1, .invokevirtual 122, 3, (113, 0, 843, 0)), (4, .istore_n 2, 1, (0, 0, 0, 0)), (5, .iconst 0, 1, (0, 0, 0, 0)), (6, .istore_n 3, 1, (0, 0, 0, 0)), (7, .iload_n 2, 1, (0, 0, 0, 0)), (8, .bipush 99, 2, (0, 0, 0, 0)), (10, .if_icmp .eq 23, 3, (33, 0, 0, 0)), (13, .iload_n 2, 1, (0, 0, 0, 0)), (14, .bipush 110, 2, (0, 0, 0, 0)), (16, .if_icmp .eq 17, 3, (33, 0, 0, 0)), (19, .iload_n 2, 1, (0, 0, 0, 0)), (20, .bipush 101, 2, (0, 0, 0, 0)), (22, .if_icmp .eq 11, 3, (33, 0, 0, 0)), (25, .iload_n 2, 1, (0, 0, 0, 0)), (26, .bipush 114, 2, (0, 0, 0, 0)), (28, .if_icmp .eq 5, 3, (33, 0, 0, 0)), (31, .iconst (-1), 1, (0, 0, 0, 0)), (32, .ireturn, 1, (0, 0, 0, 0)), (33, .aload_n 0, 1, (0, 0, 0, 0)), (34, .dup, 1, (0, 0, 0, 0)), (35, .getfield 116, 3, (8, 20, 696, 0)), (38, .iconst 1, 1, (0, 0, 0, 0)), (39, .iadd, 1, (0, 0, 0, 0)), (40, .putfield 116, 3, (8, 20, 696, 0)), (43, .iload_n 2, 1, (0, 0, 0, 0)), (44, .bipush 110, 2, (0, 0, 0, 0)), (46, .if_icmp .ne 18, 3, (64, 0, 0, 0)), (49, .aload_n 0, 1, (0, 0, 0, 0)), (50, .iconst 1, 1, (0, 0, 0, 0)), (51, .invokevirtual 125, 3, (114, 0, 847, 0)), (54, .ifCond .ne 5, 3, (59, 0, 0, 0)), (57, .iconst (-1), 1, (0, 0, 0, 0)), (58, .ireturn, 1, (0, 0, 0, 0)), (59, .aload_n 0, 1, (0, 0, 0, 0)), (60, .getfield 119, 3, (8, 21, 697, 0)), (63, .istore_n 3, 1, (0, 0, 0, 0)), (64, .aload_n 0, 1, (0, 0, 0, 0)), (65, .iload_n 2, 1, (0, 0, 0, 0)), (66, .bipush 101, 2, (0, 0, 0, 0)), (68, .if_icmp .ne 7, 3, (75, 0, 0, 0)), (71, .iconst 3, 1, (0, 0, 0, 0)), (72, .goto 14, 3, (86, 0, 0, 0)), (75, .iload_n 2, 1, (0, 0, 0, 0)), (76, .bipush 114, 2, (0, 0, 0, 0)), (78, .if_icmp .ne 7, 3, (85, 0, 0, 0)), (81, .iconst 1, 1, (0, 0, 0, 0)), (82, .goto 4, 3, (86, 0, 0, 0)), (85, .iconst 2, 1, (0, 0, 0, 0)), (86, .invokevirtual 125, 3, (114, 0, 847, 0)), (89, .ifCond .ne 5, 3, (94, 0, 0, 0)), (92, .iconst (-1), 1, (0, 0, 0, 0)), (93, .ireturn, 1, (0, 0, 0, 0)), (94, .iload_n 1, 1, (0, 0, 0, 0)), (95, .ifCond .ne 5, 3, (100, 0, 0, 0)), (98, .iconst 0, 1, (0, 0, 0, 0)), (99, .ireturn, 1, (0, 0, 0, 0)), (100, .iload_n 2, 1, (0, 0, 0, 0)), (101, .lookupswitch 87 #[(99, 35), (101, 70), (110, 52)], 35, (0, 0, 0, 0)), (136, .aload_n 0, 1, (0, 0, 0, 0)), (137, .aload_n 0, 1, (0, 0, 0, 0)), (138, .getfield 119, 3, (8, 21, 697, 0)), (141, .invokevirtual 128, 3, (106, 0, 851, 0)), (144, .ifCond .lt 7, 3, (151, 0, 0, 0)), (147, .iconst 1, 1, (0, 0, 0, 0)), (148, .goto 4, 3, (152, 0, 0, 0)), (151, .iconst 0, 1, (0, 0, 0, 0)), (152, .ireturn, 1, (0, 0, 0, 0)), (153, .aload_n 0, 1, (0, 0, 0, 0)), (154, .iload_n 3, 1, (0, 0, 0, 0)), (155, .aload_n 0, 1, (0, 0, 0, 0)), (156, .getfield 119, 3, (8, 21, 697, 0)), (159, .invokevirtual 130, 3, (107, 0, 852, 0)), (162, .ifCond .lt 7, 3, (169, 0, 0, 0)), (165, .iconst 1, 1, (0, 0, 0, 0)), (166, .goto 4, 3, (170, 0, 0, 0)), (169, .iconst 0, 1, (0, 0, 0, 0)), (170, .ireturn, 1, (0, 0, 0, 0)), (171, .aload_n 0, 1, (0, 0, 0, 0)), (172, .aload_n 0, 1, (0, 0, 0, 0)), (173, .getfield 119, 3, (8, 21, 697, 0)), (176, .invokevirtual 134, 3, (108, 0, 853, 0)), (179, .ifCond .lt 7, 3, (186, 0, 0, 0)), (182, .iconst 1, 1, (0, 0, 0, 0)), (183, .goto 4, 3, (187, 0, 0, 0)), (186, .iconst 0, 1, (0, 0, 0, 0)), (187, .ireturn, 1, (0, 0, 0, 0)), (188, .aload_n 0, 1, (0, 0, 0, 0)), (189, .aload_n 0, 1, (0, 0, 0, 0)), (190, .getfield 119, 3, (8, 21, 697, 0)), (193, .invokevirtual 136, 3, (109, 0, 854, 0)), (196, .ifCond .lt 7, 3, (203, 0, 0, 0)), (199, .iconst 1, 1, (0, 0, 0, 0)), (200, .goto 4, 3, (204, 0, 0, 0)), (203, .iconst 0, 1, (0, 0, 0, 0)), (204, .ireturn, 1, (0, 0, 0, 0))]
/-- EstateVesselsModel clauses (Z)I -/
def zc_116 : List (Nat × Instr × Nat × zRes) := [(0, .aload_n 0, 1, (0, 0, 0, 0)), (1, .iconst 0, 1, (0, 0, 0, 0)), (2, .putfield 116, 3, (8, 20, 696, 0)), (5, .iconst 0, 1, (0, 0, 0, 0)), (6, .istore_n 2, 1, (0, 0, 0, 0)), (7, .iconst 0, 1, (0, 0, 0, 0)), (8, .istore_n 3, 1, (0, 0, 0, 0)), (9, .iload_n 3, 1, (0, 0, 0, 0)), (10, .bipush 12, 2, (0, 0, 0, 0)), (12, .if_icmp .ge 68, 3, (80, 0, 0, 0)), (15, .aload_n 0, 1, (0, 0, 0, 0)), (16, .iload_n 1, 1, (0, 0, 0, 0)), (17, .invokevirtual 138, 3, (115, 0, 839, 0)), (20, .istore 4, 2, (0, 0, 0, 0)), (22, .iload 4, 2, (0, 0, 0, 0)), (24, .ifCond .ge 5, 3, (29, 0, 0, 0)), (27, .iconst (-1), 1, (0, 0, 0, 0)), (28, .ireturn, 1, (0, 0, 0, 0)), (29, .iload_n 2, 1, (0, 0, 0, 0)), (30, .iload 4, 2, (0, 0, 0, 0)), (32, .iadd, 1, (0, 0, 0, 0)), (33, .istore_n 2, 1, (0, 0, 0, 0)), (34, .aload_n 0, 1, (0, 0, 0, 0)), (35, .getfield 116, 3, (8, 20, 696, 0)), (38, .aload_n 0, 1, (0, 0, 0, 0)), (39, .getfield 113, 3, (8, 14, 690, 0)), (42, .if_icmp .ne 5, 3, (47, 0, 0, 0)), (45, .iload_n 2, 1, (0, 0, 0, 0)), (46, .ireturn, 1, (0, 0, 0, 0)), (47, .iload_n 3, 1, (0, 0, 0, 0)), (48, .bipush 11, 2, (0, 0, 0, 0)), (50, .if_icmp .eq 12, 3, (62, 0, 0, 0)), (53, .aload_n 0, 1, (0, 0, 0, 0)), (54, .invokevirtual 122, 3, (113, 0, 843, 0)), (57, .bipush 59, 2, (0, 0, 0, 0)), (59, .if_icmp .eq 5, 3, (64, 0, 0, 0)), (62, .iconst (-1), 1, (0, 0, 0, 0)), (63, .ireturn, 1, (0, 0, 0, 0)), (64, .aload_n 0, 1, (0, 0, 0, 0)), (65, .dup, 1, (0, 0, 0, 0)), (66, .getfield 116, 3, (8, 20, 696, 0)), (69, .iconst 1, 1, (0, 0, 0, 0)), (70, .iadd, 1, (0, 0, 0, 0)), (71, .putfield 116, 3, (8, 20, 696, 0)), (74, .iinc 3 1, 3, (0, 0, 0, 0)), (77, .goto (-68), 3, (9, 0, 0, 0)), (80, .iconst (-1), 1, (0, 0, 0, 0)), (81, .ireturn, 1, (0, 0, 0, 0))]
/-- EstateVesselsModel read ()I -/
def zc_117 : List (Nat × Instr × Nat × zRes) := [(0, .aload_n 0, 1, (0, 0, 0, 0)), (1, .iconst 0, 1, (0, 0, 0, 0)), (2, .invokevirtual 142, 3, (116, 0, 835, 0)), (5, .ifCond .ge 13, 3, (18, 0, 0, 0)), (8, .bipush (-10), 2, (0, 0, 0, 0)), (10, .aload_n 0, 1, (0, 0, 0, 0)), (11, .getfield 116, 3, (8, 20, 696, 0)), (14, .isub, 1, (0, 0, 0, 0)), (15, .goto 8, 3, (23, 0, 0, 0)), (18, .aload_n 0, 1, (0, 0, 0, 0)), (19, .iconst 1, 1, (0, 0, 0, 0)), (20, .invokevirtual 142, 3, (116, 0, 835, 0)), (23, .istore_n 1, 1, (0, 0, 0, 0)), (24, .aload_n 0, 1, (0, 0, 0, 0)), (25, .iconst 0, 1, (0, 0, 0, 0)), (26, .putfield 113, 3, (8, 14, 690, 0)), (29, .iload_n 1, 1, (0, 0, 0, 0)), (30, .ireturn, 1, (0, 0, 0, 0))]
/-- EstateVesselsModel even (IIJJ)V -/
def zc_118 : List (Nat × Instr × Nat × zRes) := [(0, .lload_n 3, 1, (0, 0, 0, 0)), (1, .lstore 7, 2, (0, 0, 0, 0)), (3, .iload_n 2, 1, (0, 0, 0, 0)), (4, .invokestatic 145, 3, (177, 0, 876, 0)), (7, .istore 9, 2, (0, 0, 0, 0)), (9, .iconst 0, 1, (0, 0, 0, 0)), (10, .istore 10, 2, (0, 0, 0, 0)), (12, .iload 10, 2, (0, 0, 0, 0)), (14, .bipush 6, 2, (0, 0, 0, 0)), (16, .if_icmp .ge 17, 3, (33, 0, 0, 0)), (19, .aload_n 0, 1, (0, 0, 0, 0)), (20, .getfield 42, 3, (8, 24, 700, 0)), (23, .iload 10, 2, (0, 0, 0, 0)), (25, .iconst 0, 1, (0, 0, 0, 0)), (26, .bastore, 1, (0, 0, 0, 0)), (27, .iinc 10 1, 3, (0, 0, 0, 0)), (30, .goto (-18), 3, (12, 0, 0, 0)), (33, .aload_n 0, 1, (0, 0, 0, 0)), (34, .iload_n 2, 1, (0, 0, 0, 0)), (35, .invokevirtual 150, 3, (119, 0, 877, 0)), (38, .istore 10, 2, (0, 0, 0, 0)), (40, .iload 10, 2, (0, 0, 0, 0)), (42, .ifCond .lt 61, 3, (103, 0, 0, 0)), (45, .aload_n 0, 1, (0, 0, 0, 0)), (46, .getfield 9, 3, (8, 1, 677, 0)), (49, .iload 10, 2, (0, 0, 0, 0)), (51, .iaload, 1, (0, 0, 0, 0)), (52, .i2l, 1, (0, 0, 0, 0)), (53, .lload 5, 2, (0, 0, 0, 0)), (55, .lmul, 1, (0, 0, 0, 0)), (56, .iload 9, 2, (0, 0, 0, 0)), (58, .i2l, 1, (0, 0, 0, 0)), (59, .lmul, 1, (0, 0, 0, 0)), (60, .lload 7, 2, (0, 0, 0, 0)), (62, .lcmp, 1, (0, 0, 0, 0)), (63, .ifCond .gt 40, 3, (103, 0, 0, 0)), (66, .aload_n 0, 1, (0, 0, 0, 0)), (67, .getfield 42, 3, (8, 24, 700, 0)), (70, .iload 10, 2, (0, 0, 0, 0)), (72, .iconst 1, 1, (0, 0, 0, 0)), (73, .bastore, 1, (0, 0, 0, 0)), (74, .lload 7, 2, (0, 0, 0, 0)), (76, .aload_n 0, 1, (0, 0, 0, 0)), (77, .getfield 9, 3, (8, 1, 677, 0)), (80, .iload 10, 2, (0, 0, 0, 0)), (82, .iaload, 1, (0, 0, 0, 0)), (83, .i2l, 1, (0, 0, 0, 0)), (84, .lload 5, 2, (0, 0, 0, 0)), (86, .lmul, 1, (0, 0, 0, 0)), (87, .lsub, 1, (0, 0, 0, 0)), (88, .lstore 7, 2, (0, 0, 0, 0)), (90, .iinc 9 (-1), 3, (0, 0, 0, 0)), (93, .aload_n 0, 1, (0, 0, 0, 0)), (94, .iload_n 2, 1, (0, 0, 0, 0)), (95, .invokevirtual 150, 3, (119, 0, 877, 0)), (98, .istore 10, 2, (0, 0, 0, 0)), (100, .goto (-60), 3, (40, 0, 0, 0)), (103, .aload_n 0, 1, (0, 0, 0, 0)), (104, .aload_n 0, 1, (0, 0, 0, 0)), (105, .getfield 42, 3, (8, 24, 700, 0)), (108, .iload_n 1, 1, (0, 0, 0, 0)), (109, .baload, 1, (0, 0, 0, 0)), (110, .ifCond .eq 16, 3, (126, 0, 0, 0)), (113, .aload_n 0, 1, (0, 0, 0, 0)), (114, .getfield 9, 3, (8, 1, 677, 0)), (117, .iload_n 1, 1, (0, 0, 0, 0)), (118, .iaload, 1, (0, 0, 0, 0)), (119, .i2l, 1, (0, 0, 0, 0)), (120, .lload 5, 2, (0, 0, 0, 0)), (122, .lmul, 1, (0, 0, 0, 0)), (123, .goto 5, 3, (128, 0, 0, 0)), (126, .lload 7, 2, (0, 0, 0, 0)), (128, .putfield 153, 3, (8, 22, 698, 0)), (131, .aload_n 0, 1, (0, 0, 0, 0)), (132, .aload_n 0, 1, (0, 0, 0, 0)), (133, .getfield 42, 3, (8, 24, 700, 0)), (136, .iload_n 1, 1, (0, 0, 0, 0)), (137, .baload, 1, (0, 0, 0, 0)), (138, .ifCond .eq 7, 3, (145, 0, 0, 0)), (141, .lconst 1, 1, (0, 0, 0, 0)), (142, .goto 6, 3, (148, 0, 0, 0)), (145, .iload 9, 2, (0, 0, 0, 0)), (147, .i2l, 1, (0, 0, 0, 0)), (148, .putfield 156, 3, (8, 23, 699, 0)), (151, .return_, 1, (0, 0, 0, 0))]
/-- EstateVesselsModel least (I)I -/
def zc_119 : List (Nat × Instr × Nat × zRes) := [(0, .iconst (-1), 1, (0, 0, 0, 0)), (1, .istore_n 2, 1, (0, 0, 0, 0)), (2, .iconst 0, 1, (0, 0, 0, 0)), (3, .istore_n 3, 1, (0, 0, 0, 0)), (4, .iload_n 3, 1, (0, 0, 0, 0)), (5, .aload_n 0, 1, (0, 0, 0, 0)), (6, .getfield 63, 3, (8, 0, 676, 0)), (9, .if_icmp .ge 51, 3, (60, 0, 0, 0)), (12, .iload_n 1, 1, (0, 0, 0, 0)), (13, .iload_n 3, 1, (0, 0, 0, 0)), (14, .invokestatic 78, 3, (95, 0, 820, 0)), (17, .ifCond .eq 35, 3, (52, 0, 0, 0)), (20, .aload_n 0, 1, (0, 0, 0, 0)), (21, .getfield 42, 3, (8, 24, 700, 0)), (24, .iload_n 3, 1, (0, 0, 0, 0)), (25, .baload, 1, (0, 0, 0, 0)), (26, .ifCond .ne 26, 3, (52, 0, 0, 0)), (29, .iload_n 2, 1, (0, 0, 0, 0)), (30, .ifCond .lt 18, 3, (48, 0, 0, 0)), (33, .aload_n 0, 1, (0, 0, 0, 0)), (34, .getfield 9, 3, (8, 1, 677, 0)), (37, .iload_n 3, 1, (0, 0, 0, 0)), (38, .iaload, 1, (0, 0, 0, 0)), (39, .aload_n 0, 1, (0, 0, 0, 0)), (40, .getfield 9, 3, (8, 1, 677, 0)), (43, .iload_n 2, 1, (0, 0, 0, 0)), (44, .iaload, 1, (0, 0, 0, 0)), (45, .if_icmp .ge 7, 3, (52, 0, 0, 0)), (48, .iload_n 3, 1, (0, 0, 0, 0)), (49, .goto 4, 3, (53, 0, 0, 0)), (52, .iload_n 2, 1, (0, 0, 0, 0)), (53, .istore_n 2, 1, (0, 0, 0, 0)), (54, .iinc 3 1, 3, (0, 0, 0, 0)), (57, .goto (-53), 3, (4, 0, 0, 0)), (60, .iload_n 2, 1, (0, 0, 0, 0)), (61, .ireturn, 1, (0, 0, 0, 0))]
/-- EstateVesselsModel less (IJ)V -/
def zc_120 : List (Nat × Instr × Nat × zRes) := [(0, .aload_n 0, 1, (0, 0, 0, 0)), (1, .aload_n 0, 1, (0, 0, 0, 0)), (2, .getfield 9, 3, (8, 1, 677, 0)), (5, .iload_n 1, 1, (0, 0, 0, 0)), (6, .iaload, 1, (0, 0, 0, 0)), (7, .i2l, 1, (0, 0, 0, 0)), (8, .lload_n 2, 1, (0, 0, 0, 0)), (9, .lmul, 1, (0, 0, 0, 0)), (10, .aload_n 0, 1, (0, 0, 0, 0)), (11, .getfield 156, 3, (8, 23, 699, 0)), (14, .lmul, 1, (0, 0, 0, 0)), (15, .aload_n 0, 1, (0, 0, 0, 0)), (16, .getfield 153, 3, (8, 22, 698, 0)), (19, .lsub, 1, (0, 0, 0, 0)), (20, .putfield 153, 3, (8, 22, 698, 0)), (23, .return_, 1, (0, 0, 0, 0))]
/-- EstateVesselsModel loss (IIJJ)V -/
def zc_121 : List (Nat × Instr × Nat × zRes) := [(0, .aload_n 0, 1, (0, 0, 0, 0)), (1, .iload_n 1, 1, (0, 0, 0, 0)), (2, .iload_n 2, 1, (0, 0, 0, 0)), (3, .aload_n 0, 1, (0, 0, 0, 0)), (4, .iload_n 2, 1, (0, 0, 0, 0)), (5, .invokevirtual 86, 3, (103, 0, 816, 0)), (8, .i2l, 1, (0, 0, 0, 0)), (9, .lload 5, 2, (0, 0, 0, 0)), (11, .lmul, 1, (0, 0, 0, 0)), (12, .lload_n 3, 1, (0, 0, 0, 0)), (13, .lsub, 1, (0, 0, 0, 0)), (14, .lload 5, 2, (0, 0, 0, 0)), (16, .invokevirtual 159, 3, (118, 0, 872, 0)), (19, .aload_n 0, 1, (0, 0, 0, 0)), (20, .iload_n 1, 1, (0, 0, 0, 0)), (21, .lload 5, 2, (0, 0, 0, 0)), (23, .invokevirtual 163, 3, (120, 0, 885, 0)), (26, .return_, 1, (0, 0, 0, 0))]
/-- EstateVesselsModel factorial (I)I -/
def zc_122 : List (Nat × Instr × Nat × zRes) := [(0, .iconst 1, 1, (0, 0, 0, 0)), (1, .istore_n 1, 1, (0, 0, 0, 0)), (2, .iconst 2, 1, (0, 0, 0, 0)), (3, .istore_n 2, 1, (0, 0, 0, 0)), (4, .iload_n 2, 1, (0, 0, 0, 0)), (5, .iload_n 0, 1, (0, 0, 0, 0)), (6, .if_icmp .gt 13, 3, (19, 0, 0, 0)), (9, .iload_n 1, 1, (0, 0, 0, 0)), (10, .iload_n 2, 1, (0, 0, 0, 0)), (11, .imul, 1, (0, 0, 0, 0)), (12, .istore_n 1, 1, (0, 0, 0, 0)), (13, .iinc 2 1, 3, (0, 0, 0, 0)), (16, .goto (-12), 3, (4, 0, 0, 0)), (19, .iload_n 1, 1, (0, 0, 0, 0)), (20, .ireturn, 1, (0, 0, 0, 0))]
/-- EstateVesselsModel arrival (IIJJ)V -/
def zc_123 : List (Nat × Instr × Nat × zRes) := [(0, .iload_n 2, 1, (0, 0, 0, 0)), (1, .invokestatic 145, 3, (177, 0, 876, 0)), (4, .istore 7, 2, (0, 0, 0, 0)), (6, .aload_n 0, 1, (0, 0, 0, 0)), (7, .lconst 0, 1, (0, 0, 0, 0)), (8, .putfield 153, 3, (8, 22, 698, 0)), (11, .aload_n 0, 1, (0, 0, 0, 0)), (12, .iload 7, 2, (0, 0, 0, 0)), (14, .invokestatic 167, 3, (122, 0, 893, 0)), (17, .i2l, 1, (0, 0, 0, 0)), (18, .putfield 156, 3, (8, 23, 699, 0)), (21, .iconst 0, 1, (0, 0, 0, 0)), (22, .istore 8, 2, (0, 0, 0, 0)), (24, .iload 8, 2, (0, 0, 0, 0)), (26, .iconst 1, 1, (0, 0, 0, 0)), (27, .aload_n 0, 1, (0, 0, 0, 0)), (28, .getfield 63, 3, (8, 0, 676, 0)), (31, .ishl, 1, (0, 0, 0, 0)), (32, .if_icmp .ge 98, 3, (130, 0, 0, 0)), (35, .iload 8, 2, (0, 0, 0, 0)), (37, .iload_n 2, 1, (0, 0, 0, 0)), (38, .iconst (-1), 1, (0, 0, 0, 0)), (39, .ixor, 1, (0, 0, 0, 0)), (40, .iand, 1, (0, 0, 0, 0)), (41, .ifCond .ne 83, 3, (124, 0, 0, 0)), (44, .iload 8, 2, (0, 0, 0, 0)), (46, .iload_n 1, 1, (0, 0, 0, 0)), (47, .invokestatic 78, 3, (95, 0, 820, 0)), (50, .ifCond .eq 6, 3, (56, 0, 0, 0)), (53, .goto 71, 3, (124, 0, 0, 0)), (56, .iload 8, 2, (0, 0, 0, 0)), (58, .invokestatic 145, 3, (177, 0, 876, 0)), (61, .istore 9, 2, (0, 0, 0, 0)), (63, .lconst 0, 1, (0, 0, 0, 0)), (64, .lload_n 3, 1, (0, 0, 0, 0)), (65, .aload_n 0, 1, (0, 0, 0, 0)), (66, .iload 8, 2, (0, 0, 0, 0)), (68, .invokevirtual 86, 3, (103, 0, 816, 0)), (71, .i2l, 1, (0, 0, 0, 0)), (72, .lload 5, 2, (0, 0, 0, 0)), (74, .lmul, 1, (0, 0, 0, 0)), (75, .lsub, 1, (0, 0, 0, 0)), (76, .invokestatic 170, 3, (180, 0, 896, 0)), (79, .lstore 10, 2, (0, 0, 0, 0)), (81, .aload_n 0, 1, (0, 0, 0, 0)), (82, .dup, 1, (0, 0, 0, 0)), (83, .getfield 153, 3, (8, 22, 698, 0)), (86, .aload_n 0, 1, (0, 0, 0, 0)), (87, .getfield 9, 3, (8, 1, 677, 0)), (90, .iload_n 1, 1, (0, 0, 0, 0)), (91, .iaload, 1, (0, 0, 0, 0)), (92, .i2l, 1, (0, 0, 0, 0)), (93, .lload 5, 2, (0, 0, 0, 0)), (95, .lmul, 1, (0, 0, 0, 0)), (96, .lload 10, 2, (0, 0, 0, 0)), (98, .invokestatic 176, 3, (182, 0, 899, 0)), (101, .iload 9, 2, (0, 0, 0, 0)), (103, .invokestatic 167, 3, (122, 0, 893, 0)), (106, .i2l, 1, (0, 0, 0, 0)), (107, .lmul, 1, (0, 0, 0, 0)), (108, .iload 7, 2, (0, 0, 0, 0)), (110, .iconst 1, 1, (0, 0, 0, 0)), (111, .isub, 1, (0, 0, 0, 0)), (112, .iload 9, 2, (0, 0, 0, 0)), (114, .isub, 1, (0, 0, 0, 0)), (115, .invokestatic 167, 3, (122, 0, 893, 0)), (118, .i2l, 1, (0, 0, 0, 0)), (119, .lmul, 1, (0, 0, 0, 0)), (120, .ladd, 1, (0, 0, 0, 0)), (121, .putfield 153, 3, (8, 22, 698, 0)), (124, .iinc 8 1, 3, (0, 0, 0, 0)), (127, .goto (-103), 3, (24, 0, 0, 0)), (130, .return_, 1, (0, 0, 0, 0))]
/-- EstateVesselsModel awards (IIJJI)V -/
def zc_124 : List (Nat × Instr × Nat × zRes) := [(0, .ldc2_w 179, 3, (0, 0, 871, 2)), (3, .lload 5, 2, (0, 0, 0, 0)), (5, .lmul, 1, (0, 0, 0, 0)), (6, .lstore 8, 2, (0, 0, 0, 0)), (8, .ldc2_w 179, 3, (0, 0, 871, 2)), (11, .lload_n 3, 1, (0, 0, 0, 0)), (12, .lmul, 1, (0, 0, 0, 0)), (13, .lstore 10, 2, (0, 0, 0, 0)), (15, .aload_n 0, 1, (0, 0, 0, 0)), (16, .iload_n 2, 1, (0, 0, 0, 0)), (17, .invokevirtual 86, 3, (103, 0, 816, 0)), (20, .i2l, 1, (0, 0, 0, 0)), (21, .lload 8, 2, (0, 0, 0, 0)), (23, .lmul, 1, (0, 0, 0, 0)), (24, .lstore 12, 2, (0, 0, 0, 0)), (26, .ldc2_w 179, 3, (0, 0, 871, 2)), (29, .lload 10, 2, (0, 0, 0, 0)), (31, .lmul, 1, (0, 0, 0, 0)), (32, .lload 12, 2, (0, 0, 0, 0)), (34, .lcmp, 1, (0, 0, 0, 0)), (35, .ifCond .gt 7, 3, (42, 0, 0, 0)), (38, .iconst 1, 1, (0, 0, 0, 0)), (39, .goto 4, 3, (43, 0, 0, 0)), (42, .iconst 0, 1, (0, 0, 0, 0)), (43, .istore 14, 2, (0, 0, 0, 0)), (45, .iload_n 1, 1, (0, 0, 0, 0)), (46, .tableswitch 195 0 4 #[34, 48, 62, 90, 130], 34, (0, 0, 0, 0)), (80, .aload_n 0, 1, (0, 0, 0, 0)), (81, .iload 7, 2, (0, 0, 0, 0)), (83, .iload_n 2, 1, (0, 0, 0, 0)), (84, .lload 10, 2, (0, 0, 0, 0)), (86, .lload 8, 2, (0, 0, 0, 0)), (88, .invokevirtual 159, 3, (118, 0, 872, 0)), (91, .goto 161, 3, (252, 0, 0, 0)), (94, .aload_n 0, 1, (0, 0, 0, 0)), (95, .iload 7, 2, (0, 0, 0, 0)), (97, .iload_n 2, 1, (0, 0, 0, 0)), (98, .lload 10, 2, (0, 0, 0, 0)), (100, .lload 8, 2, (0, 0, 0, 0)), (102, .invokevirtual 181, 3, (121, 0, 881, 0)), (105, .goto 147, 3, (252, 0, 0, 0)), (108, .aload_n 0, 1, (0, 0, 0, 0)), (109, .lload 10, 2, (0, 0, 0, 0)), (111, .aload_n 0, 1, (0, 0, 0, 0)), (112, .getfield 9, 3, (8, 1, 677, 0)), (115, .iload 7, 2, (0, 0, 0, 0)), (117, .iaload, 1, (0, 0, 0, 0)), (118, .i2l, 1, (0, 0, 0, 0)), (119, .lmul, 1, (0, 0, 0, 0)), (120, .putfield 153, 3, (8, 22, 698, 0)), (123, .aload_n 0, 1, (0, 0, 0, 0)), (124, .aload_n 0, 1, (0, 0, 0, 0)), (125, .iload_n 2, 1, (0, 0, 0, 0)), (126, .invokevirtual 86, 3, (103, 0, 816, 0)), (129, .i2l, 1, (0, 0, 0, 0)), (130, .putfield 156, 3, (8, 23, 699, 0)), (133, .goto 119, 3, (252, 0, 0, 0)), (136, .aload_n 0, 1, (0, 0, 0, 0)), (137, .iload 7, 2, (0, 0, 0, 0)), (139, .iload_n 2, 1, (0, 0, 0, 0)), (140, .iload 14, 2, (0, 0, 0, 0)), (142, .ifCond .eq 8, 3, (150, 0, 0, 0)), (145, .lload 10, 2, (0, 0, 0, 0)), (147, .goto 8, 3, (155, 0, 0, 0)), (150, .lload 12, 2, (0, 0, 0, 0)), (152, .lload 10, 2, (0, 0, 0, 0)), (154, .lsub, 1, (0, 0, 0, 0)), (155, .lload 5, 2, (0, 0, 0, 0)), (157, .invokevirtual 159, 3, (118, 0, 872, 0)), (160, .iload 14, 2, (0, 0, 0, 0)), (162, .ifCond .ne 90, 3, (252, 0, 0, 0)), (165, .aload_n 0, 1, (0, 0, 0, 0)), (166, .iload 7, 2, (0, 0, 0, 0)), (168, .lload 8, 2, (0, 0, 0, 0)), (170, .invokevirtual 163, 3, (120, 0, 885, 0)), (173, .goto 79, 3, (252, 0, 0, 0)), (176, .iload 14, 2, (0, 0, 0, 0)), (178, .ifCond .eq 17, 3, (195, 0, 0, 0)), (181, .aload_n 0, 1, (0, 0, 0, 0)), (182, .iload 7, 2, (0, 0, 0, 0)), (184, .iload_n 2, 1, (0, 0, 0, 0)), (185, .lload 10, 2, (0, 0, 0, 0)), (187, .lload 5, 2, (0, 0, 0, 0)), (189, .invokevirtual 181, 3, (121, 0, 881, 0)), (192, .goto 60, 3, (252, 0, 0, 0)), (195, .aload_n 0, 1, (0, 0, 0, 0)), (196, .iload 7, 2, (0, 0, 0, 0)), (198, .iload_n 2, 1, (0, 0, 0, 0)), (199, .lload 10, 2, (0, 0, 0, 0)), (201, .lload 12, 2, (0, 0, 0, 0)), (203, .ldc2_w 179, 3, (0, 0, 871, 2)), (206, .ldiv, 1, (0, 0, 0, 0)), (207, .lsub, 1, (0, 0, 0, 0)), (208, .lload 5, 2, (0, 0, 0, 0)), (210, .invokevirtual 159, 3, (118, 0, 872, 0)), (213, .aload_n 0, 1, (0, 0, 0, 0)), (214, .dup, 1, (0, 0, 0, 0)), (215, .getfield 153, 3, (8, 22, 698, 0)), (218, .aload_n 0, 1, (0, 0, 0, 0)), (219, .getfield 9, 3, (8, 1, 677, 0)), (222, .iload 7, 2, (0, 0, 0, 0)), (224, .iaload, 1, (0, 0, 0, 0)), (225, .i2l, 1, (0, 0, 0, 0)), (226, .lload 5, 2, (0, 0, 0, 0)), (228, .lmul, 1, (0, 0, 0, 0)), (229, .aload_n 0, 1, (0, 0, 0, 0)), (230, .getfield 156, 3, (8, 23, 699, 0)), (233, .lmul, 1, (0, 0, 0, 0)), (234, .ladd, 1, (0, 0, 0, 0)), (235, .putfield 153, 3, (8, 22, 698, 0)), (238, .goto 14, 3, (252, 0, 0, 0)), (241, .aload_n 0, 1, (0, 0, 0, 0)), (242, .iload 7, 2, (0, 0, 0, 0)), (244, .iload_n 2, 1, (0, 0, 0, 0)), (245, .lload 10, 2, (0, 0, 0, 0)), (247, .lload 8, 2, (0, 0, 0, 0)), (249, .invokevirtual 184, 3, (123, 0, 889, 0)), (252, .aload_n 0, 1, (0, 0, 0, 0)), (253, .aload_n 0, 1, (0, 0, 0, 0)), (254, .getfield 153, 3, (8, 22, 698, 0)), (257, .aload_n 0, 1, (0, 0, 0, 0)), (258, .getfield 156, 3, (8, 23, 699, 0)), (261, .lload 8, 2, (0, 0, 0, 0)), (263, .lmul, 1, (0, 0, 0, 0)), (264, .invokevirtual 187, 3, (100, 0, 900, 0)), (267, .return_, 1, (0, 0, 0, 0))]
/-- EstateVesselsModel awardOf (II)V -/
def zc_125 : List (Nat × Instr × Nat × zRes) := [(0, .aload_n 0, 1, (0, 0, 0, 0)), (1, .iload_n 1, 1, (0, 0, 0, 0)), (2, .aload_n 0, 1, (0, 0, 0, 0)), (3, .invokevirtual 82, 3, (102, 0, 812, 0)), (6, .aload_n 0, 1, (0, 0, 0, 0)), (7, .getfield 90, 3, (8, 2, 678, 0)), (10, .i2l, 1, (0, 0, 0, 0)), (11, .lconst 1, 1, (0, 0, 0, 0)), (12, .iload_n 2, 1, (0, 0, 0, 0)), (13, .invokevirtual 191, 3, (124, 0, 867, 0)), (16, .return_, 1, (0, 0, 0, 0))]
/-- EstateVesselsModel cutOf (II)I -/
def zc_126 : List (Nat × Instr × Nat × zRes) := [(0, .aload_n 0, 1, (0, 0, 0, 0)), (1, .iload_n 1, 1, (0, 0, 0, 0)), (2, .iload_n 2, 1, (0, 0, 0, 0)), (3, .invokevirtual 195, 3, (125, 0, 863, 0)), (6, .aload_n 0, 1, (0, 0, 0, 0)), (7, .getfield 71, 3, (8, 18, 694, 0)), (10, .aload_n 0, 1, (0, 0, 0, 0)), (11, .getfield 75, 3, (8, 19, 695, 0)), (14, .ldiv, 1, (0, 0, 0, 0)), (15, .l2i, 1, (0, 0, 0, 0)), (16, .ireturn, 1, (0, 0, 0, 0))]
/-- EstateVesselsModel award (III)J -/
def zc_127 : List (Nat × Instr × Nat × zRes) := [(0, .iload_n 1, 1, (0, 0, 0, 0)), (1, .invokestatic 103, 3, (97, 0, 797, 0)), (4, .ifCond .eq 25, 3, (29, 0, 0, 0)), (7, .aload_n 0, 1, (0, 0, 0, 0)), (8, .iload_n 2, 1, (0, 0, 0, 0)), (9, .invokevirtual 100, 3, (96, 0, 785, 0)), (12, .ifCond .eq 17, 3, (29, 0, 0, 0)), (15, .iload_n 3, 1, (0, 0, 0, 0)), (16, .invokestatic 199, 3, (98, 0, 859, 0)), (19, .ifCond .eq 10, 3, (29, 0, 0, 0)), (22, .aload_n 0, 1, (0, 0, 0, 0)), (23, .invokevirtual 109, 3, (105, 0, 823, 0)), (26, .ifCond .ne 7, 3, (33, 0, 0, 0)), (29, .ldc2_w 202, 3, (0, 0, 862, -9223372036854775808)), (32, .lreturn, 1, (0, 0, 0, 0)), (33, .aload_n 0, 1, (0, 0, 0, 0)), (34, .iload_n 1, 1, (0, 0, 0, 0)), (35, .iload_n 2, 1, (0, 0, 0, 0)), (36, .invokevirtual 195, 3, (125, 0, 863, 0)), (39, .aload_n 0, 1, (0, 0, 0, 0)), (40, .iload_n 3, 1, (0, 0, 0, 0)), (41, .invokevirtual 204, 3, (101, 0, 904, 0)), (44, .lreturn, 1, (0, 0, 0, 0))]
/-- EstateVesselsModel cut (II)I -/
def zc_128 : List (Nat × Instr × Nat × zRes) := [(0, .iload_n 1, 1, (0, 0, 0, 0)), (1, .invokestatic 103, 3, (97, 0, 797, 0)), (4, .ifCond .ne 6, 3, (10, 0, 0, 0)), (7, .bipush (-2), 2, (0, 0, 0, 0)), (9, .ireturn, 1, (0, 0, 0, 0)), (10, .aload_n 0, 1, (0, 0, 0, 0)), (11, .iload_n 2, 1, (0, 0, 0, 0)), (12, .invokevirtual 100, 3, (96, 0, 785, 0)), (15, .ifCond .ne 5, 3, (20, 0, 0, 0)), (18, .iconst (-1), 1, (0, 0, 0, 0)), (19, .ireturn, 1, (0, 0, 0, 0)), (20, .aload_n 0, 1, (0, 0, 0, 0)), (21, .invokevirtual 109, 3, (105, 0, 823, 0)), (24, .ifCond .eq 12, 3, (36, 0, 0, 0)), (27, .aload_n 0, 1, (0, 0, 0, 0)), (28, .iload_n 1, 1, (0, 0, 0, 0)), (29, .iload_n 2, 1, (0, 0, 0, 0)), (30, .invokevirtual 208, 3, (126, 0, 912, 0)), (33, .goto 5, 3, (38, 0, 0, 0)), (36, .bipush (-3), 2, (0, 0, 0, 0)), (38, .ireturn, 1, (0, 0, 0, 0))]
/-- EstateVesselsModel dual (III)J -/
def zc_129 : List (Nat × Instr × Nat × zRes) := [(0, .iload_n 1, 1, (0, 0, 0, 0)), (1, .invokestatic 103, 3, (97, 0, 797, 0)), (4, .ifCond .eq 25, 3, (29, 0, 0, 0)), (7, .aload_n 0, 1, (0, 0, 0, 0)), (8, .iload_n 2, 1, (0, 0, 0, 0)), (9, .invokevirtual 100, 3, (96, 0, 785, 0)), (12, .ifCond .eq 17, 3, (29, 0, 0, 0)), (15, .iload_n 3, 1, (0, 0, 0, 0)), (16, .invokestatic 199, 3, (98, 0, 859, 0)), (19, .ifCond .eq 10, 3, (29, 0, 0, 0)), (22, .aload_n 0, 1, (0, 0, 0, 0)), (23, .invokevirtual 109, 3, (105, 0, 823, 0)), (26, .ifCond .ne 7, 3, (33, 0, 0, 0)), (29, .ldc2_w 202, 3, (0, 0, 862, -9223372036854775808)), (32, .lreturn, 1, (0, 0, 0, 0)), (33, .aload_n 0, 1, (0, 0, 0, 0)), (34, .iload_n 1, 1, (0, 0, 0, 0)), (35, .aload_n 0, 1, (0, 0, 0, 0)), (36, .invokevirtual 82, 3, (102, 0, 812, 0)), (39, .aload_n 0, 1, (0, 0, 0, 0)), (40, .invokevirtual 93, 3, (104, 0, 808, 0)), (43, .aload_n 0, 1, (0, 0, 0, 0)), (44, .getfield 90, 3, (8, 2, 678, 0)), (47, .isub, 1, (0, 0, 0, 0)), (48, .i2l, 1, (0, 0, 0, 0)), (49, .lconst 1, 1, (0, 0, 0, 0)), (50, .iload_n 2, 1, (0, 0, 0, 0)), (51, .invokevirtual 191, 3, (124, 0, 867, 0)), (54, .aload_n 0, 1, (0, 0, 0, 0)), (55, .aload_n 0, 1, (0, 0, 0, 0)), (56, .getfield 9, 3, (8, 1, 677, 0)), (59, .iload_n 2, 1, (0, 0, 0, 0)), (60, .iaload, 1, (0, 0, 0, 0)), (61, .i2l, 1, (0, 0, 0, 0)), (62, .aload_n 0, 1, (0, 0, 0, 0)), (63, .getfield 75, 3, (8, 19, 695, 0)), (66, .lmul, 1, (0, 0, 0, 0)), (67, .aload_n 0, 1, (0, 0, 0, 0)), (68, .getfield 71, 3, (8, 18, 694, 0)), (71, .lsub, 1, (0, 0, 0, 0)), (72, .aload_n 0, 1, (0, 0, 0, 0)), (73, .getfield 75, 3, (8, 19, 695, 0)), (76, .invokevirtual 187, 3, (100, 0, 900, 0)), (79, .aload_n 0, 1, (0, 0, 0, 0)), (80, .iload_n 3, 1, (0, 0, 0, 0)), (81, .invokevirtual 204, 3, (101, 0, 904, 0)), (84, .lreturn, 1, (0, 0, 0, 0))]
/-- EstateVesselsModel aloneOf (III)V -/
def zc_130 : List (Nat × Instr × Nat × zRes) := [(0, .aload_n 0, 1, (0, 0, 0, 0)), (1, .iload_n 1, 1, (0, 0, 0, 0)), (2, .iload_n 2, 1, (0, 0, 0, 0)), (3, .invokevirtual 195, 3, (125, 0, 863, 0)), (6, .aload_n 0, 1, (0, 0, 0, 0)), (7, .getfield 71, 3, (8, 18, 694, 0)), (10, .lstore 4, 2, (0, 0, 0, 0)), (12, .aload_n 0, 1, (0, 0, 0, 0)), (13, .getfield 75, 3, (8, 19, 695, 0)), (16, .lstore 6, 2, (0, 0, 0, 0)), (18, .aload_n 0, 1, (0, 0, 0, 0)), (19, .iload_n 1, 1, (0, 0, 0, 0)), (20, .iload_n 3, 1, (0, 0, 0, 0)), (21, .invokevirtual 195, 3, (125, 0, 863, 0)), (24, .aload_n 0, 1, (0, 0, 0, 0)), (25, .lload 4, 2, (0, 0, 0, 0)), (27, .aload_n 0, 1, (0, 0, 0, 0)), (28, .getfield 75, 3, (8, 19, 695, 0)), (31, .lmul, 1, (0, 0, 0, 0)), (32, .aload_n 0, 1, (0, 0, 0, 0)), (33, .getfield 71, 3, (8, 18, 694, 0)), (36, .lload 6, 2, (0, 0, 0, 0)), (38, .lmul, 1, (0, 0, 0, 0)), (39, .ladd, 1, (0, 0, 0, 0)), (40, .lload 6, 2, (0, 0, 0, 0)), (42, .aload_n 0, 1, (0, 0, 0, 0)), (43, .getfield 75, 3, (8, 19, 695, 0)), (46, .lmul, 1, (0, 0, 0, 0)), (47, .invokevirtual 187, 3, (100, 0, 900, 0)), (50, .aload_n 0, 1, (0, 0, 0, 0)), (51, .iload_n 1, 1, (0, 0, 0, 0)), (52, .iconst 1, 1, (0, 0, 0, 0)), (53, .iload_n 2, 1, (0, 0, 0, 0)), (54, .ishl, 1, (0, 0, 0, 0)), (55, .iconst 1, 1, (0, 0, 0, 0)), (56, .iload_n 3, 1, (0, 0, 0, 0)), (57, .ishl, 1, (0, 0, 0, 0)), (58, .ior, 1, (0, 0, 0, 0)), (59, .aload_n 0, 1, (0, 0, 0, 0)), (60, .getfield 71, 3, (8, 18, 694, 0)), (63, .aload_n 0, 1, (0, 0, 0, 0)), (64, .getfield 75, 3, (8, 19, 695, 0)), (67, .iload_n 2, 1, (0, 0, 0, 0)), (68, .invokevirtual 191, 3, (124, 0, 867, 0)), (71, .return_, 1, (0, 0, 0, 0))]
/-- EstateVesselsModel alone (IIII)J -/
def zc_131 : List (Nat × Instr × Nat × zRes) := [(0, .iload_n 1, 1, (0, 0, 0, 0)), (1, .invokestatic 103, 3, (97, 0, 797, 0)), (4, .ifCond .eq 39, 3, (43, 0, 0, 0)), (7, .aload_n 0, 1, (0, 0, 0, 0)), (8, .iload_n 2, 1, (0, 0, 0, 0)), (9, .invokevirtual 100, 3, (96, 0, 785, 0)), (12, .ifCond .eq 31, 3, (43, 0, 0, 0)), (15, .aload_n 0, 1, (0, 0, 0, 0)), (16, .iload_n 3, 1, (0, 0, 0, 0)), (17, .invokevirtual 100, 3, (96, 0, 785, 0)), (20, .ifCond .eq 23, 3, (43, 0, 0, 0)), (23, .iload_n 2, 1, (0, 0, 0, 0)), (24, .iload_n 3, 1, (0, 0, 0, 0)), (25, .if_icmp .eq 18, 3, (43, 0, 0, 0)), (28, .iload 4, 2, (0, 0, 0, 0)), (30, .invokestatic 199, 3, (98, 0, 859, 0)), (33, .ifCond .eq 10, 3, (43, 0, 0, 0)), (36, .aload_n 0, 1, (0, 0, 0, 0)), (37, .invokevirtual 109, 3, (105, 0, 823, 0)), (40, .ifCond .ne 7, 3, (47, 0, 0, 0)), (43, .ldc2_w 202, 3, (0, 0, 862, -9223372036854775808)), (46, .lreturn, 1, (0, 0, 0, 0)), (47, .aload_n 0, 1, (0, 0, 0, 0)), (48, .iload_n 1, 1, (0, 0, 0, 0)), (49, .iload_n 2, 1, (0, 0, 0, 0)), (50, .iload_n 3, 1, (0, 0, 0, 0)), (51, .invokevirtual 211, 3, (130, 0, 924, 0)), (54, .aload_n 0, 1, (0, 0, 0, 0)), (55, .iload 4, 2, (0, 0, 0, 0)), (57, .invokevirtual 204, 3, (101, 0, 904, 0)), (60, .lreturn, 1, (0, 0, 0, 0))]
/-- EstateVesselsModel isSame (III)Z -/
def zc_132 : List (Nat × Instr × Nat × zRes) := [(0, .aload_n 0, 1, (0, 0, 0, 0)), (1, .iload_n 1, 1, (0, 0, 0, 0)), (2, .iload_n 2, 1, (0, 0, 0, 0)), (3, .invokevirtual 195, 3, (125, 0, 863, 0)), (6, .aload_n 0, 1, (0, 0, 0, 0)), (7, .getfield 71, 3, (8, 18, 694, 0)), (10, .lstore 4, 2, (0, 0, 0, 0)), (12, .aload_n 0, 1, (0, 0, 0, 0)), (13, .getfield 75, 3, (8, 19, 695, 0)), (16, .lstore 6, 2, (0, 0, 0, 0)), (18, .aload_n 0, 1, (0, 0, 0, 0)), (19, .iload_n 1, 1, (0, 0, 0, 0)), (20, .iload_n 2, 1, (0, 0, 0, 0)), (21, .iload_n 3, 1, (0, 0, 0, 0)), (22, .invokevirtual 211, 3, (130, 0, 924, 0)), (25, .aload_n 0, 1, (0, 0, 0, 0)), (26, .getfield 71, 3, (8, 18, 694, 0)), (29, .lload 4, 2, (0, 0, 0, 0)), (31, .lcmp, 1, (0, 0, 0, 0)), (32, .ifCond .ne 17, 3, (49, 0, 0, 0)), (35, .aload_n 0, 1, (0, 0, 0, 0)), (36, .getfield 75, 3, (8, 19, 695, 0)), (39, .lload 6, 2, (0, 0, 0, 0)), (41, .lcmp, 1, (0, 0, 0, 0)), (42, .ifCond .ne 7, 3, (49, 0, 0, 0)), (45, .iconst 1, 1, (0, 0, 0, 0)), (46, .goto 4, 3, (50, 0, 0, 0)), (49, .iconst 0, 1, (0, 0, 0, 0)), (50, .ireturn, 1, (1, 0, 0, 0))]
/-- EstateVesselsModel consistent (I)I -/
def zc_133 : List (Nat × Instr × Nat × zRes) := [(0, .iload_n 1, 1, (0, 0, 0, 0)), (1, .invokestatic 103, 3, (97, 0, 797, 0)), (4, .ifCond .ne 6, 3, (10, 0, 0, 0)), (7, .bipush (-2), 2, (0, 0, 0, 0)), (9, .ireturn, 1, (0, 0, 0, 0)), (10, .aload_n 0, 1, (0, 0, 0, 0)), (11, .invokevirtual 109, 3, (105, 0, 823, 0)), (14, .ifCond .ne 6, 3, (20, 0, 0, 0)), (17, .bipush (-3), 2, (0, 0, 0, 0)), (19, .ireturn, 1, (0, 0, 0, 0)), (20, .iconst 0, 1, (0, 0, 0, 0)), (21, .istore_n 2, 1, (0, 0, 0, 0)), (22, .iload_n 2, 1, (0, 0, 0, 0)), (23, .aload_n 0, 1, (0, 0, 0, 0)), (24, .getfield 63, 3, (8, 0, 676, 0)), (27, .if_icmp .ge 44, 3, (71, 0, 0, 0)), (30, .iload_n 2, 1, (0, 0, 0, 0)), (31, .iconst 1, 1, (0, 0, 0, 0)), (32, .iadd, 1, (0, 0, 0, 0)), (33, .istore_n 3, 1, (0, 0, 0, 0)), (34, .iload_n 3, 1, (0, 0, 0, 0)), (35, .aload_n 0, 1, (0, 0, 0, 0)), (36, .getfield 63, 3, (8, 0, 676, 0)), (39, .if_icmp .ge 26, 3, (65, 0, 0, 0)), (42, .aload_n 0, 1, (0, 0, 0, 0)), (43, .iload_n 1, 1, (0, 0, 0, 0)), (44, .iload_n 2, 1, (0, 0, 0, 0)), (45, .iload_n 3, 1, (0, 0, 0, 0)), (46, .invokevirtual 215, 3, (132, 0, 932, 0)), (49, .ifCond .ne 10, 3, (59, 0, 0, 0)), (52, .bipush 10, 2, (0, 0, 0, 0)), (54, .iload_n 2, 1, (0, 0, 0, 0)), (55, .imul, 1, (0, 0, 0, 0)), (56, .iload_n 3, 1, (0, 0, 0, 0)), (57, .iadd, 1, (0, 0, 0, 0)), (58, .ireturn, 1, (0, 0, 0, 0)), (59, .iinc 3 1, 3, (0, 0, 0, 0)), (62, .goto (-28), 3, (34, 0, 0, 0)), (65, .iinc 2 1, 3, (0, 0, 0, 0)), (68, .goto (-46), 3, (22, 0, 0, 0)), (71, .bipush (-5), 2, (0, 0, 0, 0)), (73, .ireturn, 1, (0, 0, 0, 0))]
/-- EstateVesselsModel change (IIIII)J -/
def zc_134 : List (Nat × Instr × Nat × zRes) := [(0, .iload_n 1, 1, (0, 0, 0, 0)), (1, .invokestatic 103, 3, (97, 0, 797, 0)), (4, .ifCond .eq 42, 3, (46, 0, 0, 0)), (7, .aload_n 0, 1, (0, 0, 0, 0)), (8, .iload_n 2, 1, (0, 0, 0, 0)), (9, .invokevirtual 100, 3, (96, 0, 785, 0)), (12, .ifCond .eq 34, 3, (46, 0, 0, 0)), (15, .iload_n 3, 1, (0, 0, 0, 0)), (16, .invokestatic 96, 3, (99, 0, 775, 0)), (19, .ifCond .eq 27, 3, (46, 0, 0, 0)), (22, .aload_n 0, 1, (0, 0, 0, 0)), (23, .iload 4, 2, (0, 0, 0, 0)), (25, .invokevirtual 100, 3, (96, 0, 785, 0)), (28, .ifCond .eq 18, 3, (46, 0, 0, 0)), (31, .iload 5, 2, (0, 0, 0, 0)), (33, .invokestatic 199, 3, (98, 0, 859, 0)), (36, .ifCond .eq 10, 3, (46, 0, 0, 0)), (39, .aload_n 0, 1, (0, 0, 0, 0)), (40, .invokevirtual 109, 3, (105, 0, 823, 0)), (43, .ifCond .ne 7, 3, (50, 0, 0, 0)), (46, .ldc2_w 202, 3, (0, 0, 862, -9223372036854775808)), (49, .lreturn, 1, (0, 0, 0, 0)), (50, .aload_n 0, 1, (0, 0, 0, 0)), (51, .iload_n 1, 1, (0, 0, 0, 0)), (52, .iload 4, 2, (0, 0, 0, 0)), (54, .invokevirtual 195, 3, (125, 0, 863, 0)), (57, .aload_n 0, 1, (0, 0, 0, 0)), (58, .getfield 71, 3, (8, 18, 694, 0)), (61, .lstore 6, 2, (0, 0, 0, 0)), (63, .aload_n 0, 1, (0, 0, 0, 0)), (64, .getfield 75, 3, (8, 19, 695, 0)), (67, .lstore 8, 2, (0, 0, 0, 0)), (69, .aload_n 0, 1, (0, 0, 0, 0)), (70, .getfield 9, 3, (8, 1, 677, 0)), (73, .iload_n 2, 1, (0, 0, 0, 0)), (74, .iaload, 1, (0, 0, 0, 0)), (75, .istore 10, 2, (0, 0, 0, 0)), (77, .aload_n 0, 1, (0, 0, 0, 0)), (78, .getfield 9, 3, (8, 1, 677, 0)), (81, .iload_n 2, 1, (0, 0, 0, 0)), (82, .iload_n 3, 1, (0, 0, 0, 0)), (83, .iastore, 1, (0, 0, 0, 0)), (84, .aload_n 0, 1, (0, 0, 0, 0)), (85, .invokevirtual 109, 3, (105, 0, 823, 0)), (88, .istore 11, 2, (0, 0, 0, 0)), (90, .iload 11, 2, (0, 0, 0, 0)), (92, .ifCond .eq 10, 3, (102, 0, 0, 0)), (95, .aload_n 0, 1, (0, 0, 0, 0)), (96, .iload_n 1, 1, (0, 0, 0, 0)), (97, .iload 4, 2, (0, 0, 0, 0)), (99, .invokevirtual 195, 3, (125, 0, 863, 0)), (102, .aload_n 0, 1, (0, 0, 0, 0)), (103, .getfield 9, 3, (8, 1, 677, 0)), (106, .iload_n 2, 1, (0, 0, 0, 0)), (107, .iload 10, 2, (0, 0, 0, 0)), (109, .iastore, 1, (0, 0, 0, 0)), (110, .iload 11, 2, (0, 0, 0, 0)), (112, .ifCond .ne 7, 3, (119, 0, 0, 0)), (115, .ldc2_w 202, 3, (0, 0, 862, -9223372036854775808)), (118, .lreturn, 1, (0, 0, 0, 0)), (119, .aload_n 0, 1, (0, 0, 0, 0)), (120, .aload_n 0, 1, (0, 0, 0, 0)), (121, .getfield 71, 3, (8, 18, 694, 0)), (124, .lload 8, 2, (0, 0, 0, 0)), (126, .lmul, 1, (0, 0, 0, 0)), (127, .lload 6, 2, (0, 0, 0, 0)), (129, .aload_n 0, 1, (0, 0, 0, 0)), (130, .getfield 75, 3, (8, 19, 695, 0)), (133, .lmul, 1, (0, 0, 0, 0)), (134, .lsub, 1, (0, 0, 0, 0)), (135, .aload_n 0, 1, (0, 0, 0, 0)), (136, .getfield 75, 3, (8, 19, 695, 0)), (139, .lload 8, 2, (0, 0, 0, 0)), (141, .lmul, 1, (0, 0, 0, 0)), (142, .invokevirtual 187, 3, (100, 0, 900, 0)), (145, .aload_n 0, 1, (0, 0, 0, 0)), (146, .iload 5, 2, (0, 0, 0, 0)), (148, .invokevirtual 204, 3, (101, 0, 904, 0)), (151, .lreturn, 1, (0, 0, 0, 0))]
/-- EstateVesselsModel awardAt (III)V -/
def zc_135 : List (Nat × Instr × Nat × zRes) := [(0, .aload_n 0, 1, (0, 0, 0, 0)), (1, .iload_n 1, 1, (0, 0, 0, 0)), (2, .aload_n 0, 1, (0, 0, 0, 0)), (3, .invokevirtual 82, 3, (102, 0, 812, 0)), (6, .iload_n 2, 1, (0, 0, 0, 0)), (7, .i2l, 1, (0, 0, 0, 0)), (8, .lconst 1, 1, (0, 0, 0, 0)), (9, .iload_n 3, 1, (0, 0, 0, 0)), (10, .invokevirtual 191, 3, (124, 0, 867, 0)), (13, .return_, 1, (0, 0, 0, 0))]
/-- EstateVesselsModel inverse (III)I -/
def zc_136 : List (Nat × Instr × Nat × zRes) := [(0, .iload_n 1, 1, (0, 0, 0, 0)), (1, .invokestatic 103, 3, (97, 0, 797, 0)), (4, .ifCond .ne 6, 3, (10, 0, 0, 0)), (7, .bipush (-2), 2, (0, 0, 0, 0)), (9, .ireturn, 1, (0, 0, 0, 0)), (10, .aload_n 0, 1, (0, 0, 0, 0)), (11, .iload_n 2, 1, (0, 0, 0, 0)), (12, .invokevirtual 100, 3, (96, 0, 785, 0)), (15, .ifCond .ne 5, 3, (20, 0, 0, 0)), (18, .iconst (-1), 1, (0, 0, 0, 0)), (19, .ireturn, 1, (0, 0, 0, 0)), (20, .iload_n 3, 1, (0, 0, 0, 0)), (21, .iconst 0, 1, (0, 0, 0, 0)), (22, .bipush 60, 2, (0, 0, 0, 0)), (24, .invokestatic 67, 3, (94, 0, 778, 0)), (27, .ifCond .ne 6, 3, (33, 0, 0, 0)), (30, .bipush (-2), 2, (0, 0, 0, 0)), (32, .ireturn, 1, (0, 0, 0, 0)), (33, .iconst 0, 1, (0, 0, 0, 0)), (34, .istore 4, 2, (0, 0, 0, 0)), (36, .iload 4, 2, (0, 0, 0, 0)), (38, .aload_n 0, 1, (0, 0, 0, 0)), (39, .invokevirtual 93, 3, (104, 0, 808, 0)), (42, .if_icmp .gt 35, 3, (77, 0, 0, 0)), (45, .aload_n 0, 1, (0, 0, 0, 0)), (46, .iload_n 1, 1, (0, 0, 0, 0)), (47, .iload 4, 2, (0, 0, 0, 0)), (49, .iload_n 2, 1, (0, 0, 0, 0)), (50, .invokevirtual 218, 3, (135, 0, 944, 0)), (53, .aload_n 0, 1, (0, 0, 0, 0)), (54, .getfield 71, 3, (8, 18, 694, 0)), (57, .iload_n 3, 1, (0, 0, 0, 0)), (58, .i2l, 1, (0, 0, 0, 0)), (59, .aload_n 0, 1, (0, 0, 0, 0)), (60, .getfield 75, 3, (8, 19, 695, 0)), (63, .lmul, 1, (0, 0, 0, 0)), (64, .lcmp, 1, (0, 0, 0, 0)), (65, .ifCond .lt 6, 3, (71, 0, 0, 0)), (68, .iload 4, 2, (0, 0, 0, 0)), (70, .ireturn, 1, (0, 0, 0, 0)), (71, .iinc 4 1, 3, (0, 0, 0, 0)), (74, .goto (-38), 3, (36, 0, 0, 0)), (77, .bipush (-5), 2, (0, 0, 0, 0)), (79, .ireturn, 1, (0, 0, 0, 0))]
/-- EstateVesselsModel bends (II)I -/
def zc_137 : List (Nat × Instr × Nat × zRes) := [(0, .iload_n 1, 1, (0, 0, 0, 0)), (1, .invokestatic 103, 3, (97, 0, 797, 0)), (4, .ifCond .ne 6, 3, (10, 0, 0, 0)), (7, .bipush (-2), 2, (0, 0, 0, 0)), (9, .ireturn, 1, (0, 0, 0, 0)), (10, .aload_n 0, 1, (0, 0, 0, 0)), (11, .iload_n 2, 1, (0, 0, 0, 0)), (12, .invokevirtual 100, 3, (96, 0, 785, 0)), (15, .ifCond .ne 5, 3, (20, 0, 0, 0)), (18, .iconst (-1), 1, (0, 0, 0, 0)), (19, .ireturn, 1, (0, 0, 0, 0)), (20, .iconst 0, 1, (0, 0, 0, 0)), (21, .istore_n 3, 1, (0, 0, 0, 0)), (22, .aload_n 0, 1, (0, 0, 0, 0)), (23, .invokevirtual 93, 3, (104, 0, 808, 0)), (26, .istore 4, 2, (0, 0, 0, 0)), (28, .lconst 0, 1, (0, 0, 0, 0)), (29, .lstore 5, 2, (0, 0, 0, 0)), (31, .lconst 0, 1, (0, 0, 0, 0)), (32, .lstore 7, 2, (0, 0, 0, 0)), (34, .aload_n 0, 1, (0, 0, 0, 0)), (35, .iload_n 1, 1, (0, 0, 0, 0)), (36, .iconst 0, 1, (0, 0, 0, 0)), (37, .iload_n 2, 1, (0, 0, 0, 0)), (38, .invokevirtual 218, 3, (135, 0, 944, 0)), (41, .aload_n 0, 1, (0, 0, 0, 0)), (42, .getfield 71, 3, (8, 18, 694, 0)), (45, .lstore 9, 2, (0, 0, 0, 0)), (47, .aload_n 0, 1, (0, 0, 0, 0)), (48, .getfield 75, 3, (8, 19, 695, 0)), (51, .lstore 11, 2, (0, 0, 0, 0)), (53, .iconst 1, 1, (0, 0, 0, 0)), (54, .istore 13, 2, (0, 0, 0, 0)), (56, .iload 13, 2, (0, 0, 0, 0)), (58, .iload 4, 2, (0, 0, 0, 0)), (60, .if_icmp .gt 103, 3, (163, 0, 0, 0)), (63, .aload_n 0, 1, (0, 0, 0, 0)), (64, .iload_n 1, 1, (0, 0, 0, 0)), (65, .iload 13, 2, (0, 0, 0, 0)), (67, .iload_n 2, 1, (0, 0, 0, 0)), (68, .invokevirtual 218, 3, (135, 0, 944, 0)), (71, .aload_n 0, 1, (0, 0, 0, 0)), (72, .getfield 71, 3, (8, 18, 694, 0)), (75, .lstore 14, 2, (0, 0, 0, 0)), (77, .aload_n 0, 1, (0, 0, 0, 0)), (78, .getfield 75, 3, (8, 19, 695, 0)), (81, .lstore 16, 2, (0, 0, 0, 0)), (83, .aload_n 0, 1, (0, 0, 0, 0)), (84, .lload 14, 2, (0, 0, 0, 0)), (86, .lload 11, 2, (0, 0, 0, 0)), (88, .lmul, 1, (0, 0, 0, 0)), (89, .lload 9, 2, (0, 0, 0, 0)), (91, .lload 16, 2, (0, 0, 0, 0)), (93, .lmul, 1, (0, 0, 0, 0)), (94, .lsub, 1, (0, 0, 0, 0)), (95, .lload 16, 2, (0, 0, 0, 0)), (97, .lload 11, 2, (0, 0, 0, 0)), (99, .lmul, 1, (0, 0, 0, 0)), (100, .invokevirtual 187, 3, (100, 0, 900, 0)), (103, .iload_n 3, 1, (0, 0, 0, 0)), (104, .iload 13, 2, (0, 0, 0, 0)), (106, .iconst 1, 1, (0, 0, 0, 0)), (107, .if_icmp .le 27, 3, (134, 0, 0, 0)), (110, .aload_n 0, 1, (0, 0, 0, 0)), (111, .getfield 71, 3, (8, 18, 694, 0)), (114, .lload 5, 2, (0, 0, 0, 0)), (116, .lcmp, 1, (0, 0, 0, 0)), (117, .ifCond .ne 13, 3, (130, 0, 0, 0)), (120, .aload_n 0, 1, (0, 0, 0, 0)), (121, .getfield 75, 3, (8, 19, 695, 0)), (124, .lload 7, 2, (0, 0, 0, 0)), (126, .lcmp, 1, (0, 0, 0, 0)), (127, .ifCond .eq 7, 3, (134, 0, 0, 0)), (130, .iconst 1, 1, (0, 0, 0, 0)), (131, .goto 4, 3, (135, 0, 0, 0)), (134, .iconst 0, 1, (0, 0, 0, 0)), (135, .iadd, 1, (0, 0, 0, 0)), (136, .istore_n 3, 1, (0, 0, 0, 0)), (137, .aload_n 0, 1, (0, 0, 0, 0)), (138, .getfield 71, 3, (8, 18, 694, 0)), (141, .lstore 5, 2, (0, 0, 0, 0)), (143, .aload_n 0, 1, (0, 0, 0, 0)), (144, .getfield 75, 3, (8, 19, 695, 0)), (147, .lstore 7, 2, (0, 0, 0, 0)), (149, .lload 14, 2, (0, 0, 0, 0)), (151, .lstore 9, 2, (0, 0, 0, 0)), (153, .lload 16, 2, (0, 0, 0, 0)), (155, .lstore 11, 2, (0, 0, 0, 0)), (157, .iinc 13 1, 3, (0, 0, 0, 0)), (160, .goto (-104), 3, (56, 0, 0, 0)), (163, .iload_n 3, 1, (0, 0, 0, 0)), (164, .ireturn, 1, (0, 0, 0, 0))]
/-- EstateVesselsModel isLike (II)Z -/
def zc_138 : List (Nat × Instr × Nat × zRes) := [(0, .iconst 0, 1, (0, 0, 0, 0)), (1, .istore_n 3, 1, (0, 0, 0, 0)), (2, .iload_n 3, 1, (0, 0, 0, 0)), (3, .aload_n 0, 1, (0, 0, 0, 0)), (4, .getfield 63, 3, (8, 0, 676, 0)), (7, .if_icmp .ge 55, 3, (62, 0, 0, 0)), (10, .aload_n 0, 1, (0, 0, 0, 0)), (11, .iload_n 1, 1, (0, 0, 0, 0)), (12, .iload_n 3, 1, (0, 0, 0, 0)), (13, .invokevirtual 195, 3, (125, 0, 863, 0)), (16, .aload_n 0, 1, (0, 0, 0, 0)), (17, .getfield 71, 3, (8, 18, 694, 0)), (20, .lstore 4, 2, (0, 0, 0, 0)), (22, .aload_n 0, 1, (0, 0, 0, 0)), (23, .getfield 75, 3, (8, 19, 695, 0)), (26, .lstore 6, 2, (0, 0, 0, 0)), (28, .aload_n 0, 1, (0, 0, 0, 0)), (29, .iload_n 2, 1, (0, 0, 0, 0)), (30, .iload_n 3, 1, (0, 0, 0, 0)), (31, .invokevirtual 195, 3, (125, 0, 863, 0)), (34, .aload_n 0, 1, (0, 0, 0, 0)), (35, .getfield 71, 3, (8, 18, 694, 0)), (38, .lload 4, 2, (0, 0, 0, 0)), (40, .lcmp, 1, (0, 0, 0, 0)), (41, .ifCond .ne 13, 3, (54, 0, 0, 0)), (44, .aload_n 0, 1, (0, 0, 0, 0)), (45, .getfield 75, 3, (8, 19, 695, 0)), (48, .lload 6, 2, (0, 0, 0, 0)), (50, .lcmp, 1, (0, 0, 0, 0)), (51, .ifCond .eq 5, 3, (56, 0, 0, 0)), (54, .iconst 0, 1, (0, 0, 0, 0)), (55, .ireturn, 1, (1, 0, 0, 0)), (56, .iinc 3 1, 3, (0, 0, 0, 0)), (59, .goto (-57), 3, (2, 0, 0, 0)), (62, .iconst 1, 1, (0, 0, 0, 0)), (63, .ireturn, 1, (1, 0, 0, 0))]
/-- EstateVesselsModel likeOf (I)I -/
def zc_139 : List (Nat × Instr × Nat × zRes) := [(0, .iconst 0, 1, (0, 0, 0, 0)), (1, .istore_n 2, 1, (0, 0, 0, 0)), (2, .iconst 0, 1, (0, 0, 0, 0)), (3, .istore_n 3, 1, (0, 0, 0, 0)), (4, .iload_n 3, 1, (0, 0, 0, 0)), (5, .bipush 6, 2, (0, 0, 0, 0)), (7, .if_icmp .ge 28, 3, (35, 0, 0, 0)), (10, .iload_n 2, 1, (0, 0, 0, 0)), (11, .aload_n 0, 1, (0, 0, 0, 0)), (12, .iload_n 1, 1, (0, 0, 0, 0)), (13, .iload_n 3, 1, (0, 0, 0, 0)), (14, .invokevirtual 221, 3, (138, 0, 960, 0)), (17, .ifCond .eq 9, 3, (26, 0, 0, 0)), (20, .iconst 1, 1, (0, 0, 0, 0)), (21, .iload_n 3, 1, (0, 0, 0, 0)), (22, .ishl, 1, (0, 0, 0, 0)), (23, .goto 4, 3, (27, 0, 0, 0)), (26, .iconst 0, 1, (0, 0, 0, 0)), (27, .ior, 1, (0, 0, 0, 0)), (28, .istore_n 2, 1, (0, 0, 0, 0)), (29, .iinc 3 1, 3, (0, 0, 0, 0)), (32, .goto (-28), 3, (4, 0, 0, 0)), (35, .iload_n 2, 1, (0, 0, 0, 0)), (36, .ireturn, 1, (0, 0, 0, 0))]
/-- EstateVesselsModel like (I)I -/
def zc_140 : List (Nat × Instr × Nat × zRes) := [(0, .iload_n 1, 1, (0, 0, 0, 0)), (1, .invokestatic 103, 3, (97, 0, 797, 0)), (4, .ifCond .ne 6, 3, (10, 0, 0, 0)), (7, .bipush (-2), 2, (0, 0, 0, 0)), (9, .ireturn, 1, (0, 0, 0, 0)), (10, .aload_n 0, 1, (0, 0, 0, 0)), (11, .invokevirtual 109, 3, (105, 0, 823, 0)), (14, .ifCond .eq 11, 3, (25, 0, 0, 0)), (17, .aload_n 0, 1, (0, 0, 0, 0)), (18, .iload_n 1, 1, (0, 0, 0, 0)), (19, .invokevirtual 224, 3, (139, 0, 956, 0)), (22, .goto 5, 3, (27, 0, 0, 0)), (25, .bipush (-3), 2, (0, 0, 0, 0)), (27, .ireturn, 1, (0, 0, 0, 0))]
/-- EstateVesselsModel isSorer (III)Z -/
def zc_141 : List (Nat × Instr × Nat × zRes) := [(0, .aload_n 0, 1, (0, 0, 0, 0)), (1, .iload_n 1, 1, (0, 0, 0, 0)), (2, .iload_n 2, 1, (0, 0, 0, 0)), (3, .invokevirtual 195, 3, (125, 0, 863, 0)), (6, .aload_n 0, 1, (0, 0, 0, 0)), (7, .getfield 9, 3, (8, 1, 677, 0)), (10, .iload_n 2, 1, (0, 0, 0, 0)), (11, .iaload, 1, (0, 0, 0, 0)), (12, .i2l, 1, (0, 0, 0, 0)), (13, .aload_n 0, 1, (0, 0, 0, 0)), (14, .getfield 75, 3, (8, 19, 695, 0)), (17, .lmul, 1, (0, 0, 0, 0)), (18, .aload_n 0, 1, (0, 0, 0, 0)), (19, .getfield 71, 3, (8, 18, 694, 0)), (22, .lsub, 1, (0, 0, 0, 0)), (23, .lstore 4, 2, (0, 0, 0, 0)), (25, .aload_n 0, 1, (0, 0, 0, 0)), (26, .getfield 75, 3, (8, 19, 695, 0)), (29, .lstore 6, 2, (0, 0, 0, 0)), (31, .aload_n 0, 1, (0, 0, 0, 0)), (32, .iload_n 1, 1, (0, 0, 0, 0)), (33, .iload_n 3, 1, (0, 0, 0, 0)), (34, .invokevirtual 195, 3, (125, 0, 863, 0)), (37, .lload 4, 2, (0, 0, 0, 0)), (39, .aload_n 0, 1, (0, 0, 0, 0)), (40, .getfield 75, 3, (8, 19, 695, 0)), (43, .lmul, 1, (0, 0, 0, 0)), (44, .lstore 8, 2, (0, 0, 0, 0)), (46, .aload_n 0, 1, (0, 0, 0, 0)), (47, .getfield 9, 3, (8, 1, 677, 0)), (50, .iload_n 3, 1, (0, 0, 0, 0)), (51, .iaload, 1, (0, 0, 0, 0)), (52, .i2l, 1, (0, 0, 0, 0)), (53, .aload_n 0, 1, (0, 0, 0, 0)), (54, .getfield 75, 3, (8, 19, 695, 0)), (57, .lmul, 1, (0, 0, 0, 0)), (58, .aload_n 0, 1, (0, 0, 0, 0)), (59, .getfield 71, 3, (8, 18, 694, 0)), (62, .lsub, 1, (0, 0, 0, 0)), (63, .lload 6, 2, (0, 0, 0, 0)), (65, .lmul, 1, (0, 0, 0, 0)), (66, .lstore 10, 2, (0, 0, 0, 0)), (68, .lload 8, 2, (0, 0, 0, 0)), (70, .lload 10, 2, (0, 0, 0, 0)), (72, .lcmp, 1, (0, 0, 0, 0)), (73, .ifCond .eq 17, 3, (90, 0, 0, 0)), (76, .lload 8, 2, (0, 0, 0, 0)), (78, .lload 10, 2, (0, 0, 0, 0)), (80, .lcmp, 1, (0, 0, 0, 0)), (81, .ifCond .le 7, 3, (88, 0, 0, 0)), (84, .iconst 1, 1, (0, 0, 0, 0)), (85, .goto 4, 3, (89, 0, 0, 0)), (88, .iconst 0, 1, (0, 0, 0, 0)), (89, .ireturn, 1, (1, 0, 0, 0)), (90, .aload_n 0, 1, (0, 0, 0, 0)), (91, .getfield 9, 3, (8, 1, 677, 0)), (94, .iload_n 2, 1, (0, 0, 0, 0)), (95, .iaload, 1, (0, 0, 0, 0)), (96, .aload_n 0, 1, (0, 0, 0, 0)), (97, .getfield 9, 3, (8, 1, 677, 0)), (100, .iload_n 3, 1, (0, 0, 0, 0)), (101, .iaload, 1, (0, 0, 0, 0)), (102, .if_icmp .eq 26, 3, (128, 0, 0, 0)), (105, .aload_n 0, 1, (0, 0, 0, 0)), (106, .getfield 9, 3, (8, 1, 677, 0)), (109, .iload_n 2, 1, (0, 0, 0, 0)), (110, .iaload, 1, (0, 0, 0, 0)), (111, .aload_n 0, 1, (0, 0, 0, 0)), (112, .getfield 9, 3, (8, 1, 677, 0)), (115, .iload_n 3, 1, (0, 0, 0, 0)), (116, .iaload, 1, (0, 0, 0, 0)), (117, .if_icmp .le 7, 3, (124, 0, 0, 0)), (120, .iconst 1, 1, (0, 0, 0, 0)), (121, .goto 17, 3, (138, 0, 0, 0)), (124, .iconst 0, 1, (0, 0, 0, 0)), (125, .goto 13, 3, (138, 0, 0, 0)), (128, .iload_n 2, 1, (0, 0, 0, 0)), (129, .iload_n 3, 1, (0, 0, 0, 0)), (130, .if_icmp .ge 7, 3, (137, 0, 0, 0)), (133, .iconst 1, 1, (0, 0, 0, 0)), (134, .goto 4, 3, (138, 0, 0, 0)), (137, .iconst 0, 1, (0, 0, 0, 0)), (138, .ireturn, 1, (1, 0, 0, 0))]
/-- EstateVesselsModel sore (II)I -/
def zc_142 : List (Nat × Instr × Nat × zRes) := [(0, .iload_n 1, 1, (0, 0, 0, 0)), (1, .invokestatic 103, 3, (97, 0, 797, 0)), (4, .ifCond .ne 6, 3, (10, 0, 0, 0)), (7, .bipush (-2), 2, (0, 0, 0, 0)), (9, .ireturn, 1, (0, 0, 0, 0)), (10, .iload_n 2, 1, (0, 0, 0, 0)), (11, .iconst 0, 1, (0, 0, 0, 0)), (12, .aload_n 0, 1, (0, 0, 0, 0)), (13, .getfield 63, 3, (8, 0, 676, 0)), (16, .iconst 1, 1, (0, 0, 0, 0)), (17, .isub, 1, (0, 0, 0, 0)), (18, .invokestatic 67, 3, (94, 0, 778, 0)), (21, .ifCond .ne 5, 3, (26, 0, 0, 0)), (24, .iconst (-1), 1, (0, 0, 0, 0)), (25, .ireturn, 1, (0, 0, 0, 0)), (26, .aload_n 0, 1, (0, 0, 0, 0)), (27, .invokevirtual 109, 3, (105, 0, 823, 0)), (30, .ifCond .ne 6, 3, (36, 0, 0, 0)), (33, .bipush (-3), 2, (0, 0, 0, 0)), (35, .ireturn, 1, (0, 0, 0, 0)), (36, .iconst 0, 1, (0, 0, 0, 0)), (37, .istore_n 3, 1, (0, 0, 0, 0)), (38, .iload_n 3, 1, (0, 0, 0, 0)), (39, .aload_n 0, 1, (0, 0, 0, 0)), (40, .getfield 63, 3, (8, 0, 676, 0)), (43, .if_icmp .ge 65, 3, (108, 0, 0, 0)), (46, .iconst 0, 1, (0, 0, 0, 0)), (47, .istore 4, 2, (0, 0, 0, 0)), (49, .iconst 0, 1, (0, 0, 0, 0)), (50, .istore 5, 2, (0, 0, 0, 0)), (52, .iload 5, 2, (0, 0, 0, 0)), (54, .aload_n 0, 1, (0, 0, 0, 0)), (55, .getfield 63, 3, (8, 0, 676, 0)), (58, .if_icmp .ge 36, 3, (94, 0, 0, 0)), (61, .iload 4, 2, (0, 0, 0, 0)), (63, .iload 5, 2, (0, 0, 0, 0)), (65, .iload_n 3, 1, (0, 0, 0, 0)), (66, .if_icmp .eq 18, 3, (84, 0, 0, 0)), (69, .aload_n 0, 1, (0, 0, 0, 0)), (70, .iload_n 1, 1, (0, 0, 0, 0)), (71, .iload 5, 2, (0, 0, 0, 0)), (73, .iload_n 3, 1, (0, 0, 0, 0)), (74, .invokevirtual 227, 3, (141, 0, 968, 0)), (77, .ifCond .eq 7, 3, (84, 0, 0, 0)), (80, .iconst 1, 1, (0, 0, 0, 0)), (81, .goto 4, 3, (85, 0, 0, 0)), (84, .iconst 0, 1, (0, 0, 0, 0)), (85, .iadd, 1, (0, 0, 0, 0)), (86, .istore 4, 2, (0, 0, 0, 0)), (88, .iinc 5 1, 3, (0, 0, 0, 0)), (91, .goto (-39), 3, (52, 0, 0, 0)), (94, .iload 4, 2, (0, 0, 0, 0)), (96, .iload_n 2, 1, (0, 0, 0, 0)), (97, .if_icmp .ne 5, 3, (102, 0, 0, 0)), (100, .iload_n 3, 1, (0, 0, 0, 0)), (101, .ireturn, 1, (0, 0, 0, 0)), (102, .iinc 3 1, 3, (0, 0, 0, 0)), (105, .goto (-67), 3, (38, 0, 0, 0)), (108, .iconst (-1), 1, (0, 0, 0, 0)), (109, .ireturn, 1, (0, 0, 0, 0))]
/-- EstateVesselsModel asFloat (I)F -/
def zc_143 : List (Nat × Instr × Nat × zRes) := [(0, .iload_n 0, 1, (0, 0, 0, 0)), (1, .i2f, 1, (0, 0, 0, 0)), (2, .freturn, 1, (0, 0, 0, 0))]
/-- EstateVesselsModel surface (II)F -/
def zc_144 : List (Nat × Instr × Nat × zRes) := [(0, .aload_n 0, 1, (0, 0, 0, 0)), (1, .getfield 9, 3, (8, 1, 677, 0)), (4, .iload_n 2, 1, (0, 0, 0, 0)), (5, .iaload, 1, (0, 0, 0, 0)), (6, .invokestatic 230, 3, (143, 0, 984, 0)), (9, .fstore_n 3, 1, (0, 0, 0, 0)), (10, .aload_n 0, 1, (0, 0, 0, 0)), (11, .getfield 46, 3, (8, 25, 701, 0)), (14, .iload_n 2, 1, (0, 0, 0, 0)), (15, .faload, 1, (0, 0, 0, 0)), (16, .fstore 4, 2, (0, 0, 0, 0)), (18, .iload_n 1, 1, (0, 0, 0, 0)), (19, .tableswitch 69 0 3 #[29, 32, 37, 42], 29, (0, 0, 0, 0)), (48, .fload 4, 2, (0, 0, 0, 0)), (50, .freturn, 1, (0, 0, 0, 0)), (51, .fload 4, 2, (0, 0, 0, 0)), (53, .fload_n 3, 1, (0, 0, 0, 0)), (54, .fsub, 1, (0, 0, 0, 0)), (55, .freturn, 1, (0, 0, 0, 0)), (56, .fload 4, 2, (0, 0, 0, 0)), (58, .fload_n 3, 1, (0, 0, 0, 0)), (59, .fdiv, 1, (0, 0, 0, 0)), (60, .freturn, 1, (0, 0, 0, 0)), (61, .fconst 2, 1, (0, 0, 0, 0)), (62, .fload 4, 2, (0, 0, 0, 0)), (64, .fmul, 1, (0, 0, 0, 0)), (65, .fload_n 3, 1, (0, 0, 0, 0)), (66, .fcmp .g, 1, (0, 0, 0, 0)), (67, .ifCond .ge 8, 3, (75, 0, 0, 0)), (70, .fload 4, 2, (0, 0, 0, 0)), (72, .goto 15, 3, (87, 0, 0, 0)), (75, .aload_n 0, 1, (0, 0, 0, 0)), (76, .invokevirtual 234, 3, (145, 0, 995, 0)), (79, .invokestatic 230, 3, (143, 0, 984, 0)), (82, .fload_n 3, 1, (0, 0, 0, 0)), (83, .fload 4, 2, (0, 0, 0, 0)), (85, .fsub, 1, (0, 0, 0, 0)), (86, .fsub, 1, (0, 0, 0, 0)), (87, .freturn, 1, (0, 0, 0, 0)), (88, .fload 4, 2, (0, 0, 0, 0)), (90, .fload_n 3, 1, (0, 0, 0, 0)), (91, .ldc 237, 2, (1, 0, 1002, 1056964608)), (93, .fmul, 1, (0, 0, 0, 0)), (94, .fsub, 1, (0, 0, 0, 0)), (95, .freturn, 1, (0, 0, 0, 0))]
/-- EstateVesselsModel greatest ()I -/
def zc_145 : List (Nat × Instr × Nat × zRes) := [(0, .iconst 0, 1, (0, 0, 0, 0)), (1, .istore_n 1, 1, (0, 0, 0, 0)), (2, .iconst 0, 1, (0, 0, 0, 0)), (3, .istore_n 2, 1, (0, 0, 0, 0)), (4, .iload_n 2, 1, (0, 0, 0, 0)), (5, .aload_n 0, 1, (0, 0, 0, 0)), (6, .getfield 63, 3, (8, 0, 676, 0)), (9, .if_icmp .ge 20, 3, (29, 0, 0, 0)), (12, .iload_n 1, 1, (0, 0, 0, 0)), (13, .aload_n 0, 1, (0, 0, 0, 0)), (14, .getfield 9, 3, (8, 1, 677, 0)), (17, .iload_n 2, 1, (0, 0, 0, 0)), (18, .iaload, 1, (0, 0, 0, 0)), (19, .invokestatic 238, 3, (179, 0, 999, 0)), (22, .istore_n 1, 1, (0, 0, 0, 0)), (23, .iinc 2 1, 3, (0, 0, 0, 0)), (26, .goto (-22), 3, (4, 0, 0, 0)), (29, .iload_n 1, 1, (0, 0, 0, 0)), (30, .ireturn, 1, (0, 0, 0, 0))]
/-- EstateVesselsModel lowest (I)I -/
def zc_146 : List (Nat × Instr × Nat × zRes) := [(0, .iconst (-1), 1, (0, 0, 0, 0)), (1, .istore_n 2, 1, (0, 0, 0, 0)), (2, .iconst 0, 1, (0, 0, 0, 0)), (3, .istore_n 3, 1, (0, 0, 0, 0)), (4, .iload_n 3, 1, (0, 0, 0, 0)), (5, .aload_n 0, 1, (0, 0, 0, 0)), (6, .getfield 63, 3, (8, 0, 676, 0)), (9, .if_icmp .ge 50, 3, (59, 0, 0, 0)), (12, .aload_n 0, 1, (0, 0, 0, 0)), (13, .getfield 46, 3, (8, 25, 701, 0)), (16, .iload_n 3, 1, (0, 0, 0, 0)), (17, .faload, 1, (0, 0, 0, 0)), (18, .aload_n 0, 1, (0, 0, 0, 0)), (19, .getfield 9, 3, (8, 1, 677, 0)), (22, .iload_n 3, 1, (0, 0, 0, 0)), (23, .iaload, 1, (0, 0, 0, 0)), (24, .invokestatic 230, 3, (143, 0, 984, 0)), (27, .fcmp .g, 1, (0, 0, 0, 0)), (28, .ifCond .ge 25, 3, (53, 0, 0, 0)), (31, .iload_n 2, 1, (0, 0, 0, 0)), (32, .ifCond .lt 19, 3, (51, 0, 0, 0)), (35, .aload_n 0, 1, (0, 0, 0, 0)), (36, .iload_n 1, 1, (0, 0, 0, 0)), (37, .iload_n 3, 1, (0, 0, 0, 0)), (38, .invokevirtual 240, 3, (144, 0, 991, 0)), (41, .aload_n 0, 1, (0, 0, 0, 0)), (42, .iload_n 1, 1, (0, 0, 0, 0)), (43, .iload_n 2, 1, (0, 0, 0, 0)), (44, .invokevirtual 240, 3, (144, 0, 991, 0)), (47, .fcmp .g, 1, (0, 0, 0, 0)), (48, .ifCond .ge 5, 3, (53, 0, 0, 0)), (51, .iload_n 3, 1, (0, 0, 0, 0)), (52, .istore_n 2, 1, (0, 0, 0, 0)), (53, .iinc 3 1, 3, (0, 0, 0, 0)), (56, .goto (-52), 3, (4, 0, 0, 0)), (59, .iload_n 2, 1, (0, 0, 0, 0)), (60, .ireturn, 1, (0, 0, 0, 0))]
/-- EstateVesselsModel pours (II)V -/
def zc_147 : List (Nat × Instr × Nat × zRes) := [(0, .aload_n 0, 1, (0, 0, 0, 0)), (1, .getfield 90, 3, (8, 2, 678, 0)), (4, .invokestatic 230, 3, (143, 0, 984, 0)), (7, .iload_n 2, 1, (0, 0, 0, 0)), (8, .invokestatic 230, 3, (143, 0, 984, 0)), (11, .fdiv, 1, (0, 0, 0, 0)), (12, .fstore_n 3, 1, (0, 0, 0, 0)), (13, .iconst 0, 1, (0, 0, 0, 0)), (14, .istore 4, 2, (0, 0, 0, 0)), (16, .iload 4, 2, (0, 0, 0, 0)), (18, .bipush 6, 2, (0, 0, 0, 0)), (20, .if_icmp .ge 17, 3, (37, 0, 0, 0)), (23, .aload_n 0, 1, (0, 0, 0, 0)), (24, .getfield 46, 3, (8, 25, 701, 0)), (27, .iload 4, 2, (0, 0, 0, 0)), (29, .fconst 0, 1, (0, 0, 0, 0)), (30, .fastore, 1, (0, 0, 0, 0)), (31, .iinc 4 1, 3, (0, 0, 0, 0)), (34, .goto (-18), 3, (16, 0, 0, 0)), (37, .aload_n 0, 1, (0, 0, 0, 0)), (38, .fconst 0, 1, (0, 0, 0, 0)), (39, .putfield 244, 3, (8, 26, 702, 0)), (42, .iconst 0, 1, (0, 0, 0, 0)), (43, .istore 4, 2, (0, 0, 0, 0)), (45, .iload 4, 2, (0, 0, 0, 0)), (47, .iload_n 2, 1, (0, 0, 0, 0)), (48, .if_icmp .ge 100, 3, (148, 0, 0, 0)), (51, .aload_n 0, 1, (0, 0, 0, 0)), (52, .iload_n 1, 1, (0, 0, 0, 0)), (53, .invokevirtual 248, 3, (146, 0, 987, 0)), (56, .istore 5, 2, (0, 0, 0, 0)), (58, .iload 5, 2, (0, 0, 0, 0)), (60, .ifCond .ge 16, 3, (76, 0, 0, 0)), (63, .aload_n 0, 1, (0, 0, 0, 0)), (64, .aload_n 0, 1, (0, 0, 0, 0)), (65, .getfield 244, 3, (8, 26, 702, 0)), (68, .fload_n 3, 1, (0, 0, 0, 0)), (69, .fadd, 1, (0, 0, 0, 0)), (70, .putfield 244, 3, (8, 26, 702, 0)), (73, .goto 69, 3, (142, 0, 0, 0)), (76, .aload_n 0, 1, (0, 0, 0, 0)), (77, .getfield 9, 3, (8, 1, 677, 0)), (80, .iload 5, 2, (0, 0, 0, 0)), (82, .iaload, 1, (0, 0, 0, 0)), (83, .invokestatic 230, 3, (143, 0, 984, 0)), (86, .fstore 6, 2, (0, 0, 0, 0)), (88, .aload_n 0, 1, (0, 0, 0, 0)), (89, .getfield 46, 3, (8, 25, 701, 0)), (92, .iload 5, 2, (0, 0, 0, 0)), (94, .faload, 1, (0, 0, 0, 0)), (95, .fload_n 3, 1, (0, 0, 0, 0)), (96, .fadd, 1, (0, 0, 0, 0)), (97, .fstore 7, 2, (0, 0, 0, 0)), (99, .fload 7, 2, (0, 0, 0, 0)), (101, .fload 6, 2, (0, 0, 0, 0)), (103, .fcmp .l, 1, (0, 0, 0, 0)), (104, .ifCond .le 29, 3, (133, 0, 0, 0)), (107, .aload_n 0, 1, (0, 0, 0, 0)), (108, .getfield 46, 3, (8, 25, 701, 0)), (111, .iload 5, 2, (0, 0, 0, 0)), (113, .fload 6, 2, (0, 0, 0, 0)), (115, .fastore, 1, (0, 0, 0, 0)), (116, .aload_n 0, 1, (0, 0, 0, 0)), (117, .aload_n 0, 1, (0, 0, 0, 0)), (118, .getfield 244, 3, (8, 26, 702, 0)), (121, .fload 7, 2, (0, 0, 0, 0)), (123, .fload 6, 2, (0, 0, 0, 0)), (125, .fsub, 1, (0, 0, 0, 0)), (126, .fadd, 1, (0, 0, 0, 0)), (127, .putfield 244, 3, (8, 26, 702, 0)), (130, .goto 12, 3, (142, 0, 0, 0)), (133, .aload_n 0, 1, (0, 0, 0, 0)), (134, .getfield 46, 3, (8, 25, 701, 0)), (137, .iload 5, 2, (0, 0, 0, 0)), (139, .fload 7, 2, (0, 0, 0, 0)), (141, .fastore, 1, (0, 0, 0, 0)), (142, .iinc 4 1, 3, (0, 0, 0, 0)), (145, .goto (-100), 3, (45, 0, 0, 0)), (148, .return_, 1, (0, 0, 0, 0))]
/-- EstateVesselsModel canPour (II)Z -/
def zc_148 : List (Nat × Instr × Nat × zRes) := [(0, .iload_n 1, 1, (0, 0, 0, 0)), (1, .iconst 0, 1, (0, 0, 0, 0)), (2, .iconst 4, 1, (0, 0, 0, 0)), (3, .invokestatic 67, 3, (94, 0, 778, 0)), (6, .ifCond .eq 17, 3, (23, 0, 0, 0)), (9, .iload_n 2, 1, (0, 0, 0, 0)), (10, .iconst 1, 1, (0, 0, 0, 0)), (11, .bipush 60, 2, (0, 0, 0, 0)), (13, .invokestatic 67, 3, (94, 0, 778, 0)), (16, .ifCond .eq 7, 3, (23, 0, 0, 0)), (19, .iconst 1, 1, (0, 0, 0, 0)), (20, .goto 4, 3, (24, 0, 0, 0)), (23, .iconst 0, 1, (0, 0, 0, 0)), (24, .ireturn, 1, (1, 0, 0, 0))]
/-- EstateVesselsModel poured (III)J -/
def zc_149 : List (Nat × Instr × Nat × zRes) := [(0, .aload_n 0, 1, (0, 0, 0, 0)), (1, .iload_n 1, 1, (0, 0, 0, 0)), (2, .iload_n 2, 1, (0, 0, 0, 0)), (3, .invokevirtual 251, 3, (148, 0, 976, 0)), (6, .ifCond .eq 23, 3, (29, 0, 0, 0)), (9, .iload_n 3, 1, (0, 0, 0, 0)), (10, .iconst (-1), 1, (0, 0, 0, 0)), (11, .if_icmp .eq 11, 3, (22, 0, 0, 0)), (14, .aload_n 0, 1, (0, 0, 0, 0)), (15, .iload_n 3, 1, (0, 0, 0, 0)), (16, .invokevirtual 100, 3, (96, 0, 785, 0)), (19, .ifCond .eq 10, 3, (29, 0, 0, 0)), (22, .aload_n 0, 1, (0, 0, 0, 0)), (23, .invokevirtual 109, 3, (105, 0, 823, 0)), (26, .ifCond .ne 7, 3, (33, 0, 0, 0)), (29, .ldc2_w 202, 3, (0, 0, 862, -9223372036854775808)), (32, .lreturn, 1, (0, 0, 0, 0)), (33, .aload_n 0, 1, (0, 0, 0, 0)), (34, .iload_n 1, 1, (0, 0, 0, 0)), (35, .iload_n 2, 1, (0, 0, 0, 0)), (36, .invokevirtual 254, 3, (147, 0, 980, 0)), (39, .iload_n 3, 1, (0, 0, 0, 0)), (40, .ifCond .ge 10, 3, (50, 0, 0, 0)), (43, .aload_n 0, 1, (0, 0, 0, 0)), (44, .getfield 244, 3, (8, 26, 702, 0)), (47, .goto 9, 3, (56, 0, 0, 0)), (50, .aload_n 0, 1, (0, 0, 0, 0)), (51, .getfield 46, 3, (8, 25, 701, 0)), (54, .iload_n 3, 1, (0, 0, 0, 0)), (55, .faload, 1, (0, 0, 0, 0)), (56, .invokestatic 257, 3, (176, 0, 1003, 0)), (59, .i2l, 1, (0, 0, 0, 0)), (60, .lreturn, 1, (0, 0, 0, 0))]
/-- EstateVesselsModel gap (III)J -/
def zc_150 : List (Nat × Instr × Nat × zRes) := [(0, .aload_n 0, 1, (0, 0, 0, 0)), (1, .iload_n 1, 1, (0, 0, 0, 0)), (2, .iload_n 2, 1, (0, 0, 0, 0)), (3, .invokevirtual 251, 3, (148, 0, 976, 0)), (6, .ifCond .eq 17, 3, (23, 0, 0, 0)), (9, .iload_n 3, 1, (0, 0, 0, 0)), (10, .invokestatic 199, 3, (98, 0, 859, 0)), (13, .ifCond .eq 10, 3, (23, 0, 0, 0)), (16, .aload_n 0, 1, (0, 0, 0, 0)), (17, .invokevirtual 109, 3, (105, 0, 823, 0)), (20, .ifCond .ne 7, 3, (27, 0, 0, 0)), (23, .ldc2_w 202, 3, (0, 0, 862, -9223372036854775808)), (26, .lreturn, 1, (0, 0, 0, 0)), (27, .aload_n 0, 1, (0, 0, 0, 0)), (28, .iload_n 1, 1, (0, 0, 0, 0)), (29, .iload_n 2, 1, (0, 0, 0, 0)), (30, .invokevirtual 254, 3, (147, 0, 980, 0)), (33, .dconst 0, 1, (0, 0, 0, 0)), (34, .dstore 4, 2, (0, 0, 0, 0)), (36, .iconst 0, 1, (0, 0, 0, 0)), (37, .istore 6, 2, (0, 0, 0, 0)), (39, .iload 6, 2, (0, 0, 0, 0)), (41, .aload_n 0, 1, (0, 0, 0, 0)), (42, .getfield 63, 3, (8, 0, 676, 0)), (45, .if_icmp .ge 50, 3, (95, 0, 0, 0)), (48, .aload_n 0, 1, (0, 0, 0, 0)), (49, .iload_n 1, 1, (0, 0, 0, 0)), (50, .iload 6, 2, (0, 0, 0, 0)), (52, .invokevirtual 195, 3, (125, 0, 863, 0)), (55, .aload_n 0, 1, (0, 0, 0, 0)), (56, .getfield 46, 3, (8, 25, 701, 0)), (59, .iload 6, 2, (0, 0, 0, 0)), (61, .faload, 1, (0, 0, 0, 0)), (62, .f2d, 1, (0, 0, 0, 0)), (63, .aload_n 0, 1, (0, 0, 0, 0)), (64, .getfield 71, 3, (8, 18, 694, 0)), (67, .l2d, 1, (0, 0, 0, 0)), (68, .aload_n 0, 1, (0, 0, 0, 0)), (69, .getfield 75, 3, (8, 19, 695, 0)), (72, .l2d, 1, (0, 0, 0, 0)), (73, .ddiv, 1, (0, 0, 0, 0)), (74, .dsub, 1, (0, 0, 0, 0)), (75, .dstore 7, 2, (0, 0, 0, 0)), (77, .dload 4, 2, (0, 0, 0, 0)), (79, .dload 7, 2, (0, 0, 0, 0)), (81, .invokestatic 263, 3, (1005, 0, 1017, 0)), (84, .invokestatic 267, 3, (1006, 0, 1027, 0)), (87, .dstore 4, 2, (0, 0, 0, 0)), (89, .iinc 6 1, 3, (0, 0, 0, 0)), (92, .goto (-53), 3, (39, 0, 0, 0)), (95, .dload 4, 2, (0, 0, 0, 0)), (97, .invokestatic 270, 3, (174, 0, 1032, 0)), (100, .lstore 6, 2, (0, 0, 0, 0)), (102, .iload_n 3, 1, (0, 0, 0, 0)), (103, .ifCond .ne 11, 3, (114, 0, 0, 0)), (106, .lload 6, 2, (0, 0, 0, 0)), (108, .bipush 32, 2, (0, 0, 0, 0)), (110, .lushr, 1, (0, 0, 0, 0)), (111, .goto 9, 3, (120, 0, 0, 0)), (114, .lload 6, 2, (0, 0, 0, 0)), (116, .ldc2_w 276, 3, (0, 0, 1040, 4294967295)), (119, .land, 1, (0, 0, 0, 0)), (120, .lreturn, 1, (0, 0, 0, 0))]
/-- EstateVesselsModel see (II)I -/
def zc_151 : List (Nat × Instr × Nat × zRes) := [(0, .iload_n 1, 1, (0, 0, 0, 0)), (1, .iconst (-1), 1, (0, 0, 0, 0)), (2, .if_icmp .ne 10, 3, (12, 0, 0, 0)), (5, .aload_n 0, 1, (0, 0, 0, 0)), (6, .iconst 0, 1, (0, 0, 0, 0)), (7, .putfield 278, 3, (8, 4, 680, 0)), (10, .iconst 0, 1, (0, 0, 0, 0)), (11, .ireturn, 1, (0, 0, 0, 0)), (12, .aload_n 0, 1, (0, 0, 0, 0)), (13, .iload_n 1, 1, (0, 0, 0, 0)), (14, .invokevirtual 100, 3, (96, 0, 785, 0)), (17, .ifCond .ne 5, 3, (22, 0, 0, 0)), (20, .iconst (-1), 1, (0, 0, 0, 0)), (21, .ireturn, 1, (0, 0, 0, 0)), (22, .iload_n 2, 1, (0, 0, 0, 0)), (23, .iconst 0, 1, (0, 0, 0, 0)), (24, .bipush 60, 2, (0, 0, 0, 0)), (26, .invokestatic 67, 3, (94, 0, 778, 0)), (29, .ifCond .ne 6, 3, (35, 0, 0, 0)), (32, .bipush (-2), 2, (0, 0, 0, 0)), (34, .ireturn, 1, (0, 0, 0, 0)), (35, .aload_n 0, 1, (0, 0, 0, 0)), (36, .getfield 278, 3, (8, 4, 680, 0)), (39, .iconst 5, 1, (0, 0, 0, 0)), (40, .if_icmp .ne 6, 3, (46, 0, 0, 0)), (43, .bipush (-4), 2, (0, 0, 0, 0)), (45, .ireturn, 1, (0, 0, 0, 0)), (46, .aload_n 0, 1, (0, 0, 0, 0)), (47, .getfield 15, 3, (8, 5, 681, 0)), (50, .aload_n 0, 1, (0, 0, 0, 0)), (51, .getfield 278, 3, (8, 4, 680, 0)), (54, .iload_n 1, 1, (0, 0, 0, 0)), (55, .iastore, 1, (0, 0, 0, 0)), (56, .aload_n 0, 1, (0, 0, 0, 0)), (57, .getfield 18, 3, (8, 6, 682, 0)), (60, .aload_n 0, 1, (0, 0, 0, 0)), (61, .getfield 278, 3, (8, 4, 680, 0)), (64, .iload_n 2, 1, (0, 0, 0, 0)), (65, .iastore, 1, (0, 0, 0, 0)), (66, .aload_n 0, 1, (0, 0, 0, 0)), (67, .dup, 1, (0, 0, 0, 0)), (68, .getfield 278, 3, (8, 4, 680, 0)), (71, .iconst 1, 1, (0, 0, 0, 0)), (72, .iadd, 1, (0, 0, 0, 0)), (73, .putfield 278, 3, (8, 4, 680, 0)), (76, .aload_n 0, 1, (0, 0, 0, 0)), (77, .getfield 278, 3, (8, 4, 680, 0)), (80, .ireturn, 1, (0, 0, 0, 0))]
/-- EstateVesselsModel isSeen ()Z -/
def zc_152 : List (Nat × Instr × Nat × zRes) := [(0, .iconst 0, 1, (0, 0, 0, 0)), (1, .istore_n 1, 1, (0, 0, 0, 0)), (2, .iload_n 1, 1, (0, 0, 0, 0)), (3, .aload_n 0, 1, (0, 0, 0, 0)), (4, .getfield 278, 3, (8, 4, 680, 0)), (7, .if_icmp .ge 34, 3, (41, 0, 0, 0)), (10, .aload_n 0, 1, (0, 0, 0, 0)), (11, .aload_n 0, 1, (0, 0, 0, 0)), (12, .getfield 106, 3, (8, 3, 679, 0)), (15, .aload_n 0, 1, (0, 0, 0, 0)), (16, .getfield 15, 3, (8, 5, 681, 0)), (19, .iload_n 1, 1, (0, 0, 0, 0)), (20, .iaload, 1, (0, 0, 0, 0)), (21, .invokevirtual 208, 3, (126, 0, 912, 0)), (24, .aload_n 0, 1, (0, 0, 0, 0)), (25, .getfield 18, 3, (8, 6, 682, 0)), (28, .iload_n 1, 1, (0, 0, 0, 0)), (29, .iaload, 1, (0, 0, 0, 0)), (30, .if_icmp .eq 5, 3, (35, 0, 0, 0)), (33, .iconst 0, 1, (0, 0, 0, 0)), (34, .ireturn, 1, (1, 0, 0, 0)), (35, .iinc 1 1, 3, (0, 0, 0, 0)), (38, .goto (-36), 3, (2, 0, 0, 0)), (41, .iconst 1, 1, (0, 0, 0, 0)), (42, .ireturn, 1, (1, 0, 0, 0))]
/-- EstateVesselsModel fits (II)I -/
def zc_153 : List (Nat × Instr × Nat × zRes) := [(0, .aload_n 0, 1, (0, 0, 0, 0)), (1, .iload_n 1, 1, (0, 0, 0, 0)), (2, .invokevirtual 100, 3, (96, 0, 785, 0)), (5, .ifCond .eq 12, 3, (17, 0, 0, 0)), (8, .iload_n 2, 1, (0, 0, 0, 0)), (9, .iconst 0, 1, (0, 0, 0, 0)), (10, .iconst 1, 1, (0, 0, 0, 0)), (11, .invokestatic 67, 3, (94, 0, 778, 0)), (14, .ifCond .ne 5, 3, (19, 0, 0, 0)), (17, .iconst (-1), 1, (0, 0, 0, 0)), (18, .ireturn, 1, (0, 0, 0, 0)), (19, .aload_n 0, 1, (0, 0, 0, 0)), (20, .getfield 9, 3, (8, 1, 677, 0)), (23, .iload_n 1, 1, (0, 0, 0, 0)), (24, .iaload, 1, (0, 0, 0, 0)), (25, .istore_n 3, 1, (0, 0, 0, 0)), (26, .iconst 0, 1, (0, 0, 0, 0)), (27, .istore 4, 2, (0, 0, 0, 0)), (29, .bipush (-5), 2, (0, 0, 0, 0)), (31, .istore 5, 2, (0, 0, 0, 0)), (33, .bipush 30, 2, (0, 0, 0, 0)), (35, .istore 6, 2, (0, 0, 0, 0)), (37, .iload 6, 2, (0, 0, 0, 0)), (39, .ifCond .le 38, 3, (77, 0, 0, 0)), (42, .aload_n 0, 1, (0, 0, 0, 0)), (43, .getfield 9, 3, (8, 1, 677, 0)), (46, .iload_n 1, 1, (0, 0, 0, 0)), (47, .iload 6, 2, (0, 0, 0, 0)), (49, .iastore, 1, (0, 0, 0, 0)), (50, .aload_n 0, 1, (0, 0, 0, 0)), (51, .invokevirtual 109, 3, (105, 0, 823, 0)), (54, .ifCond .eq 17, 3, (71, 0, 0, 0)), (57, .aload_n 0, 1, (0, 0, 0, 0)), (58, .invokevirtual 281, 3, (152, 0, 1049, 0)), (61, .ifCond .eq 10, 3, (71, 0, 0, 0)), (64, .iinc 4 1, 3, (0, 0, 0, 0)), (67, .iload 6, 2, (0, 0, 0, 0)), (69, .istore 5, 2, (0, 0, 0, 0)), (71, .iinc 6 (-1), 3, (0, 0, 0, 0)), (74, .goto (-37), 3, (37, 0, 0, 0)), (77, .aload_n 0, 1, (0, 0, 0, 0)), (78, .getfield 9, 3, (8, 1, 677, 0)), (81, .iload_n 1, 1, (0, 0, 0, 0)), (82, .iload_n 3, 1, (0, 0, 0, 0)), (83, .iastore, 1, (0, 0, 0, 0)), (84, .iload_n 2, 1, (0, 0, 0, 0)), (85, .ifCond .ne 8, 3, (93, 0, 0, 0)), (88, .iload 4, 2, (0, 0, 0, 0)), (90, .goto 5, 3, (95, 0, 0, 0)), (93, .iload 5, 2, (0, 0, 0, 0)), (95, .ireturn, 1, (0, 0, 0, 0))]
/-- EstateVesselsModel odds (III)J -/
def zc_154 : List (Nat × Instr × Nat × zRes) := [(0, .iload_n 1, 1, (0, 0, 0, 0)), (1, .invokestatic 103, 3, (97, 0, 797, 0)), (4, .ifCond .eq 18, 3, (22, 0, 0, 0)), (7, .aload_n 0, 1, (0, 0, 0, 0)), (8, .iload_n 2, 1, (0, 0, 0, 0)), (9, .invokevirtual 100, 3, (96, 0, 785, 0)), (12, .ifCond .eq 10, 3, (22, 0, 0, 0)), (15, .iload_n 3, 1, (0, 0, 0, 0)), (16, .invokestatic 199, 3, (98, 0, 859, 0)), (19, .ifCond .ne 7, 3, (26, 0, 0, 0)), (22, .ldc2_w 202, 3, (0, 0, 862, -9223372036854775808)), (25, .lreturn, 1, (0, 0, 0, 0)), (26, .iconst 0, 1, (0, 0, 0, 0)), (27, .istore 4, 2, (0, 0, 0, 0)), (29, .aload_n 0, 1, (0, 0, 0, 0)), (30, .invokevirtual 93, 3, (104, 0, 808, 0)), (33, .istore 5, 2, (0, 0, 0, 0)), (35, .iconst 0, 1, (0, 0, 0, 0)), (36, .istore 6, 2, (0, 0, 0, 0)), (38, .iload 6, 2, (0, 0, 0, 0)), (40, .iload 5, 2, (0, 0, 0, 0)), (42, .if_icmp .gt 51, 3, (93, 0, 0, 0)), (45, .aload_n 0, 1, (0, 0, 0, 0)), (46, .iload_n 1, 1, (0, 0, 0, 0)), (47, .iload 6, 2, (0, 0, 0, 0)), (49, .iload_n 2, 1, (0, 0, 0, 0)), (50, .invokevirtual 218, 3, (135, 0, 944, 0)), (53, .iload 4, 2, (0, 0, 0, 0)), (55, .ldc2_w 179, 3, (0, 0, 871, 2)), (58, .aload_n 0, 1, (0, 0, 0, 0)), (59, .getfield 71, 3, (8, 18, 694, 0)), (62, .lmul, 1, (0, 0, 0, 0)), (63, .aload_n 0, 1, (0, 0, 0, 0)), (64, .getfield 9, 3, (8, 1, 677, 0)), (67, .iload_n 2, 1, (0, 0, 0, 0)), (68, .iaload, 1, (0, 0, 0, 0)), (69, .i2l, 1, (0, 0, 0, 0)), (70, .aload_n 0, 1, (0, 0, 0, 0)), (71, .getfield 75, 3, (8, 19, 695, 0)), (74, .lmul, 1, (0, 0, 0, 0)), (75, .lcmp, 1, (0, 0, 0, 0)), (76, .ifCond .lt 7, 3, (83, 0, 0, 0)), (79, .iconst 1, 1, (0, 0, 0, 0)), (80, .goto 4, 3, (84, 0, 0, 0)), (83, .iconst 0, 1, (0, 0, 0, 0)), (84, .iadd, 1, (0, 0, 0, 0)), (85, .istore 4, 2, (0, 0, 0, 0)), (87, .iinc 6 1, 3, (0, 0, 0, 0)), (90, .goto (-52), 3, (38, 0, 0, 0)), (93, .aload_n 0, 1, (0, 0, 0, 0)), (94, .iload 4, 2, (0, 0, 0, 0)), (96, .i2l, 1, (0, 0, 0, 0)), (97, .iload 5, 2, (0, 0, 0, 0)), (99, .i2l, 1, (0, 0, 0, 0)), (100, .lconst 1, 1, (0, 0, 0, 0)), (101, .ladd, 1, (0, 0, 0, 0)), (102, .invokevirtual 187, 3, (100, 0, 900, 0)), (105, .aload_n 0, 1, (0, 0, 0, 0)), (106, .iload_n 3, 1, (0, 0, 0, 0)), (107, .invokevirtual 204, 3, (101, 0, 904, 0)), (110, .lreturn, 1, (0, 0, 0, 0))]
/-- EstateVesselsModel mean (I)J -/
def zc_155 : List (Nat × Instr × Nat × zRes) := [(0, .iload_n 1, 1, (0, 0, 0, 0)), (1, .invokestatic 199, 3, (98, 0, 859, 0)), (4, .ifCond .eq 10, 3, (14, 0, 0, 0)), (7, .aload_n 0, 1, (0, 0, 0, 0)), (8, .getfield 63, 3, (8, 0, 676, 0)), (11, .ifCond .ne 7, 3, (18, 0, 0, 0)), (14, .ldc2_w 202, 3, (0, 0, 862, -9223372036854775808)), (17, .lreturn, 1, (0, 0, 0, 0)), (18, .aload_n 0, 1, (0, 0, 0, 0)), (19, .aload_n 0, 1, (0, 0, 0, 0)), (20, .getfield 90, 3, (8, 2, 678, 0)), (23, .i2l, 1, (0, 0, 0, 0)), (24, .aload_n 0, 1, (0, 0, 0, 0)), (25, .getfield 63, 3, (8, 0, 676, 0)), (28, .i2l, 1, (0, 0, 0, 0)), (29, .invokevirtual 187, 3, (100, 0, 900, 0)), (32, .aload_n 0, 1, (0, 0, 0, 0)), (33, .iload_n 1, 1, (0, 0, 0, 0)), (34, .invokevirtual 204, 3, (101, 0, 904, 0)), (37, .lreturn, 1, (0, 0, 0, 0))]
/-- EstateVesselsModel event (II)I -/
def zc_156 : List (Nat × Instr × Nat × zRes) := [(0, .iload_n 1, 1, (0, 0, 0, 0)), (1, .iconst (-1), 1, (0, 0, 0, 0)), (2, .if_icmp .ne 10, 3, (12, 0, 0, 0)), (5, .aload_n 0, 1, (0, 0, 0, 0)), (6, .iconst 0, 1, (0, 0, 0, 0)), (7, .putfield 284, 3, (8, 7, 683, 0)), (10, .iconst 0, 1, (0, 0, 0, 0)), (11, .ireturn, 1, (0, 0, 0, 0)), (12, .iload_n 1, 1, (0, 0, 0, 0)), (13, .iconst 0, 1, (0, 0, 0, 0)), (14, .iconst 3, 1, (0, 0, 0, 0)), (15, .invokestatic 67, 3, (94, 0, 778, 0)), (18, .ifCond .eq 16, 3, (34, 0, 0, 0)), (21, .iload_n 1, 1, (0, 0, 0, 0)), (22, .iconst 2, 1, (0, 0, 0, 0)), (23, .if_icmp .ge 13, 3, (36, 0, 0, 0)), (26, .aload_n 0, 1, (0, 0, 0, 0)), (27, .iload_n 2, 1, (0, 0, 0, 0)), (28, .invokevirtual 100, 3, (96, 0, 785, 0)), (31, .ifCond .ne 5, 3, (36, 0, 0, 0)), (34, .iconst (-1), 1, (0, 0, 0, 0)), (35, .ireturn, 1, (0, 0, 0, 0)), (36, .iload_n 1, 1, (0, 0, 0, 0)), (37, .iconst 2, 1, (0, 0, 0, 0)), (38, .if_icmp .ne 10, 3, (48, 0, 0, 0)), (41, .iload_n 2, 1, (0, 0, 0, 0)), (42, .invokestatic 103, 3, (97, 0, 797, 0)), (45, .ifCond .eq 19, 3, (64, 0, 0, 0)), (48, .iload_n 1, 1, (0, 0, 0, 0)), (49, .iconst 3, 1, (0, 0, 0, 0)), (50, .if_icmp .ne 17, 3, (67, 0, 0, 0)), (53, .iload_n 2, 1, (0, 0, 0, 0)), (54, .iconst 0, 1, (0, 0, 0, 0)), (55, .sipush 360, 3, (0, 0, 0, 0)), (58, .invokestatic 67, 3, (94, 0, 778, 0)), (61, .ifCond .ne 6, 3, (67, 0, 0, 0)), (64, .bipush (-2), 2, (0, 0, 0, 0)), (66, .ireturn, 1, (0, 0, 0, 0)), (67, .aload_n 0, 1, (0, 0, 0, 0)), (68, .getfield 284, 3, (8, 7, 683, 0)), (71, .bipush 8, 2, (0, 0, 0, 0)), (73, .if_icmp .ne 6, 3, (79, 0, 0, 0)), (76, .bipush (-4), 2, (0, 0, 0, 0)), (78, .ireturn, 1, (0, 0, 0, 0)), (79, .aload_n 0, 1, (0, 0, 0, 0)), (80, .getfield 21, 3, (8, 8, 684, 0)), (83, .aload_n 0, 1, (0, 0, 0, 0)), (84, .getfield 284, 3, (8, 7, 683, 0)), (87, .iload_n 1, 1, (0, 0, 0, 0)), (88, .iastore, 1, (0, 0, 0, 0)), (89, .aload_n 0, 1, (0, 0, 0, 0)), (90, .getfield 24, 3, (8, 9, 685, 0)), (93, .aload_n 0, 1, (0, 0, 0, 0)), (94, .getfield 284, 3, (8, 7, 683, 0)), (97, .iload_n 2, 1, (0, 0, 0, 0)), (98, .iastore, 1, (0, 0, 0, 0)), (99, .aload_n 0, 1, (0, 0, 0, 0)), (100, .dup, 1, (0, 0, 0, 0)), (101, .getfield 284, 3, (8, 7, 683, 0)), (104, .iconst 1, 1, (0, 0, 0, 0)), (105, .iadd, 1, (0, 0, 0, 0)), (106, .putfield 284, 3, (8, 7, 683, 0)), (109, .aload_n 0, 1, (0, 0, 0, 0)), (110, .getfield 284, 3, (8, 7, 683, 0)), (113, .ireturn, 1, (0, 0, 0, 0))]
/-- EstateVesselsModel happens (II)V -/
def zc_157 : List (Nat × Instr × Nat × zRes) := [(0, .iload_n 1, 1, (0, 0, 0, 0)), (1, .tableswitch 67 0 2 #[27, 49, 59], 27, (0, 0, 0, 0)), (28, .aload_n 0, 1, (0, 0, 0, 0)), (29, .getfield 9, 3, (8, 1, 677, 0)), (32, .iload_n 2, 1, (0, 0, 0, 0)), (33, .bipush 60, 2, (0, 0, 0, 0)), (35, .aload_n 0, 1, (0, 0, 0, 0)), (36, .getfield 9, 3, (8, 1, 677, 0)), (39, .iload_n 2, 1, (0, 0, 0, 0)), (40, .iaload, 1, (0, 0, 0, 0)), (41, .iconst 5, 1, (0, 0, 0, 0)), (42, .iadd, 1, (0, 0, 0, 0)), (43, .invokestatic 287, 3, (181, 0, 1077, 0)), (46, .iastore, 1, (0, 0, 0, 0)), (47, .goto 37, 3, (84, 0, 0, 0)), (50, .aload_n 0, 1, (0, 0, 0, 0)), (51, .getfield 9, 3, (8, 1, 677, 0)), (54, .iload_n 2, 1, (0, 0, 0, 0)), (55, .iconst 1, 1, (0, 0, 0, 0)), (56, .iastore, 1, (0, 0, 0, 0)), (57, .goto 27, 3, (84, 0, 0, 0)), (60, .aload_n 0, 1, (0, 0, 0, 0)), (61, .iload_n 2, 1, (0, 0, 0, 0)), (62, .putfield 106, 3, (8, 3, 679, 0)), (65, .goto 19, 3, (84, 0, 0, 0)), (68, .aload_n 0, 1, (0, 0, 0, 0)), (69, .sipush 360, 3, (0, 0, 0, 0)), (72, .aload_n 0, 1, (0, 0, 0, 0)), (73, .getfield 90, 3, (8, 2, 678, 0)), (76, .iload_n 2, 1, (0, 0, 0, 0)), (77, .iadd, 1, (0, 0, 0, 0)), (78, .invokestatic 287, 3, (181, 0, 1077, 0)), (81, .putfield 90, 3, (8, 2, 678, 0)), (84, .return_, 1, (0, 0, 0, 0))]
/-- EstateVesselsModel after (I)J -/
def zc_158 : List (Nat × Instr × Nat × zRes) := [(0, .iload_n 1, 1, (0, 0, 0, 0)), (1, .iconst 0, 1, (0, 0, 0, 0)), (2, .iconst 2, 1, (0, 0, 0, 0)), (3, .invokestatic 67, 3, (94, 0, 778, 0)), (6, .ifCond .ne 7, 3, (13, 0, 0, 0)), (9, .ldc2_w 202, 3, (0, 0, 862, -9223372036854775808)), (12, .lreturn, 1, (0, 0, 0, 0)), (13, .aload_n 0, 1, (0, 0, 0, 0)), (14, .aload_n 0, 1, (0, 0, 0, 0)), (15, .getfield 39, 3, (8, 16, 692, 0)), (18, .invokevirtual 289, 3, (161, 0, 1069, 0)), (21, .iconst 0, 1, (0, 0, 0, 0)), (22, .istore_n 2, 1, (0, 0, 0, 0)), (23, .iload_n 2, 1, (0, 0, 0, 0)), (24, .aload_n 0, 1, (0, 0, 0, 0)), (25, .getfield 284, 3, (8, 7, 683, 0)), (28, .if_icmp .ge 25, 3, (53, 0, 0, 0)), (31, .aload_n 0, 1, (0, 0, 0, 0)), (32, .aload_n 0, 1, (0, 0, 0, 0)), (33, .getfield 21, 3, (8, 8, 684, 0)), (36, .iload_n 2, 1, (0, 0, 0, 0)), (37, .iaload, 1, (0, 0, 0, 0)), (38, .aload_n 0, 1, (0, 0, 0, 0)), (39, .getfield 24, 3, (8, 9, 685, 0)), (42, .iload_n 2, 1, (0, 0, 0, 0)), (43, .iaload, 1, (0, 0, 0, 0)), (44, .invokevirtual 293, 3, (157, 0, 1073, 0)), (47, .iinc 2 1, 3, (0, 0, 0, 0)), (50, .goto (-27), 3, (23, 0, 0, 0)), (53, .ldc2_w 202, 3, (0, 0, 862, -9223372036854775808)), (56, .lstore_n 2, 1, (0, 0, 0, 0)), (57, .aload_n 0, 1, (0, 0, 0, 0)), (58, .invokevirtual 109, 3, (105, 0, 823, 0)), (61, .ifCond .eq 35, 3, (96, 0, 0, 0)), (64, .aload_n 0, 1, (0, 0, 0, 0)), (65, .aload_n 0, 1, (0, 0, 0, 0)), (66, .getfield 106, 3, (8, 3, 679, 0)), (69, .iconst 0, 1, (0, 0, 0, 0)), (70, .invokevirtual 195, 3, (125, 0, 863, 0)), (73, .iload_n 1, 1, (0, 0, 0, 0)), (74, .iconst 2, 1, (0, 0, 0, 0)), (75, .if_icmp .ne 15, 3, (90, 0, 0, 0)), (78, .aload_n 0, 1, (0, 0, 0, 0)), (79, .aload_n 0, 1, (0, 0, 0, 0)), (80, .getfield 106, 3, (8, 3, 679, 0)), (83, .invokevirtual 224, 3, (139, 0, 956, 0)), (86, .i2l, 1, (0, 0, 0, 0)), (87, .goto 8, 3, (95, 0, 0, 0)), (90, .aload_n 0, 1, (0, 0, 0, 0)), (91, .iload_n 1, 1, (0, 0, 0, 0)), (92, .invokevirtual 204, 3, (101, 0, 904, 0)), (95, .lstore_n 2, 1, (0, 0, 0, 0)), (96, .aload_n 0, 1, (0, 0, 0, 0)), (97, .aload_n 0, 1, (0, 0, 0, 0)), (98, .getfield 39, 3, (8, 16, 692, 0)), (101, .invokevirtual 296, 3, (162, 0, 1078, 0)), (104, .lload_n 2, 1, (0, 0, 0, 0)), (105, .lreturn, 1, (0, 0, 0, 0))]
/-- EstateVesselsModel book (II)I -/
def zc_159 : List (Nat × Instr × Nat × zRes) := [(0, .iload_n 1, 1, (0, 0, 0, 0)), (1, .iconst (-1), 1, (0, 0, 0, 0)), (2, .if_icmp .ne 10, 3, (12, 0, 0, 0)), (5, .aload_n 0, 1, (0, 0, 0, 0)), (6, .iconst 0, 1, (0, 0, 0, 0)), (7, .putfield 299, 3, (8, 10, 686, 0)), (10, .iconst 0, 1, (0, 0, 0, 0)), (11, .ireturn, 1, (0, 0, 0, 0)), (12, .aload_n 0, 1, (0, 0, 0, 0)), (13, .iload_n 1, 1, (0, 0, 0, 0)), (14, .invokevirtual 100, 3, (96, 0, 785, 0)), (17, .ifCond .ne 5, 3, (22, 0, 0, 0)), (20, .iconst (-1), 1, (0, 0, 0, 0)), (21, .ireturn, 1, (0, 0, 0, 0)), (22, .iload_n 2, 1, (0, 0, 0, 0)), (23, .iconst 0, 1, (0, 0, 0, 0)), (24, .bipush 60, 2, (0, 0, 0, 0)), (26, .invokestatic 67, 3, (94, 0, 778, 0)), (29, .ifCond .ne 6, 3, (35, 0, 0, 0)), (32, .bipush (-2), 2, (0, 0, 0, 0)), (34, .ireturn, 1, (0, 0, 0, 0)), (35, .aload_n 0, 1, (0, 0, 0, 0)), (36, .getfield 299, 3, (8, 10, 686, 0)), (39, .bipush 8, 2, (0, 0, 0, 0)), (41, .if_icmp .ne 6, 3, (47, 0, 0, 0)), (44, .bipush (-4), 2, (0, 0, 0, 0)), (46, .ireturn, 1, (0, 0, 0, 0)), (47, .aload_n 0, 1, (0, 0, 0, 0)), (48, .getfield 27, 3, (8, 11, 687, 0)), (51, .aload_n 0, 1, (0, 0, 0, 0)), (52, .getfield 299, 3, (8, 10, 686, 0)), (55, .iload_n 1, 1, (0, 0, 0, 0)), (56, .iastore, 1, (0, 0, 0, 0)), (57, .aload_n 0, 1, (0, 0, 0, 0)), (58, .getfield 30, 3, (8, 12, 688, 0)), (61, .aload_n 0, 1, (0, 0, 0, 0)), (62, .getfield 299, 3, (8, 10, 686, 0)), (65, .iload_n 2, 1, (0, 0, 0, 0)), (66, .iastore, 1, (0, 0, 0, 0)), (67, .aload_n 0, 1, (0, 0, 0, 0)), (68, .dup, 1, (0, 0, 0, 0)), (69, .getfield 299, 3, (8, 10, 686, 0)), (72, .iconst 1, 1, (0, 0, 0, 0)), (73, .iadd, 1, (0, 0, 0, 0)), (74, .putfield 299, 3, (8, 10, 686, 0)), (77, .aload_n 0, 1, (0, 0, 0, 0)), (78, .getfield 299, 3, (8, 10, 686, 0)), (81, .ireturn, 1, (0, 0, 0, 0))]
/-- EstateVesselsModel looked ()I -/
def zc_160 : List (Nat × Instr × Nat × zRes) := [(0, .aload_n 0, 1, (0, 0, 0, 0)), (1, .invokevirtual 109, 3, (105, 0, 823, 0)), (4, .ifCond .ne 6, 3, (10, 0, 0, 0)), (7, .bipush (-3), 2, (0, 0, 0, 0)), (9, .ireturn, 1, (0, 0, 0, 0)), (10, .iconst 0, 1, (0, 0, 0, 0)), (11, .istore_n 1, 1, (0, 0, 0, 0)), (12, .iload_n 1, 1, (0, 0, 0, 0)), (13, .aload_n 0, 1, (0, 0, 0, 0)), (14, .getfield 299, 3, (8, 10, 686, 0)), (17, .if_icmp .ge 34, 3, (51, 0, 0, 0)), (20, .aload_n 0, 1, (0, 0, 0, 0)), (21, .aload_n 0, 1, (0, 0, 0, 0)), (22, .getfield 106, 3, (8, 3, 679, 0)), (25, .aload_n 0, 1, (0, 0, 0, 0)), (26, .getfield 27, 3, (8, 11, 687, 0)), (29, .iload_n 1, 1, (0, 0, 0, 0)), (30, .iaload, 1, (0, 0, 0, 0)), (31, .invokevirtual 208, 3, (126, 0, 912, 0)), (34, .aload_n 0, 1, (0, 0, 0, 0)), (35, .getfield 30, 3, (8, 12, 688, 0)), (38, .iload_n 1, 1, (0, 0, 0, 0)), (39, .iaload, 1, (0, 0, 0, 0)), (40, .if_icmp .eq 5, 3, (45, 0, 0, 0)), (43, .iload_n 1, 1, (0, 0, 0, 0)), (44, .ireturn, 1, (0, 0, 0, 0)), (45, .iinc 1 1, 3, (0, 0, 0, 0)), (48, .goto (-36), 3, (12, 0, 0, 0)), (51, .bipush (-5), 2, (0, 0, 0, 0)), (53, .ireturn, 1, (0, 0, 0, 0))]
/-- EstateVesselsModel keeps ([I)V -/
def zc_161 : List (Nat × Instr × Nat × zRes) := [(0, .iconst 0, 1, (0, 0, 0, 0)), (1, .istore_n 2, 1, (0, 0, 0, 0)), (2, .iload_n 2, 1, (0, 0, 0, 0)), (3, .bipush 6, 2, (0, 0, 0, 0)), (5, .if_icmp .ge 18, 3, (23, 0, 0, 0)), (8, .aload_n 1, 1, (0, 0, 0, 0)), (9, .iload_n 2, 1, (0, 0, 0, 0)), (10, .aload_n 0, 1, (0, 0, 0, 0)), (11, .getfield 9, 3, (8, 1, 677, 0)), (14, .iload_n 2, 1, (0, 0, 0, 0)), (15, .iaload, 1, (0, 0, 0, 0)), (16, .iastore, 1, (0, 0, 0, 0)), (17, .iinc 2 1, 3, (0, 0, 0, 0)), (20, .goto (-18), 3, (2, 0, 0, 0)), (23, .iconst 0, 1, (0, 0, 0, 0)), (24, .istore_n 2, 1, (0, 0, 0, 0)), (25, .iload_n 2, 1, (0, 0, 0, 0)), (26, .iconst 5, 1, (0, 0, 0, 0)), (27, .if_icmp .ge 33, 3, (60, 0, 0, 0)), (30, .aload_n 1, 1, (0, 0, 0, 0)), (31, .bipush 6, 2, (0, 0, 0, 0)), (33, .iload_n 2, 1, (0, 0, 0, 0)), (34, .iadd, 1, (0, 0, 0, 0)), (35, .aload_n 0, 1, (0, 0, 0, 0)), (36, .getfield 15, 3, (8, 5, 681, 0)), (39, .iload_n 2, 1, (0, 0, 0, 0)), (40, .iaload, 1, (0, 0, 0, 0)), (41, .iastore, 1, (0, 0, 0, 0)), (42, .aload_n 1, 1, (0, 0, 0, 0)), (43, .bipush 11, 2, (0, 0, 0, 0)), (45, .iload_n 2, 1, (0, 0, 0, 0)), (46, .iadd, 1, (0, 0, 0, 0)), (47, .aload_n 0, 1, (0, 0, 0, 0)), (48, .getfield 18, 3, (8, 6, 682, 0)), (51, .iload_n 2, 1, (0, 0, 0, 0)), (52, .iaload, 1, (0, 0, 0, 0)), (53, .iastore, 1, (0, 0, 0, 0)), (54, .iinc 2 1, 3, (0, 0, 0, 0)), (57, .goto (-32), 3, (25, 0, 0, 0)), (60, .iconst 0, 1, (0, 0, 0, 0)), (61, .istore_n 2, 1, (0, 0, 0, 0)), (62, .iload_n 2, 1, (0, 0, 0, 0)), (63, .bipush 8, 2, (0, 0, 0, 0)), (65, .if_icmp .ge 57, 3, (122, 0, 0, 0)), (68, .aload_n 1, 1, (0, 0, 0, 0)), (69, .bipush 16, 2, (0, 0, 0, 0)), (71, .iload_n 2, 1, (0, 0, 0, 0)), (72, .iadd, 1, (0, 0, 0, 0)), (73, .aload_n 0, 1, (0, 0, 0, 0)), (74, .getfield 21, 3, (8, 8, 684, 0)), (77, .iload_n 2, 1, (0, 0, 0, 0)), (78, .iaload, 1, (0, 0, 0, 0)), (79, .iastore, 1, (0, 0, 0, 0)), (80, .aload_n 1, 1, (0, 0, 0, 0)), (81, .bipush 24, 2, (0, 0, 0, 0)), (83, .iload_n 2, 1, (0, 0, 0, 0)), (84, .iadd, 1, (0, 0, 0, 0)), (85, .aload_n 0, 1, (0, 0, 0, 0)), (86, .getfield 24, 3, (8, 9, 685, 0)), (89, .iload_n 2, 1, (0, 0, 0, 0)), (90, .iaload, 1, (0, 0, 0, 0)), (91, .iastore, 1, (0, 0, 0, 0)), (92, .aload_n 1, 1, (0, 0, 0, 0)), (93, .bipush 32, 2, (0, 0, 0, 0)), (95, .iload_n 2, 1, (0, 0, 0, 0)), (96, .iadd, 1, (0, 0, 0, 0)), (97, .aload_n 0, 1, (0, 0, 0, 0)), (98, .getfield 27, 3, (8, 11, 687, 0)), (101, .iload_n 2, 1, (0, 0, 0, 0)), (102, .iaload, 1, (0, 0, 0, 0)), (103, .iastore, 1, (0, 0, 0, 0)), (104, .aload_n 1, 1, (0, 0, 0, 0)), (105, .bipush 40, 2, (0, 0, 0, 0)), (107, .iload_n 2, 1, (0, 0, 0, 0)), (108, .iadd, 1, (0, 0, 0, 0)), (109, .aload_n 0, 1, (0, 0, 0, 0)), (110, .getfield 30, 3, (8, 12, 688, 0)), (113, .iload_n 2, 1, (0, 0, 0, 0)), (114, .iaload, 1, (0, 0, 0, 0)), (115, .iastore, 1, (0, 0, 0, 0)), (116, .iinc 2 1, 3, (0, 0, 0, 0)), (119, .goto (-57), 3, (62, 0, 0, 0)), (122, .aload_n 1, 1, (0, 0, 0, 0)), (123, .bipush 48, 2, (0, 0, 0, 0)), (125, .aload_n 0, 1, (0, 0, 0, 0)), (126, .getfield 63, 3, (8, 0, 676, 0)), (129, .iastore, 1, (0, 0, 0, 0)), (130, .aload_n 1, 1, (0, 0, 0, 0)), (131, .bipush 49, 2, (0, 0, 0, 0)), (133, .aload_n 0, 1, (0, 0, 0, 0)), (134, .getfield 90, 3, (8, 2, 678, 0)), (137, .iastore, 1, (0, 0, 0, 0)), (138, .aload_n 1, 1, (0, 0, 0, 0)), (139, .bipush 50, 2, (0, 0, 0, 0)), (141, .aload_n 0, 1, (0, 0, 0, 0)), (142, .getfield 106, 3, (8, 3, 679, 0)), (145, .iastore, 1, (0, 0, 0, 0)), (146, .aload_n 1, 1, (0, 0, 0, 0)), (147, .bipush 51, 2, (0, 0, 0, 0)), (149, .aload_n 0, 1, (0, 0, 0, 0)), (150, .getfield 278, 3, (8, 4, 680, 0)), (153, .iastore, 1, (0, 0, 0, 0)), (154, .aload_n 1, 1, (0, 0, 0, 0)), (155, .bipush 52, 2, (0, 0, 0, 0)), (157, .aload_n 0, 1, (0, 0, 0, 0)), (158, .getfield 284, 3, (8, 7, 683, 0)), (161, .iastore, 1, (0, 0, 0, 0)), (162, .aload_n 1, 1, (0, 0, 0, 0)), (163, .bipush 53, 2, (0, 0, 0, 0)), (165, .aload_n 0, 1, (0, 0, 0, 0)), (166, .getfield 299, 3, (8, 10, 686, 0)), (169, .iastore, 1, (0, 0, 0, 0)), (170, .return_, 1, (0, 0, 0, 0))]
/-- EstateVesselsModel again ([I)V -/
def zc_162 : List (Nat × Instr × Nat × zRes) := [(0, .iconst 0, 1, (0, 0, 0, 0)), (1, .istore_n 2, 1, (0, 0, 0, 0)), (2, .iload_n 2, 1, (0, 0, 0, 0)), (3, .bipush 6, 2, (0, 0, 0, 0)), (5, .if_icmp .ge 18, 3, (23, 0, 0, 0)), (8, .aload_n 0, 1, (0, 0, 0, 0)), (9, .getfield 9, 3, (8, 1, 677, 0)), (12, .iload_n 2, 1, (0, 0, 0, 0)), (13, .aload_n 1, 1, (0, 0, 0, 0)), (14, .iload_n 2, 1, (0, 0, 0, 0)), (15, .iaload, 1, (0, 0, 0, 0)), (16, .iastore, 1, (0, 0, 0, 0)), (17, .iinc 2 1, 3, (0, 0, 0, 0)), (20, .goto (-18), 3, (2, 0, 0, 0)), (23, .iconst 0, 1, (0, 0, 0, 0)), (24, .istore_n 2, 1, (0, 0, 0, 0)), (25, .iload_n 2, 1, (0, 0, 0, 0)), (26, .iconst 5, 1, (0, 0, 0, 0)), (27, .if_icmp .ge 33, 3, (60, 0, 0, 0)), (30, .aload_n 0, 1, (0, 0, 0, 0)), (31, .getfield 15, 3, (8, 5, 681, 0)), (34, .iload_n 2, 1, (0, 0, 0, 0)), (35, .aload_n 1, 1, (0, 0, 0, 0)), (36, .bipush 6, 2, (0, 0, 0, 0)), (38, .iload_n 2, 1, (0, 0, 0, 0)), (39, .iadd, 1, (0, 0, 0, 0)), (40, .iaload, 1, (0, 0, 0, 0)), (41, .iastore, 1, (0, 0, 0, 0)), (42, .aload_n 0, 1, (0, 0, 0, 0)), (43, .getfield 18, 3, (8, 6, 682, 0)), (46, .iload_n 2, 1, (0, 0, 0, 0)), (47, .aload_n 1, 1, (0, 0, 0, 0)), (48, .bipush 11, 2, (0, 0, 0, 0)), (50, .iload_n 2, 1, (0, 0, 0, 0)), (51, .iadd, 1, (0, 0, 0, 0)), (52, .iaload, 1, (0, 0, 0, 0)), (53, .iastore, 1, (0, 0, 0, 0)), (54, .iinc 2 1, 3, (0, 0, 0, 0)), (57, .goto (-32), 3, (25, 0, 0, 0)), (60, .iconst 0, 1, (0, 0, 0, 0)), (61, .istore_n 2, 1, (0, 0, 0, 0)), (62, .iload_n 2, 1, (0, 0, 0, 0)), (63, .bipush 8, 2, (0, 0, 0, 0)), (65, .if_icmp .ge 57, 3, (122, 0, 0, 0)), (68, .aload_n 0, 1, (0, 0, 0, 0)), (69, .getfield 21, 3, (8, 8, 684, 0)), (72, .iload_n 2, 1, (0, 0, 0, 0)), (73, .aload_n 1, 1, (0, 0, 0, 0)), (74, .bipush 16, 2, (0, 0, 0, 0)), (76, .iload_n 2, 1, (0, 0, 0, 0)), (77, .iadd, 1, (0, 0, 0, 0)), (78, .iaload, 1, (0, 0, 0, 0)), (79, .iastore, 1, (0, 0, 0, 0)), (80, .aload_n 0, 1, (0, 0, 0, 0)), (81, .getfield 24, 3, (8, 9, 685, 0)), (84, .iload_n 2, 1, (0, 0, 0, 0)), (85, .aload_n 1, 1, (0, 0, 0, 0)), (86, .bipush 24, 2, (0, 0, 0, 0)), (88, .iload_n 2, 1, (0, 0, 0, 0)), (89, .iadd, 1, (0, 0, 0, 0)), (90, .iaload, 1, (0, 0, 0, 0)), (91, .iastore, 1, (0, 0, 0, 0)), (92, .aload_n 0, 1, (0, 0, 0, 0)), (93, .getfield 27, 3, (8, 11, 687, 0)), (96, .iload_n 2, 1, (0, 0, 0, 0)), (97, .aload_n 1, 1, (0, 0, 0, 0)), (98, .bipush 32, 2, (0, 0, 0, 0)), (100, .iload_n 2, 1, (0, 0, 0, 0)), (101, .iadd, 1, (0, 0, 0, 0)), (102, .iaload, 1, (0, 0, 0, 0)), (103, .iastore, 1, (0, 0, 0, 0)), (104, .aload_n 0, 1, (0, 0, 0, 0)), (105, .getfield 30, 3, (8, 12, 688, 0)), (108, .iload_n 2, 1, (0, 0, 0, 0)), (109, .aload_n 1, 1, (0, 0, 0, 0)), (110, .bipush 40, 2, (0, 0, 0, 0)), (112, .iload_n 2, 1, (0, 0, 0, 0)), (113, .iadd, 1, (0, 0, 0, 0)), (114, .iaload, 1, (0, 0, 0, 0)), (115, .iastore, 1, (0, 0, 0, 0)), (116, .iinc 2 1, 3, (0, 0, 0, 0)), (119, .goto (-57), 3, (62, 0, 0, 0)), (122, .aload_n 0, 1, (0, 0, 0, 0)), (123, .aload_n 1, 1, (0, 0, 0, 0)), (124, .bipush 48, 2, (0, 0, 0, 0)), (126, .iaload, 1, (0, 0, 0, 0)), (127, .putfield 63, 3, (8, 0, 676, 0)), (130, .aload_n 0, 1, (0, 0, 0, 0)), (131, .aload_n 1, 1, (0, 0, 0, 0)), (132, .bipush 49, 2, (0, 0, 0, 0)), (134, .iaload, 1, (0, 0, 0, 0)), (135, .putfield 90, 3, (8, 2, 678, 0)), (138, .aload_n 0, 1, (0, 0, 0, 0)), (139, .aload_n 1, 1, (0, 0, 0, 0)), (140, .bipush 50, 2, (0, 0, 0, 0)), (142, .iaload, 1, (0, 0, 0, 0)), (143, .putfield 106, 3, (8, 3, 679, 0)), (146, .aload_n 0, 1, (0, 0, 0, 0)), (147, .aload_n 1, 1, (0, 0, 0, 0)), (148, .bipush 51, 2, (0, 0, 0, 0)), (150, .iaload, 1, (0, 0, 0, 0)), (151, .putfield 278, 3, (8, 4, 680, 0)), (154, .aload_n 0, 1, (0, 0, 0, 0)), (155, .aload_n 1, 1, (0, 0, 0, 0)), (156, .bipush 52, 2, (0, 0, 0, 0)), (158, .iaload, 1, (0, 0, 0, 0)), (159, .putfield 284, 3, (8, 7, 683, 0)), (162, .aload_n 0, 1, (0, 0, 0, 0)), (163, .aload_n 1, 1, (0, 0, 0, 0)), (164, .bipush 53, 2, (0, 0, 0, 0)), (166, .iaload, 1, (0, 0, 0, 0)), (167, .putfield 299, 3, (8, 10, 686, 0)), (170, .return_, 1, (0, 0, 0, 0))]
/-- EstateVesselsModel image ()I -/
def zc_163 : List (Nat × Instr × Nat × zRes) := [(0, .aload_n 0, 1, (0, 0, 0, 0)), (1, .iconst 1, 1, (0, 0, 0, 0)), (2, .putfield 302, 3, (8, 17, 693, 0)), (5, .aload_n 0, 1, (0, 0, 0, 0)), (6, .aload_n 0, 1, (0, 0, 0, 0)), (7, .getfield 36, 3, (8, 15, 691, 0)), (10, .invokevirtual 289, 3, (161, 0, 1069, 0)), (13, .aload_n 0, 1, (0, 0, 0, 0)), (14, .getfield 63, 3, (8, 0, 676, 0)), (17, .ireturn, 1, (0, 0, 0, 0))]
/-- EstateVesselsModel undo ()I -/
def zc_164 : List (Nat × Instr × Nat × zRes) := [(0, .aload_n 0, 1, (0, 0, 0, 0)), (1, .getfield 302, 3, (8, 17, 693, 0)), (4, .ifCond .ne 6, 3, (10, 0, 0, 0)), (7, .bipush (-3), 2, (0, 0, 0, 0)), (9, .ireturn, 1, (0, 0, 0, 0)), (10, .aload_n 0, 1, (0, 0, 0, 0)), (11, .aload_n 0, 1, (0, 0, 0, 0)), (12, .getfield 36, 3, (8, 15, 691, 0)), (15, .invokevirtual 296, 3, (162, 0, 1078, 0)), (18, .aload_n 0, 1, (0, 0, 0, 0)), (19, .getfield 63, 3, (8, 0, 676, 0)), (22, .ireturn, 1, (0, 0, 0, 0))]
/-- EstateVesselsModel count (I)I -/
def zc_165 : List (Nat × Instr × Nat × zRes) := [(0, .iload_n 1, 1, (0, 0, 0, 0)), (1, .tableswitch 51 0 3 #[31, 36, 41, 46], 31, (0, 0, 0, 0)), (32, .aload_n 0, 1, (0, 0, 0, 0)), (33, .getfield 278, 3, (8, 4, 680, 0)), (36, .ireturn, 1, (0, 0, 0, 0)), (37, .aload_n 0, 1, (0, 0, 0, 0)), (38, .getfield 284, 3, (8, 7, 683, 0)), (41, .ireturn, 1, (0, 0, 0, 0)), (42, .aload_n 0, 1, (0, 0, 0, 0)), (43, .getfield 299, 3, (8, 10, 686, 0)), (46, .ireturn, 1, (0, 0, 0, 0)), (47, .aload_n 0, 1, (0, 0, 0, 0)), (48, .getfield 113, 3, (8, 14, 690, 0)), (51, .ireturn, 1, (0, 0, 0, 0)), (52, .bipush (-2), 2, (0, 0, 0, 0)), (54, .ireturn, 1, (0, 0, 0, 0))]
/-- EstateVesselsModel isTape (I)Z -/
def zc_166 : List (Nat × Instr × Nat × zRes) := [(0, .iload_n 0, 1, (0, 0, 0, 0)), (1, .iconst 0, 1, (0, 0, 0, 0)), (2, .iconst 5, 1, (0, 0, 0, 0)), (3, .invokestatic 67, 3, (94, 0, 778, 0)), (6, .ireturn, 1, (1, 0, 0, 0))]
/-- EstateVesselsModel judge (II)I -/
def zc_167 : List (Nat × Instr × Nat × zRes) := [(0, .iload_n 1, 1, (0, 0, 0, 0)), (1, .invokestatic 306, 3, (166, 0, 1106, 0)), (4, .ifCond .ne 5, 3, (9, 0, 0, 0)), (7, .iconst (-1), 1, (0, 0, 0, 0)), (8, .ireturn, 1, (0, 0, 0, 0)), (9, .aload_n 0, 1, (0, 0, 0, 0)), (10, .invokevirtual 109, 3, (105, 0, 823, 0)), (13, .ifCond .ne 6, 3, (19, 0, 0, 0)), (16, .bipush (-3), 2, (0, 0, 0, 0)), (18, .ireturn, 1, (0, 0, 0, 0)), (19, .aload_n 0, 1, (0, 0, 0, 0)), (20, .getfield 50, 3, (8, 27, 703, 0)), (23, .iload_n 1, 1, (0, 0, 0, 0)), (24, .iaload, 1, (0, 0, 0, 0)), (25, .ifCond .lt 16, 3, (41, 0, 0, 0)), (28, .aload_n 0, 1, (0, 0, 0, 0)), (29, .getfield 50, 3, (8, 27, 703, 0)), (32, .iload_n 1, 1, (0, 0, 0, 0)), (33, .iaload, 1, (0, 0, 0, 0)), (34, .iconst 3, 1, (0, 0, 0, 0)), (35, .if_icmp .eq 6, 3, (41, 0, 0, 0)), (38, .bipush (-12), 2, (0, 0, 0, 0)), (40, .ireturn, 1, (0, 0, 0, 0)), (41, .iconst 0, 1, (0, 0, 0, 0)), (42, .istore_n 3, 1, (0, 0, 0, 0)), (43, .iload_n 3, 1, (0, 0, 0, 0)), (44, .aload_n 0, 1, (0, 0, 0, 0)), (45, .getfield 63, 3, (8, 0, 676, 0)), (48, .if_icmp .ge 72, 3, (120, 0, 0, 0)), (51, .aload_n 0, 1, (0, 0, 0, 0)), (52, .getfield 50, 3, (8, 27, 703, 0)), (55, .iload_n 1, 1, (0, 0, 0, 0)), (56, .iaload, 1, (0, 0, 0, 0)), (57, .ifCond .lt 23, 3, (80, 0, 0, 0)), (60, .iload_n 2, 1, (0, 0, 0, 0)), (61, .ifCond .lt 19, 3, (80, 0, 0, 0)), (64, .iload_n 2, 1, (0, 0, 0, 0)), (65, .i2l, 1, (0, 0, 0, 0)), (66, .iload_n 3, 1, (0, 0, 0, 0)), (67, .i2l, 1, (0, 0, 0, 0)), (68, .ladd, 1, (0, 0, 0, 0)), (69, .aload_n 0, 1, (0, 0, 0, 0)), (70, .getfield 53, 3, (8, 28, 704, 0)), (73, .iload_n 1, 1, (0, 0, 0, 0)), (74, .iaload, 1, (0, 0, 0, 0)), (75, .i2l, 1, (0, 0, 0, 0)), (76, .lcmp, 1, (0, 0, 0, 0)), (77, .ifCond .lt 8, 3, (85, 0, 0, 0)), (80, .bipush 100, 2, (0, 0, 0, 0)), (82, .iload_n 3, 1, (0, 0, 0, 0)), (83, .iadd, 1, (0, 0, 0, 0)), (84, .ireturn, 1, (0, 0, 0, 0)), (85, .aload_n 0, 1, (0, 0, 0, 0)), (86, .getfield 56, 3, (8, 29, 705, 0)), (89, .bipush 60, 2, (0, 0, 0, 0)), (91, .iload_n 1, 1, (0, 0, 0, 0)), (92, .imul, 1, (0, 0, 0, 0)), (93, .iload_n 2, 1, (0, 0, 0, 0)), (94, .iadd, 1, (0, 0, 0, 0)), (95, .iload_n 3, 1, (0, 0, 0, 0)), (96, .iadd, 1, (0, 0, 0, 0)), (97, .laload, 1, (0, 0, 0, 0)), (98, .aload_n 0, 1, (0, 0, 0, 0)), (99, .aload_n 0, 1, (0, 0, 0, 0)), (100, .getfield 106, 3, (8, 3, 679, 0)), (103, .iload_n 3, 1, (0, 0, 0, 0)), (104, .invokevirtual 208, 3, (126, 0, 912, 0)), (107, .i2l, 1, (0, 0, 0, 0)), (108, .lcmp, 1, (0, 0, 0, 0)), (109, .ifCond .eq 5, 3, (114, 0, 0, 0)), (112, .iload_n 3, 1, (0, 0, 0, 0)), (113, .ireturn, 1, (0, 0, 0, 0)), (114, .iinc 3 1, 3, (0, 0, 0, 0)), (117, .goto (-74), 3, (43, 0, 0, 0)), (120, .bipush (-5), 2, (0, 0, 0, 0)), (122, .ireturn, 1, (0, 0, 0, 0))]
/-- EstateVesselsModel tape (III)I -/
def zc_168 : List (Nat × Instr × Nat × zRes) := [(0, .iload_n 1, 1, (0, 0, 0, 0)), (1, .invokestatic 306, 3, (166, 0, 1106, 0)), (4, .ifCond .ne 5, 3, (9, 0, 0, 0)), (7, .iconst (-1), 1, (0, 0, 0, 0)), (8, .ireturn, 1, (0, 0, 0, 0)), (9, .iload_n 2, 1, (0, 0, 0, 0)), (10, .iconst (-1), 1, (0, 0, 0, 0)), (11, .iconst 4, 1, (0, 0, 0, 0)), (12, .invokestatic 67, 3, (94, 0, 778, 0)), (15, .ifCond .eq 13, 3, (28, 0, 0, 0)), (18, .iload_n 2, 1, (0, 0, 0, 0)), (19, .ifCond .lt 12, 3, (31, 0, 0, 0)), (22, .iload_n 3, 1, (0, 0, 0, 0)), (23, .bipush 60, 2, (0, 0, 0, 0)), (25, .if_icmp .le 6, 3, (31, 0, 0, 0)), (28, .bipush (-2), 2, (0, 0, 0, 0)), (30, .ireturn, 1, (0, 0, 0, 0)), (31, .iload_n 2, 1, (0, 0, 0, 0)), (32, .ifCond .lt 10, 3, (42, 0, 0, 0)), (35, .iload_n 3, 1, (0, 0, 0, 0)), (36, .ifCond .ge 6, 3, (42, 0, 0, 0)), (39, .bipush (-14), 2, (0, 0, 0, 0)), (41, .ireturn, 1, (0, 0, 0, 0)), (42, .aload_n 0, 1, (0, 0, 0, 0)), (43, .getfield 50, 3, (8, 27, 703, 0)), (46, .iload_n 1, 1, (0, 0, 0, 0)), (47, .iload_n 2, 1, (0, 0, 0, 0)), (48, .iastore, 1, (0, 0, 0, 0)), (49, .aload_n 0, 1, (0, 0, 0, 0)), (50, .getfield 53, 3, (8, 28, 704, 0)), (53, .iload_n 1, 1, (0, 0, 0, 0)), (54, .iload_n 2, 1, (0, 0, 0, 0)), (55, .ifCond .ge 7, 3, (62, 0, 0, 0)), (58, .iconst 0, 1, (0, 0, 0, 0)), (59, .goto 4, 3, (63, 0, 0, 0)), (62, .iload_n 3, 1, (0, 0, 0, 0)), (63, .iastore, 1, (0, 0, 0, 0)), (64, .iconst 0, 1, (0, 0, 0, 0)), (65, .istore 4, 2, (0, 0, 0, 0)), (67, .iload 4, 2, (0, 0, 0, 0)), (69, .bipush 60, 2, (0, 0, 0, 0)), (71, .if_icmp .ge 22, 3, (93, 0, 0, 0)), (74, .aload_n 0, 1, (0, 0, 0, 0)), (75, .getfield 56, 3, (8, 29, 705, 0)), (78, .bipush 60, 2, (0, 0, 0, 0)), (80, .iload_n 1, 1, (0, 0, 0, 0)), (81, .imul, 1, (0, 0, 0, 0)), (82, .iload 4, 2, (0, 0, 0, 0)), (84, .iadd, 1, (0, 0, 0, 0)), (85, .lconst 0, 1, (0, 0, 0, 0)), (86, .lastore, 1, (0, 0, 0, 0)), (87, .iinc 4 1, 3, (0, 0, 0, 0)), (90, .goto (-23), 3, (67, 0, 0, 0)), (93, .iconst 1, 1, (0, 0, 0, 0)), (94, .ireturn, 1, (0, 0, 0, 0))]
/-- EstateVesselsModel narrowed (IJ)J -/
def zc_169 : List (Nat × Instr × Nat × zRes) := [(0, .iload_n 0, 1, (0, 0, 0, 0)), (1, .tableswitch 47 0 3 #[31, 36, 41, 45], 31, (0, 0, 0, 0)), (32, .lload_n 1, 1, (0, 0, 0, 0)), (33, .l2i, 1, (0, 0, 0, 0)), (34, .i2b, 1, (0, 0, 0, 0)), (35, .i2l, 1, (0, 0, 0, 0)), (36, .lreturn, 1, (0, 0, 0, 0)), (37, .lload_n 1, 1, (0, 0, 0, 0)), (38, .l2i, 1, (0, 0, 0, 0)), (39, .i2s, 1, (0, 0, 0, 0)), (40, .i2l, 1, (0, 0, 0, 0)), (41, .lreturn, 1, (0, 0, 0, 0)), (42, .lload_n 1, 1, (0, 0, 0, 0)), (43, .l2i, 1, (0, 0, 0, 0)), (44, .i2l, 1, (0, 0, 0, 0)), (45, .lreturn, 1, (0, 0, 0, 0)), (46, .lload_n 1, 1, (0, 0, 0, 0)), (47, .lreturn, 1, (0, 0, 0, 0)), (48, .lload_n 1, 1, (0, 0, 0, 0)), (49, .lconst 0, 1, (0, 0, 0, 0)), (50, .lcmp, 1, (0, 0, 0, 0)), (51, .ifCond .eq 7, 3, (58, 0, 0, 0)), (54, .lconst 1, 1, (0, 0, 0, 0)), (55, .goto 4, 3, (59, 0, 0, 0)), (58, .lconst 0, 1, (0, 0, 0, 0)), (59, .lreturn, 1, (0, 0, 0, 0))]
/-- EstateVesselsModel item (IIJ)I -/
def zc_170 : List (Nat × Instr × Nat × zRes) := [(0, .iload_n 1, 1, (0, 0, 0, 0)), (1, .invokestatic 306, 3, (166, 0, 1106, 0)), (4, .ifCond .ne 5, 3, (9, 0, 0, 0)), (7, .iconst (-1), 1, (0, 0, 0, 0)), (8, .ireturn, 1, (0, 0, 0, 0)), (9, .aload_n 0, 1, (0, 0, 0, 0)), (10, .getfield 50, 3, (8, 27, 703, 0)), (13, .iload_n 1, 1, (0, 0, 0, 0)), (14, .iaload, 1, (0, 0, 0, 0)), (15, .ifCond .ge 6, 3, (21, 0, 0, 0)), (18, .bipush (-11), 2, (0, 0, 0, 0)), (20, .ireturn, 1, (0, 0, 0, 0)), (21, .iload_n 2, 1, (0, 0, 0, 0)), (22, .iconst 0, 1, (0, 0, 0, 0)), (23, .aload_n 0, 1, (0, 0, 0, 0)), (24, .getfield 53, 3, (8, 28, 704, 0)), (27, .iload_n 1, 1, (0, 0, 0, 0)), (28, .iaload, 1, (0, 0, 0, 0)), (29, .iconst 1, 1, (0, 0, 0, 0)), (30, .isub, 1, (0, 0, 0, 0)), (31, .invokestatic 67, 3, (94, 0, 778, 0)), (34, .ifCond .ne 6, 3, (40, 0, 0, 0)), (37, .bipush (-13), 2, (0, 0, 0, 0)), (39, .ireturn, 1, (0, 0, 0, 0)), (40, .aload_n 0, 1, (0, 0, 0, 0)), (41, .getfield 56, 3, (8, 29, 705, 0)), (44, .bipush 60, 2, (0, 0, 0, 0)), (46, .iload_n 1, 1, (0, 0, 0, 0)), (47, .imul, 1, (0, 0, 0, 0)), (48, .iload_n 2, 1, (0, 0, 0, 0)), (49, .iadd, 1, (0, 0, 0, 0)), (50, .aload_n 0, 1, (0, 0, 0, 0)), (51, .getfield 50, 3, (8, 27, 703, 0)), (54, .iload_n 1, 1, (0, 0, 0, 0)), (55, .iaload, 1, (0, 0, 0, 0)), (56, .lload_n 3, 1, (0, 0, 0, 0)), (57, .invokestatic 309, 3, (169, 0, 1117, 0)), (60, .lastore, 1, (0, 0, 0, 0)), (61, .iconst 1, 1, (0, 0, 0, 0)), (62, .ireturn, 1, (0, 0, 0, 0))]
/-- EstateVesselsModel peek (II)J -/
def zc_171 : List (Nat × Instr × Nat × zRes) := [(0, .iload_n 1, 1, (0, 0, 0, 0)), (1, .invokestatic 306, 3, (166, 0, 1106, 0)), (4, .ifCond .eq 33, 3, (37, 0, 0, 0)), (7, .iload_n 2, 1, (0, 0, 0, 0)), (8, .iconst 0, 1, (0, 0, 0, 0)), (9, .aload_n 0, 1, (0, 0, 0, 0)), (10, .getfield 53, 3, (8, 28, 704, 0)), (13, .iload_n 1, 1, (0, 0, 0, 0)), (14, .iaload, 1, (0, 0, 0, 0)), (15, .iconst 1, 1, (0, 0, 0, 0)), (16, .isub, 1, (0, 0, 0, 0)), (17, .invokestatic 67, 3, (94, 0, 778, 0)), (20, .ifCond .eq 17, 3, (37, 0, 0, 0)), (23, .aload_n 0, 1, (0, 0, 0, 0)), (24, .getfield 56, 3, (8, 29, 705, 0)), (27, .bipush 60, 2, (0, 0, 0, 0)), (29, .iload_n 1, 1, (0, 0, 0, 0)), (30, .imul, 1, (0, 0, 0, 0)), (31, .iload_n 2, 1, (0, 0, 0, 0)), (32, .iadd, 1, (0, 0, 0, 0)), (33, .laload, 1, (0, 0, 0, 0)), (34, .goto 6, 3, (40, 0, 0, 0)), (37, .ldc2_w 202, 3, (0, 0, 862, -9223372036854775808)), (40, .lreturn, 1, (0, 0, 0, 0))]
/-- EstateVesselsModel shift (IIIII)I -/
def zc_172 : List (Nat × Instr × Nat × zRes) := [(0, .iload_n 1, 1, (0, 0, 0, 0)), (1, .invokestatic 306, 3, (166, 0, 1106, 0)), (4, .ifCond .eq 10, 3, (14, 0, 0, 0)), (7, .iload_n 3, 1, (0, 0, 0, 0)), (8, .invokestatic 306, 3, (166, 0, 1106, 0)), (11, .ifCond .ne 5, 3, (16, 0, 0, 0)), (14, .iconst (-1), 1, (0, 0, 0, 0)), (15, .ireturn, 1, (0, 0, 0, 0)), (16, .aload_n 0, 1, (0, 0, 0, 0)), (17, .getfield 50, 3, (8, 27, 703, 0)), (20, .iload_n 1, 1, (0, 0, 0, 0)), (21, .iaload, 1, (0, 0, 0, 0)), (22, .ifCond .lt 12, 3, (34, 0, 0, 0)), (25, .aload_n 0, 1, (0, 0, 0, 0)), (26, .getfield 50, 3, (8, 27, 703, 0)), (29, .iload_n 3, 1, (0, 0, 0, 0)), (30, .iaload, 1, (0, 0, 0, 0)), (31, .ifCond .ge 6, 3, (37, 0, 0, 0)), (34, .bipush (-11), 2, (0, 0, 0, 0)), (36, .ireturn, 1, (0, 0, 0, 0)), (37, .aload_n 0, 1, (0, 0, 0, 0)), (38, .getfield 50, 3, (8, 27, 703, 0)), (41, .iload_n 1, 1, (0, 0, 0, 0)), (42, .iaload, 1, (0, 0, 0, 0)), (43, .aload_n 0, 1, (0, 0, 0, 0)), (44, .getfield 50, 3, (8, 27, 703, 0)), (47, .iload_n 3, 1, (0, 0, 0, 0)), (48, .iaload, 1, (0, 0, 0, 0)), (49, .if_icmp .eq 6, 3, (55, 0, 0, 0)), (52, .bipush (-12), 2, (0, 0, 0, 0)), (54, .ireturn, 1, (0, 0, 0, 0)), (55, .iload 5, 2, (0, 0, 0, 0)), (57, .ifCond .lt 47, 3, (104, 0, 0, 0)), (60, .iload_n 2, 1, (0, 0, 0, 0)), (61, .ifCond .lt 43, 3, (104, 0, 0, 0)), (64, .iload 4, 2, (0, 0, 0, 0)), (66, .ifCond .lt 38, 3, (104, 0, 0, 0)), (69, .iload_n 2, 1, (0, 0, 0, 0)), (70, .i2l, 1, (0, 0, 0, 0)), (71, .iload 5, 2, (0, 0, 0, 0)), (73, .i2l, 1, (0, 0, 0, 0)), (74, .ladd, 1, (0, 0, 0, 0)), (75, .aload_n 0, 1, (0, 0, 0, 0)), (76, .getfield 53, 3, (8, 28, 704, 0)), (79, .iload_n 1, 1, (0, 0, 0, 0)), (80, .iaload, 1, (0, 0, 0, 0)), (81, .i2l, 1, (0, 0, 0, 0)), (82, .lcmp, 1, (0, 0, 0, 0)), (83, .ifCond .gt 21, 3, (104, 0, 0, 0)), (86, .iload 4, 2, (0, 0, 0, 0)), (88, .i2l, 1, (0, 0, 0, 0)), (89, .iload 5, 2, (0, 0, 0, 0)), (91, .i2l, 1, (0, 0, 0, 0)), (92, .ladd, 1, (0, 0, 0, 0)), (93, .aload_n 0, 1, (0, 0, 0, 0)), (94, .getfield 53, 3, (8, 28, 704, 0)), (97, .iload_n 3, 1, (0, 0, 0, 0)), (98, .iaload, 1, (0, 0, 0, 0)), (99, .i2l, 1, (0, 0, 0, 0)), (100, .lcmp, 1, (0, 0, 0, 0)), (101, .ifCond .le 6, 3, (107, 0, 0, 0)), (104, .bipush (-13), 2, (0, 0, 0, 0)), (106, .ireturn, 1, (0, 0, 0, 0)), (107, .iconst 0, 1, (0, 0, 0, 0)), (108, .istore 6, 2, (0, 0, 0, 0)), (110, .iload 6, 2, (0, 0, 0, 0)), (112, .iload 5, 2, (0, 0, 0, 0)), (114, .if_icmp .ge 30, 3, (144, 0, 0, 0)), (117, .aload_n 0, 1, (0, 0, 0, 0)), (118, .getfield 60, 3, (8, 30, 706, 0)), (121, .iload 6, 2, (0, 0, 0, 0)), (123, .aload_n 0, 1, (0, 0, 0, 0)), (124, .getfield 56, 3, (8, 29, 705, 0)), (127, .bipush 60, 2, (0, 0, 0, 0)), (129, .iload_n 1, 1, (0, 0, 0, 0)), (130, .imul, 1, (0, 0, 0, 0)), (131, .iload_n 2, 1, (0, 0, 0, 0)), (132, .iadd, 1, (0, 0, 0, 0)), (133, .iload 6, 2, (0, 0, 0, 0)), (135, .iadd, 1, (0, 0, 0, 0)), (136, .laload, 1, (0, 0, 0, 0)), (137, .lastore, 1, (0, 0, 0, 0)), (138, .iinc 6 1, 3, (0, 0, 0, 0)), (141, .goto (-31), 3, (110, 0, 0, 0)), (144, .iconst 0, 1, (0, 0, 0, 0)), (145, .istore 6, 2, (0, 0, 0, 0)), (147, .iload 6, 2, (0, 0, 0, 0)), (149, .iload 5, 2, (0, 0, 0, 0)), (151, .if_icmp .ge 31, 3, (182, 0, 0, 0)), (154, .aload_n 0, 1, (0, 0, 0, 0)), (155, .getfield 56, 3, (8, 29, 705, 0)), (158, .bipush 60, 2, (0, 0, 0, 0)), (160, .iload_n 3, 1, (0, 0, 0, 0)), (161, .imul, 1, (0, 0, 0, 0)), (162, .iload 4, 2, (0, 0, 0, 0)), (164, .iadd, 1, (0, 0, 0, 0)), (165, .iload 6, 2, (0, 0, 0, 0)), (167, .iadd, 1, (0, 0, 0, 0)), (168, .aload_n 0, 1, (0, 0, 0, 0)), (169, .getfield 60, 3, (8, 30, 706, 0)), (172, .iload 6, 2, (0, 0, 0, 0)), (174, .laload, 1, (0, 0, 0, 0)), (175, .lastore, 1, (0, 0, 0, 0)), (176, .iinc 6 1, 3, (0, 0, 0, 0)), (179, .goto (-32), 3, (147, 0, 0, 0)), (182, .iload 5, 2, (0, 0, 0, 0)), (184, .ireturn, 1, (0, 0, 0, 0))]
/-- java/lang/Double isNaN (D)Z -/
def zc_173 : List (Nat × Instr × Nat × zRes) := [(0, .dload_n 0, 1, (0, 0, 0, 0)), (1, .dload_n 0, 1, (0, 0, 0, 0)), (2, .dcmp .l, 1, (0, 0, 0, 0)), (3, .ifCond .eq 7, 3, (10, 0, 0, 0)), (6, .iconst 1, 1, (0, 0, 0, 0)), (7, .goto 4, 3, (11, 0, 0, 0)), (10, .iconst 0, 1, (0, 0, 0, 0)), (11, .ireturn, 1, (1, 0, 0, 0))]
/-- java/lang/Double doubleToLongBits (D)J -/
def zc_174 : List (Nat × Instr × Nat × zRes) := [(0, .dload_n 0, 1, (0, 0, 0, 0)), (1, .invokestatic 122, 3, (173, 0, 1035, 0)), (4, .ifCond .ne 8, 3, (12, 0, 0, 0)), (7, .dload_n 0, 1, (0, 0, 0, 0)), (8, .invokestatic 134, 3, (1002, 0, 1038, 0)), (11, .lreturn, 1, (0, 0, 0, 0)), (12, .ldc2_w 137, 3, (0, 0, 1039, 9221120237041090560)), (15, .lreturn, 1, (0, 0, 0, 0))]
/-- java/lang/Float isNaN (F)Z -/
def zc_175 : List (Nat × Instr × Nat × zRes) := [(0, .fload_n 0, 1, (0, 0, 0, 0)), (1, .fload_n 0, 1, (0, 0, 0, 0)), (2, .fcmp .l, 1, (0, 0, 0, 0)), (3, .ifCond .eq 7, 3, (10, 0, 0, 0)), (6, .iconst 1, 1, (0, 0, 0, 0)), (7, .goto 4, 3, (11, 0, 0, 0)), (10, .iconst 0, 1, (0, 0, 0, 0)), (11, .ireturn, 1, (1, 0, 0, 0))]
/-- java/lang/Float floatToIntBits (F)I -/
def zc_176 : List (Nat × Instr × Nat × zRes) := [(0, .fload_n 0, 1, (0, 0, 0, 0)), (1, .invokestatic 59, 3, (175, 0, 1006, 0)), (4, .ifCond .ne 8, 3, (12, 0, 0, 0)), (7, .fload_n 0, 1, (0, 0, 0, 0)), (8, .invokestatic 74, 3, (1001, 0, 1009, 0)), (11, .ireturn, 1, (0, 0, 0, 0)), (12, .ldc 77, 2, (0, 0, 1012, 2143289344)), (14, .ireturn, 1, (0, 0, 0, 0))]
/-- java/lang/Integer bitCount (I)I -/
def zc_177 : List (Nat × Instr × Nat × zRes) := [(0, .iload_n 0, 1, (0, 0, 0, 0)), (1, .iload_n 0, 1, (0, 0, 0, 0)), (2, .iconst 1, 1, (0, 0, 0, 0)), (3, .iushr, 1, (0, 0, 0, 0)), (4, .ldc_w 265, 3, (0, 0, 422, 1431655765)), (7, .iand, 1, (0, 0, 0, 0)), (8, .isub, 1, (0, 0, 0, 0)), (9, .istore_n 0, 1, (0, 0, 0, 0)), (10, .iload_n 0, 1, (0, 0, 0, 0)), (11, .ldc_w 266, 3, (0, 0, 423, 858993459)), (14, .iand, 1, (0, 0, 0, 0)), (15, .iload_n 0, 1, (0, 0, 0, 0)), (16, .iconst 2, 1, (0, 0, 0, 0)), (17, .iushr, 1, (0, 0, 0, 0)), (18, .ldc_w 266, 3, (0, 0, 423, 858993459)), (21, .iand, 1, (0, 0, 0, 0)), (22, .iadd, 1, (0, 0, 0, 0)), (23, .istore_n 0, 1, (0, 0, 0, 0)), (24, .iload_n 0, 1, (0, 0, 0, 0)), (25, .iload_n 0, 1, (0, 0, 0, 0)), (26, .iconst 4, 1, (0, 0, 0, 0)), (27, .iushr, 1, (0, 0, 0, 0)), (28, .iadd, 1, (0, 0, 0, 0)), (29, .ldc_w 267, 3, (0, 0, 424, 252645135)), (32, .iand, 1, (0, 0, 0, 0)), (33, .istore_n 0, 1, (0, 0, 0, 0)), (34, .iload_n 0, 1, (0, 0, 0, 0)), (35, .iload_n 0, 1, (0, 0, 0, 0)), (36, .bipush 8, 2, (0, 0, 0, 0)), (38, .iushr, 1, (0, 0, 0, 0)), (39, .iadd, 1, (0, 0, 0, 0)), (40, .istore_n 0, 1, (0, 0, 0, 0)), (41, .iload_n 0, 1, (0, 0, 0, 0)), (42, .iload_n 0, 1, (0, 0, 0, 0)), (43, .bipush 16, 2, (0, 0, 0, 0)), (45, .iushr, 1, (0, 0, 0, 0)), (46, .iadd, 1, (0, 0, 0, 0)), (47, .istore_n 0, 1, (0, 0, 0, 0)), (48, .iload_n 0, 1, (0, 0, 0, 0)), (49, .bipush 63, 2, (0, 0, 0, 0)), (51, .iand, 1, (0, 0, 0, 0)), (52, .ireturn, 1, (0, 0, 0, 0))]
/-- java/lang/Math abs (J)J -/
def zc_178 : List (Nat × Instr × Nat × zRes) := [(0, .lload_n 0, 1, (0, 0, 0, 0)), (1, .lconst 0, 1, (0, 0, 0, 0)), (2, .lcmp, 1, (0, 0, 0, 0)), (3, .ifCond .ge 8, 3, (11, 0, 0, 0)), (6, .lload_n 0, 1, (0, 0, 0, 0)), (7, .lneg, 1, (0, 0, 0, 0)), (8, .goto 4, 3, (12, 0, 0, 0)), (11, .lload_n 0, 1, (0, 0, 0, 0)), (12, .lreturn, 1, (0, 0, 0, 0))]
/-- java/lang/Math max (II)I -/
def zc_179 : List (Nat × Instr × Nat × zRes) := [(0, .iload_n 0, 1, (0, 0, 0, 0)), (1, .iload_n 1, 1, (0, 0, 0, 0)), (2, .if_icmp .lt 7, 3, (9, 0, 0, 0)), (5, .iload_n 0, 1, (0, 0, 0, 0)), (6, .goto 4, 3, (10, 0, 0, 0)), (9, .iload_n 1, 1, (0, 0, 0, 0)), (10, .ireturn, 1, (0, 0, 0, 0))]
/-- java/lang/Math max (JJ)J -/
def zc_180 : List (Nat × Instr × Nat × zRes) := [(0, .lload_n 0, 1, (0, 0, 0, 0)), (1, .lload_n 2, 1, (0, 0, 0, 0)), (2, .lcmp, 1, (0, 0, 0, 0)), (3, .ifCond .lt 7, 3, (10, 0, 0, 0)), (6, .lload_n 0, 1, (0, 0, 0, 0)), (7, .goto 4, 3, (11, 0, 0, 0)), (10, .lload_n 2, 1, (0, 0, 0, 0)), (11, .lreturn, 1, (0, 0, 0, 0))]
/-- java/lang/Math min (II)I -/
def zc_181 : List (Nat × Instr × Nat × zRes) := [(0, .iload_n 0, 1, (0, 0, 0, 0)), (1, .iload_n 1, 1, (0, 0, 0, 0)), (2, .if_icmp .gt 7, 3, (9, 0, 0, 0)), (5, .iload_n 0, 1, (0, 0, 0, 0)), (6, .goto 4, 3, (10, 0, 0, 0)), (9, .iload_n 1, 1, (0, 0, 0, 0)), (10, .ireturn, 1, (0, 0, 0, 0))]
/-- java/lang/Math min (JJ)J -/
def zc_182 : List (Nat × Instr × Nat × zRes) := [(0, .lload_n 0, 1, (0, 0, 0, 0)), (1, .lload_n 2, 1, (0, 0, 0, 0)), (2, .lcmp, 1, (0, 0, 0, 0)), (3, .ifCond .gt 7, 3, (10, 0, 0, 0)), (6, .lload_n 0, 1, (0, 0, 0, 0)), (7, .goto 4, 3, (11, 0, 0, 0)), (10, .lload_n 2, 1, (0, 0, 0, 0)), (11, .lreturn, 1, (0, 0, 0, 0))]
/-- java/util/Arrays fill ([JJ)V -/
def zc_183 : List (Nat × Instr × Nat × zRes) := [(0, .iconst 0, 1, (0, 0, 0, 0)), (1, .istore_n 3, 1, (0, 0, 0, 0)), (2, .aload_n 0, 1, (0, 0, 0, 0)), (3, .arraylength, 1, (0, 0, 0, 0)), (4, .istore 4, 2, (0, 0, 0, 0)), (6, .iload_n 3, 1, (0, 0, 0, 0)), (7, .iload 4, 2, (0, 0, 0, 0)), (9, .if_icmp .ge 13, 3, (22, 0, 0, 0)), (12, .aload_n 0, 1, (0, 0, 0, 0)), (13, .iload_n 3, 1, (0, 0, 0, 0)), (14, .lload_n 1, 1, (0, 0, 0, 0)), (15, .lastore, 1, (0, 0, 0, 0)), (16, .iinc 3 1, 3, (0, 0, 0, 0)), (19, .goto (-13), 3, (6, 0, 0, 0)), (22, .return_, 1, (0, 0, 0, 0))]
/-- EstateVesselsLaw law ([I)Z -/
def zc_184 : List (Nat × Instr × Nat × zRes) := [(0, .new 7, 3, (7, 0, 67, 0)), (3, .dup, 1, (0, 0, 0, 0)), (4, .invokespecial 9, 3, (41, 0, 69, 0)), (7, .astore_n 1, 1, (0, 0, 0, 0)), (8, .new 10, 3, (8, 0, 670, 0)), (11, .dup, 1, (0, 0, 0, 0)), (12, .invokespecial 12, 3, (93, 0, 672, 0)), (15, .astore_n 2, 1, (0, 0, 0, 0)), (16, .iconst 0, 1, (0, 0, 0, 0)), (17, .istore_n 3, 1, (0, 0, 0, 0)), (18, .iload_n 3, 1, (0, 0, 0, 0)), (19, .aload_n 0, 1, (0, 0, 0, 0)), (20, .arraylength, 1, (0, 0, 0, 0)), (21, .bipush 6, 2, (0, 0, 0, 0)), (23, .isub, 1, (0, 0, 0, 0)), (24, .if_icmp .gt 1372, 3, (1396, 0, 0, 0)), (27, .aload_n 0, 1, (0, 0, 0, 0)), (28, .iload_n 3, 1, (0, 0, 0, 0)), (29, .iaload, 1, (0, 0, 0, 0)), (30, .bipush 63, 2, (0, 0, 0, 0)), (32, .iand, 1, (0, 0, 0, 0)), (33, .tableswitch 1357 0 35 #[159, 182, 215, 238, 261, 284, 307, 330, 343, 387, 420, 464, 518, 541, 605, 648, 681, 704, 737, 781, 825, 858, 891, 935, 959, 992, 1016, 1049, 1062, 1095, 1108, 1121, 1144, 1187, 1260, 1294], 159, (0, 0, 0, 0)), (192, .aload_n 1, 1, (0, 0, 0, 0)), (193, .aload_n 0, 1, (0, 0, 0, 0)), (194, .iload_n 3, 1, (0, 0, 0, 0)), (195, .iconst 1, 1, (0, 0, 0, 0)), (196, .iadd, 1, (0, 0, 0, 0)), (197, .iaload, 1, (0, 0, 0, 0)), (198, .invokevirtual 13, 3, (42, 0, 292, 0)), (201, .aload_n 2, 1, (0, 0, 0, 0)), (202, .aload_n 0, 1, (0, 0, 0, 0)), (203, .iload_n 3, 1, (0, 0, 0, 0)), (204, .iconst 1, 1, (0, 0, 0, 0)), (205, .iadd, 1, (0, 0, 0, 0)), (206, .iaload, 1, (0, 0, 0, 0)), (207, .invokevirtual 17, 3, (106, 0, 771, 0)), (210, .if_icmp .eq 1180, 3, (1390, 0, 0, 0)), (213, .iconst 0, 1, (0, 0, 0, 0)), (214, .ireturn, 1, (1, 0, 0, 0)), (215, .aload_n 1, 1, (0, 0, 0, 0)), (216, .aload_n 0, 1, (0, 0, 0, 0)), (217, .iload_n 3, 1, (0, 0, 0, 0)), (218, .iconst 1, 1, (0, 0, 0, 0)), (219, .iadd, 1, (0, 0, 0, 0)), (220, .iaload, 1, (0, 0, 0, 0)), (221, .aload_n 0, 1, (0, 0, 0, 0)), (222, .iload_n 3, 1, (0, 0, 0, 0)), (223, .iconst 2, 1, (0, 0, 0, 0)), (224, .iadd, 1, (0, 0, 0, 0)), (225, .iaload, 1, (0, 0, 0, 0)), (226, .invokevirtual 18, 3, (43, 0, 303, 0)), (229, .aload_n 2, 1, (0, 0, 0, 0)), (230, .aload_n 0, 1, (0, 0, 0, 0)), (231, .iload_n 3, 1, (0, 0, 0, 0)), (232, .iconst 1, 1, (0, 0, 0, 0)), (233, .iadd, 1, (0, 0, 0, 0)), (234, .iaload, 1, (0, 0, 0, 0)), (235, .aload_n 0, 1, (0, 0, 0, 0)), (236, .iload_n 3, 1, (0, 0, 0, 0)), (237, .iconst 2, 1, (0, 0, 0, 0)), (238, .iadd, 1, (0, 0, 0, 0)), (239, .iaload, 1, (0, 0, 0, 0)), (240, .invokevirtual 22, 3, (107, 0, 781, 0)), (243, .if_icmp .eq 1147, 3, (1390, 0, 0, 0)), (246, .iconst 0, 1, (0, 0, 0, 0)), (247, .ireturn, 1, (1, 0, 0, 0)), (248, .aload_n 1, 1, (0, 0, 0, 0)), (249, .aload_n 0, 1, (0, 0, 0, 0)), (250, .iload_n 3, 1, (0, 0, 0, 0)), (251, .iconst 1, 1, (0, 0, 0, 0)), (252, .iadd, 1, (0, 0, 0, 0)), (253, .iaload, 1, (0, 0, 0, 0)), (254, .invokevirtual 23, 3, (44, 0, 325, 0)), (257, .aload_n 2, 1, (0, 0, 0, 0)), (258, .aload_n 0, 1, (0, 0, 0, 0)), (259, .iload_n 3, 1, (0, 0, 0, 0)), (260, .iconst 1, 1, (0, 0, 0, 0)), (261, .iadd, 1, (0, 0, 0, 0)), (262, .iaload, 1, (0, 0, 0, 0)), (263, .invokevirtual 26, 3, (108, 0, 789, 0)), (266, .if_icmp .eq 1124, 3, (1390, 0, 0, 0)), (269, .iconst 0, 1, (0, 0, 0, 0)), (270, .ireturn, 1, (1, 0, 0, 0)), (271, .aload_n 1, 1, (0, 0, 0, 0)), (272, .aload_n 0, 1, (0, 0, 0, 0)), (273, .iload_n 3, 1, (0, 0, 0, 0)), (274, .iconst 1, 1, (0, 0, 0, 0)), (275, .iadd, 1, (0, 0, 0, 0)), (276, .iaload, 1, (0, 0, 0, 0)), (277, .invokevirtual 27, 3, (45, 0, 332, 0)), (280, .aload_n 2, 1, (0, 0, 0, 0)), (281, .aload_n 0, 1, (0, 0, 0, 0)), (282, .iload_n 3, 1, (0, 0, 0, 0)), (283, .iconst 1, 1, (0, 0, 0, 0)), (284, .iadd, 1, (0, 0, 0, 0)), (285, .iaload, 1, (0, 0, 0, 0)), (286, .invokevirtual 30, 3, (109, 0, 793, 0)), (289, .if_icmp .eq 1101, 3, (1390, 0, 0, 0)), (292, .iconst 0, 1, (0, 0, 0, 0)), (293, .ireturn, 1, (1, 0, 0, 0)), (294, .aload_n 1, 1, (0, 0, 0, 0)), (295, .aload_n 0, 1, (0, 0, 0, 0)), (296, .iload_n 3, 1, (0, 0, 0, 0)), (297, .iconst 1, 1, (0, 0, 0, 0)), (298, .iadd, 1, (0, 0, 0, 0)), (299, .iaload, 1, (0, 0, 0, 0)), (300, .invokevirtual 31, 3, (46, 0, 339, 0)), (303, .aload_n 2, 1, (0, 0, 0, 0)), (304, .aload_n 0, 1, (0, 0, 0, 0)), (305, .iload_n 3, 1, (0, 0, 0, 0)), (306, .iconst 1, 1, (0, 0, 0, 0)), (307, .iadd, 1, (0, 0, 0, 0)), (308, .iaload, 1, (0, 0, 0, 0)), (309, .invokevirtual 34, 3, (110, 0, 800, 0)), (312, .if_icmp .eq 1078, 3, (1390, 0, 0, 0)), (315, .iconst 0, 1, (0, 0, 0, 0)), (316, .ireturn, 1, (1, 0, 0, 0)), (317, .aload_n 1, 1, (0, 0, 0, 0)), (318, .aload_n 0, 1, (0, 0, 0, 0)), (319, .iload_n 3, 1, (0, 0, 0, 0)), (320, .iconst 1, 1, (0, 0, 0, 0)), (321, .iadd, 1, (0, 0, 0, 0)), (322, .iaload, 1, (0, 0, 0, 0)), (323, .invokevirtual 35, 3, (47, 0, 343, 0)), (326, .aload_n 2, 1, (0, 0, 0, 0)), (327, .aload_n 0, 1, (0, 0, 0, 0)), (328, .iload_n 3, 1, (0, 0, 0, 0)), (329, .iconst 1, 1, (0, 0, 0, 0)), (330, .iadd, 1, (0, 0, 0, 0)), (331, .iaload, 1, (0, 0, 0, 0)), (332, .invokevirtual 38, 3, (111, 0, 804, 0)), (335, .if_icmp .eq 1055, 3, (1390, 0, 0, 0)), (338, .iconst 0, 1, (0, 0, 0, 0)), (339, .ireturn, 1, (1, 0, 0, 0)), (340, .aload_n 1, 1, (0, 0, 0, 0)), (341, .aload_n 0, 1, (0, 0, 0, 0)), (342, .iload_n 3, 1, (0, 0, 0, 0)), (343, .iconst 1, 1, (0, 0, 0, 0)), (344, .iadd, 1, (0, 0, 0, 0)), (345, .iaload, 1, (0, 0, 0, 0)), (346, .invokevirtual 39, 3, (48, 0, 356, 0)), (349, .aload_n 2, 1, (0, 0, 0, 0)), (350, .aload_n 0, 1, (0, 0, 0, 0)), (351, .iload_n 3, 1, (0, 0, 0, 0)), (352, .iconst 1, 1, (0, 0, 0, 0)), (353, .iadd, 1, (0, 0, 0, 0)), (354, .iaload, 1, (0, 0, 0, 0)), (355, .invokevirtual 42, 3, (112, 0, 827, 0)), (358, .if_icmp .eq 1032, 3, (1390, 0, 0, 0)), (361, .iconst 0, 1, (0, 0, 0, 0)), (362, .ireturn, 1, (1, 0, 0, 0)), (363, .aload_n 1, 1, (0, 0, 0, 0)), (364, .invokevirtual 43, 3, (49, 0, 360, 0)), (367, .aload_n 2, 1, (0, 0, 0, 0)), (368, .invokevirtual 47, 3, (117, 0, 831, 0)), (371, .if_icmp .eq 1019, 3, (1390, 0, 0, 0)), (374, .iconst 0, 1, (0, 0, 0, 0)), (375, .ireturn, 1, (1, 0, 0, 0)), (376, .aload_n 1, 1, (0, 0, 0, 0)), (377, .aload_n 0, 1, (0, 0, 0, 0)), (378, .iload_n 3, 1, (0, 0, 0, 0)), (379, .iconst 1, 1, (0, 0, 0, 0)), (380, .iadd, 1, (0, 0, 0, 0)), (381, .iaload, 1, (0, 0, 0, 0)), (382, .aload_n 0, 1, (0, 0, 0, 0)), (383, .iload_n 3, 1, (0, 0, 0, 0)), (384, .iconst 2, 1, (0, 0, 0, 0)), (385, .iadd, 1, (0, 0, 0, 0)), (386, .iaload, 1, (0, 0, 0, 0)), (387, .aload_n 0, 1, (0, 0, 0, 0)), (388, .iload_n 3, 1, (0, 0, 0, 0)), (389, .iconst 3, 1, (0, 0, 0, 0)), (390, .iadd, 1, (0, 0, 0, 0)), (391, .iaload, 1, (0, 0, 0, 0)), (392, .invokevirtual 48, 3, (51, 0, 388, 0)), (395, .aload_n 2, 1, (0, 0, 0, 0)), (396, .aload_n 0, 1, (0, 0, 0, 0)), (397, .iload_n 3, 1, (0, 0, 0, 0)), (398, .iconst 1, 1, (0, 0, 0, 0)), (399, .iadd, 1, (0, 0, 0, 0)), (400, .iaload, 1, (0, 0, 0, 0)), (401, .aload_n 0, 1, (0, 0, 0, 0)), (402, .iload_n 3, 1, (0, 0, 0, 0)), (403, .iconst 2, 1, (0, 0, 0, 0)), (404, .iadd, 1, (0, 0, 0, 0)), (405, .iaload, 1, (0, 0, 0, 0)), (406, .aload_n 0, 1, (0, 0, 0, 0)), (407, .iload_n 3, 1, (0, 0, 0, 0)), (408, .iconst 3, 1, (0, 0, 0, 0)), (409, .iadd, 1, (0, 0, 0, 0)), (410, .iaload, 1, (0, 0, 0, 0)), (411, .invokevirtual 52, 3, (127, 0, 855, 0)), (414, .lcmp, 1, (0, 0, 0, 0)), (415, .ifCond .eq 975, 3, (1390, 0, 0, 0)), (418, .iconst 0, 1, (0, 0, 0, 0)), (419, .ireturn, 1, (1, 0, 0, 0)), (420, .aload_n 1, 1, (0, 0, 0, 0)), (421, .aload_n 0, 1, (0, 0, 0, 0)), (422, .iload_n 3, 1, (0, 0, 0, 0)), (423, .iconst 1, 1, (0, 0, 0, 0)), (424, .iadd, 1, (0, 0, 0, 0)), (425, .iaload, 1, (0, 0, 0, 0)), (426, .aload_n 0, 1, (0, 0, 0, 0)), (427, .iload_n 3, 1, (0, 0, 0, 0)), (428, .iconst 2, 1, (0, 0, 0, 0)), (429, .iadd, 1, (0, 0, 0, 0)), (430, .iaload, 1, (0, 0, 0, 0)), (431, .invokevirtual 53, 3, (52, 0, 440, 0)), (434, .aload_n 2, 1, (0, 0, 0, 0)), (435, .aload_n 0, 1, (0, 0, 0, 0)), (436, .iload_n 3, 1, (0, 0, 0, 0)), (437, .iconst 1, 1, (0, 0, 0, 0)), (438, .iadd, 1, (0, 0, 0, 0)), (439, .iaload, 1, (0, 0, 0, 0)), (440, .aload_n 0, 1, (0, 0, 0, 0)), (441, .iload_n 3, 1, (0, 0, 0, 0)), (442, .iconst 2, 1, (0, 0, 0, 0)), (443, .iadd, 1, (0, 0, 0, 0)), (444, .iaload, 1, (0, 0, 0, 0)), (445, .invokevirtual 56, 3, (128, 0, 908, 0)), (448, .if_icmp .eq 942, 3, (1390, 0, 0, 0)), (451, .iconst 0, 1, (0, 0, 0, 0)), (452, .ireturn, 1, (1, 0, 0, 0)), (453, .aload_n 1, 1, (0, 0, 0, 0)), (454, .aload_n 0, 1, (0, 0, 0, 0)), (455, .iload_n 3, 1, (0, 0, 0, 0)), (456, .iconst 1, 1, (0, 0, 0, 0)), (457, .iadd, 1, (0, 0, 0, 0)), (458, .iaload, 1, (0, 0, 0, 0)), (459, .aload_n 0, 1, (0, 0, 0, 0)), (460, .iload_n 3, 1, (0, 0, 0, 0)), (461, .iconst 2, 1, (0, 0, 0, 0)), (462, .iadd, 1, (0, 0, 0, 0)), (463, .iaload, 1, (0, 0, 0, 0)), (464, .aload_n 0, 1, (0, 0, 0, 0)), (465, .iload_n 3, 1, (0, 0, 0, 0)), (466, .iconst 3, 1, (0, 0, 0, 0)), (467, .iadd, 1, (0, 0, 0, 0)), (468, .iaload, 1, (0, 0, 0, 0)), (469, .invokevirtual 57, 3, (53, 0, 448, 0)), (472, .aload_n 2, 1, (0, 0, 0, 0)), (473, .aload_n 0, 1, (0, 0, 0, 0)), (474, .iload_n 3, 1, (0, 0, 0, 0)), (475, .iconst 1, 1, (0, 0, 0, 0)), (476, .iadd, 1, (0, 0, 0, 0)), (477, .iaload, 1, (0, 0, 0, 0)), (478, .aload_n 0, 1, (0, 0, 0, 0)), (479, .iload_n 3, 1, (0, 0, 0, 0)), (480, .iconst 2, 1, (0, 0, 0, 0)), (481, .iadd, 1, (0, 0, 0, 0)), (482, .iaload, 1, (0, 0, 0, 0)), (483, .aload_n 0, 1, (0, 0, 0, 0)), (484, .iload_n 3, 1, (0, 0, 0, 0)), (485, .iconst 3, 1, (0, 0, 0, 0)), (486, .iadd, 1, (0, 0, 0, 0)), (487, .iaload, 1, (0, 0, 0, 0)), (488, .invokevirtual 60, 3, (129, 0, 916, 0)), (491, .lcmp, 1, (0, 0, 0, 0)), (492, .ifCond .eq 898, 3, (1390, 0, 0, 0)), (495, .iconst 0, 1, (0, 0, 0, 0)), (496, .ireturn, 1, (1, 0, 0, 0)), (497, .aload_n 1, 1, (0, 0, 0, 0)), (498, .aload_n 0, 1, (0, 0, 0, 0)), (499, .iload_n 3, 1, (0, 0, 0, 0)), (500, .iconst 1, 1, (0, 0, 0, 0)), (501, .iadd, 1, (0, 0, 0, 0)), (502, .iaload, 1, (0, 0, 0, 0)), (503, .aload_n 0, 1, (0, 0, 0, 0)), (504, .iload_n 3, 1, (0, 0, 0, 0)), (505, .iconst 2, 1, (0, 0, 0, 0)), (506, .iadd, 1, (0, 0, 0, 0)), (507, .iaload, 1, (0, 0, 0, 0)), (508, .aload_n 0, 1, (0, 0, 0, 0)), (509, .iload_n 3, 1, (0, 0, 0, 0)), (510, .iconst 3, 1, (0, 0, 0, 0)), (511, .iadd, 1, (0, 0, 0, 0)), (512, .iaload, 1, (0, 0, 0, 0)), (513, .aload_n 0, 1, (0, 0, 0, 0)), (514, .iload_n 3, 1, (0, 0, 0, 0)), (515, .iconst 4, 1, (0, 0, 0, 0)), (516, .iadd, 1, (0, 0, 0, 0)), (517, .iaload, 1, (0, 0, 0, 0)), (518, .invokevirtual 61, 3, (54, 0, 455, 0)), (521, .aload_n 2, 1, (0, 0, 0, 0)), (522, .aload_n 0, 1, (0, 0, 0, 0)), (523, .iload_n 3, 1, (0, 0, 0, 0)), (524, .iconst 1, 1, (0, 0, 0, 0)), (525, .iadd, 1, (0, 0, 0, 0)), (526, .iaload, 1, (0, 0, 0, 0)), (527, .aload_n 0, 1, (0, 0, 0, 0)), (528, .iload_n 3, 1, (0, 0, 0, 0)), (529, .iconst 2, 1, (0, 0, 0, 0)), (530, .iadd, 1, (0, 0, 0, 0)), (531, .iaload, 1, (0, 0, 0, 0)), (532, .aload_n 0, 1, (0, 0, 0, 0)), (533, .iload_n 3, 1, (0, 0, 0, 0)), (534, .iconst 3, 1, (0, 0, 0, 0)), (535, .iadd, 1, (0, 0, 0, 0)), (536, .iaload, 1, (0, 0, 0, 0)), (537, .aload_n 0, 1, (0, 0, 0, 0)), (538, .iload_n 3, 1, (0, 0, 0, 0)), (539, .iconst 4, 1, (0, 0, 0, 0)), (540, .iadd, 1, (0, 0, 0, 0)), (541, .iaload, 1, (0, 0, 0, 0)), (542, .invokevirtual 65, 3, (131, 0, 920, 0)), (545, .lcmp, 1, (0, 0, 0, 0)), (546, .ifCond .eq 844, 3, (1390, 0, 0, 0)), (549, .iconst 0, 1, (0, 0, 0, 0)), (550, .ireturn, 1, (1, 0, 0, 0)), (551, .aload_n 1, 1, (0, 0, 0, 0)), (552, .aload_n 0, 1, (0, 0, 0, 0)), (553, .iload_n 3, 1, (0, 0, 0, 0)), (554, .iconst 1, 1, (0, 0, 0, 0)), (555, .iadd, 1, (0, 0, 0, 0)), (556, .iaload, 1, (0, 0, 0, 0)), (557, .invokevirtual 66, 3, (56, 0, 464, 0)), (560, .aload_n 2, 1, (0, 0, 0, 0)), (561, .aload_n 0, 1, (0, 0, 0, 0)), (562, .iload_n 3, 1, (0, 0, 0, 0)), (563, .iconst 1, 1, (0, 0, 0, 0)), (564, .iadd, 1, (0, 0, 0, 0)), (565, .iaload, 1, (0, 0, 0, 0)), (566, .invokevirtual 69, 3, (133, 0, 928, 0)), (569, .if_icmp .eq 821, 3, (1390, 0, 0, 0)), (572, .iconst 0, 1, (0, 0, 0, 0)), (573, .ireturn, 1, (1, 0, 0, 0)), (574, .aload_n 1, 1, (0, 0, 0, 0)), (575, .aload_n 0, 1, (0, 0, 0, 0)), (576, .iload_n 3, 1, (0, 0, 0, 0)), (577, .iconst 1, 1, (0, 0, 0, 0)), (578, .iadd, 1, (0, 0, 0, 0)), (579, .iaload, 1, (0, 0, 0, 0)), (580, .aload_n 0, 1, (0, 0, 0, 0)), (581, .iload_n 3, 1, (0, 0, 0, 0)), (582, .iconst 2, 1, (0, 0, 0, 0)), (583, .iadd, 1, (0, 0, 0, 0)), (584, .iaload, 1, (0, 0, 0, 0)), (585, .aload_n 0, 1, (0, 0, 0, 0)), (586, .iload_n 3, 1, (0, 0, 0, 0)), (587, .iconst 3, 1, (0, 0, 0, 0)), (588, .iadd, 1, (0, 0, 0, 0)), (589, .iaload, 1, (0, 0, 0, 0)), (590, .aload_n 0, 1, (0, 0, 0, 0)), (591, .iload_n 3, 1, (0, 0, 0, 0)), (592, .iconst 4, 1, (0, 0, 0, 0)), (593, .iadd, 1, (0, 0, 0, 0)), (594, .iaload, 1, (0, 0, 0, 0)), (595, .aload_n 0, 1, (0, 0, 0, 0)), (596, .iload_n 3, 1, (0, 0, 0, 0)), (597, .iconst 5, 1, (0, 0, 0, 0)), (598, .iadd, 1, (0, 0, 0, 0)), (599, .iaload, 1, (0, 0, 0, 0)), (600, .invokevirtual 70, 3, (58, 0, 472, 0)), (603, .aload_n 2, 1, (0, 0, 0, 0)), (604, .aload_n 0, 1, (0, 0, 0, 0)), (605, .iload_n 3, 1, (0, 0, 0, 0)), (606, .iconst 1, 1, (0, 0, 0, 0)), (607, .iadd, 1, (0, 0, 0, 0)), (608, .iaload, 1, (0, 0, 0, 0)), (609, .aload_n 0, 1, (0, 0, 0, 0)), (610, .iload_n 3, 1, (0, 0, 0, 0)), (611, .iconst 2, 1, (0, 0, 0, 0)), (612, .iadd, 1, (0, 0, 0, 0)), (613, .iaload, 1, (0, 0, 0, 0)), (614, .aload_n 0, 1, (0, 0, 0, 0)), (615, .iload_n 3, 1, (0, 0, 0, 0)), (616, .iconst 3, 1, (0, 0, 0, 0)), (617, .iadd, 1, (0, 0, 0, 0)), (618, .iaload, 1, (0, 0, 0, 0)), (619, .aload_n 0, 1, (0, 0, 0, 0)), (620, .iload_n 3, 1, (0, 0, 0, 0)), (621, .iconst 4, 1, (0, 0, 0, 0)), (622, .iadd, 1, (0, 0, 0, 0)), (623, .iaload, 1, (0, 0, 0, 0)), (624, .aload_n 0, 1, (0, 0, 0, 0)), (625, .iload_n 3, 1, (0, 0, 0, 0)), (626, .iconst 5, 1, (0, 0, 0, 0)), (627, .iadd, 1, (0, 0, 0, 0)), (628, .iaload, 1, (0, 0, 0, 0)), (629, .invokevirtual 74, 3, (134, 0, 936, 0)), (632, .lcmp, 1, (0, 0, 0, 0)), (633, .ifCond .eq 757, 3, (1390, 0, 0, 0)), (636, .iconst 0, 1, (0, 0, 0, 0)), (637, .ireturn, 1, (1, 0, 0, 0)), (638, .aload_n 1, 1, (0, 0, 0, 0)), (639, .aload_n 0, 1, (0, 0, 0, 0)), (640, .iload_n 3, 1, (0, 0, 0, 0)), (641, .iconst 1, 1, (0, 0, 0, 0)), (642, .iadd, 1, (0, 0, 0, 0)), (643, .iaload, 1, (0, 0, 0, 0)), (644, .aload_n 0, 1, (0, 0, 0, 0)), (645, .iload_n 3, 1, (0, 0, 0, 0)), (646, .iconst 2, 1, (0, 0, 0, 0)), (647, .iadd, 1, (0, 0, 0, 0)), (648, .iaload, 1, (0, 0, 0, 0)), (649, .aload_n 0, 1, (0, 0, 0, 0)), (650, .iload_n 3, 1, (0, 0, 0, 0)), (651, .iconst 3, 1, (0, 0, 0, 0)), (652, .iadd, 1, (0, 0, 0, 0)), (653, .iaload, 1, (0, 0, 0, 0)), (654, .invokevirtual 75, 3, (59, 0, 481, 0)), (657, .aload_n 2, 1, (0, 0, 0, 0)), (658, .aload_n 0, 1, (0, 0, 0, 0)), (659, .iload_n 3, 1, (0, 0, 0, 0)), (660, .iconst 1, 1, (0, 0, 0, 0)), (661, .iadd, 1, (0, 0, 0, 0)), (662, .iaload, 1, (0, 0, 0, 0)), (663, .aload_n 0, 1, (0, 0, 0, 0)), (664, .iload_n 3, 1, (0, 0, 0, 0)), (665, .iconst 2, 1, (0, 0, 0, 0)), (666, .iadd, 1, (0, 0, 0, 0)), (667, .iaload, 1, (0, 0, 0, 0)), (668, .aload_n 0, 1, (0, 0, 0, 0)), (669, .iload_n 3, 1, (0, 0, 0, 0)), (670, .iconst 3, 1, (0, 0, 0, 0)), (671, .iadd, 1, (0, 0, 0, 0)), (672, .iaload, 1, (0, 0, 0, 0)), (673, .invokevirtual 79, 3, (136, 0, 940, 0)), (676, .if_icmp .eq 714, 3, (1390, 0, 0, 0)), (679, .iconst 0, 1, (0, 0, 0, 0)), (680, .ireturn, 1, (1, 0, 0, 0)), (681, .aload_n 1, 1, (0, 0, 0, 0)), (682, .aload_n 0, 1, (0, 0, 0, 0)), (683, .iload_n 3, 1, (0, 0, 0, 0)), (684, .iconst 1, 1, (0, 0, 0, 0)), (685, .iadd, 1, (0, 0, 0, 0)), (686, .iaload, 1, (0, 0, 0, 0)), (687, .aload_n 0, 1, (0, 0, 0, 0)), (688, .iload_n 3, 1, (0, 0, 0, 0)), (689, .iconst 2, 1, (0, 0, 0, 0)), (690, .iadd, 1, (0, 0, 0, 0)), (691, .iaload, 1, (0, 0, 0, 0)), (692, .invokevirtual 80, 3, (60, 0, 485, 0)), (695, .aload_n 2, 1, (0, 0, 0, 0)), (696, .aload_n 0, 1, (0, 0, 0, 0)), (697, .iload_n 3, 1, (0, 0, 0, 0)), (698, .iconst 1, 1, (0, 0, 0, 0)), (699, .iadd, 1, (0, 0, 0, 0)), (700, .iaload, 1, (0, 0, 0, 0)), (701, .aload_n 0, 1, (0, 0, 0, 0)), (702, .iload_n 3, 1, (0, 0, 0, 0)), (703, .iconst 2, 1, (0, 0, 0, 0)), (704, .iadd, 1, (0, 0, 0, 0)), (705, .iaload, 1, (0, 0, 0, 0)), (706, .invokevirtual 83, 3, (137, 0, 948, 0)), (709, .if_icmp .eq 681, 3, (1390, 0, 0, 0)), (712, .iconst 0, 1, (0, 0, 0, 0)), (713, .ireturn, 1, (1, 0, 0, 0)), (714, .aload_n 1, 1, (0, 0, 0, 0)), (715, .aload_n 0, 1, (0, 0, 0, 0)), (716, .iload_n 3, 1, (0, 0, 0, 0)), (717, .iconst 1, 1, (0, 0, 0, 0)), (718, .iadd, 1, (0, 0, 0, 0)), (719, .iaload, 1, (0, 0, 0, 0)), (720, .invokevirtual 84, 3, (61, 0, 489, 0)), (723, .aload_n 2, 1, (0, 0, 0, 0)), (724, .aload_n 0, 1, (0, 0, 0, 0)), (725, .iload_n 3, 1, (0, 0, 0, 0)), (726, .iconst 1, 1, (0, 0, 0, 0)), (727, .iadd, 1, (0, 0, 0, 0)), (728, .iaload, 1, (0, 0, 0, 0)), (729, .invokevirtual 87, 3, (140, 0, 952, 0)), (732, .if_icmp .eq 658, 3, (1390, 0, 0, 0)), (735, .iconst 0, 1, (0, 0, 0, 0)), (736, .ireturn, 1, (1, 0, 0, 0)), (737, .aload_n 1, 1, (0, 0, 0, 0)), (738, .aload_n 0, 1, (0, 0, 0, 0)), (739, .iload_n 3, 1, (0, 0, 0, 0)), (740, .iconst 1, 1, (0, 0, 0, 0)), (741, .iadd, 1, (0, 0, 0, 0)), (742, .iaload, 1, (0, 0, 0, 0)), (743, .aload_n 0, 1, (0, 0, 0, 0)), (744, .iload_n 3, 1, (0, 0, 0, 0)), (745, .iconst 2, 1, (0, 0, 0, 0)), (746, .iadd, 1, (0, 0, 0, 0)), (747, .iaload, 1, (0, 0, 0, 0)), (748, .invokevirtual 88, 3, (62, 0, 501, 0)), (751, .aload_n 2, 1, (0, 0, 0, 0)), (752, .aload_n 0, 1, (0, 0, 0, 0)), (753, .iload_n 3, 1, (0, 0, 0, 0)), (754, .iconst 1, 1, (0, 0, 0, 0)), (755, .iadd, 1, (0, 0, 0, 0)), (756, .iaload, 1, (0, 0, 0, 0)), (757, .aload_n 0, 1, (0, 0, 0, 0)), (758, .iload_n 3, 1, (0, 0, 0, 0)), (759, .iconst 2, 1, (0, 0, 0, 0)), (760, .iadd, 1, (0, 0, 0, 0)), (761, .iaload, 1, (0, 0, 0, 0)), (762, .invokevirtual 91, 3, (142, 0, 964, 0)), (765, .if_icmp .eq 625, 3, (1390, 0, 0, 0)), (768, .iconst 0, 1, (0, 0, 0, 0)), (769, .ireturn, 1, (1, 0, 0, 0)), (770, .aload_n 1, 1, (0, 0, 0, 0)), (771, .aload_n 0, 1, (0, 0, 0, 0)), (772, .iload_n 3, 1, (0, 0, 0, 0)), (773, .iconst 1, 1, (0, 0, 0, 0)), (774, .iadd, 1, (0, 0, 0, 0)), (775, .iaload, 1, (0, 0, 0, 0)), (776, .aload_n 0, 1, (0, 0, 0, 0)), (777, .iload_n 3, 1, (0, 0, 0, 0)), (778, .iconst 2, 1, (0, 0, 0, 0)), (779, .iadd, 1, (0, 0, 0, 0)), (780, .iaload, 1, (0, 0, 0, 0)), (781, .aload_n 0, 1, (0, 0, 0, 0)), (782, .iload_n 3, 1, (0, 0, 0, 0)), (783, .iconst 3, 1, (0, 0, 0, 0)), (784, .iadd, 1, (0, 0, 0, 0)), (785, .iaload, 1, (0, 0, 0, 0)), (786, .invokevirtual 92, 3, (63, 0, 513, 0)), (789, .aload_n 2, 1, (0, 0, 0, 0)), (790, .aload_n 0, 1, (0, 0, 0, 0)), (791, .iload_n 3, 1, (0, 0, 0, 0)), (792, .iconst 1, 1, (0, 0, 0, 0)), (793, .iadd, 1, (0, 0, 0, 0)), (794, .iaload, 1, (0, 0, 0, 0)), (795, .aload_n 0, 1, (0, 0, 0, 0)), (796, .iload_n 3, 1, (0, 0, 0, 0)), (797, .iconst 2, 1, (0, 0, 0, 0)), (798, .iadd, 1, (0, 0, 0, 0)), (799, .iaload, 1, (0, 0, 0, 0)), (800, .aload_n 0, 1, (0, 0, 0, 0)), (801, .iload_n 3, 1, (0, 0, 0, 0)), (802, .iconst 3, 1, (0, 0, 0, 0)), (803, .iadd, 1, (0, 0, 0, 0)), (804, .iaload, 1, (0, 0, 0, 0)), (805, .invokevirtual 95, 3, (149, 0, 972, 0)), (808, .lcmp, 1, (0, 0, 0, 0)), (809, .ifCond .eq 581, 3, (1390, 0, 0, 0)), (812, .iconst 0, 1, (0, 0, 0, 0)), (813, .ireturn, 1, (1, 0, 0, 0)), (814, .aload_n 1, 1, (0, 0, 0, 0)), (815, .aload_n 0, 1, (0, 0, 0, 0)), (816, .iload_n 3, 1, (0, 0, 0, 0)), (817, .iconst 1, 1, (0, 0, 0, 0)), (818, .iadd, 1, (0, 0, 0, 0)), (819, .iaload, 1, (0, 0, 0, 0)), (820, .aload_n 0, 1, (0, 0, 0, 0)), (821, .iload_n 3, 1, (0, 0, 0, 0)), (822, .iconst 2, 1, (0, 0, 0, 0)), (823, .iadd, 1, (0, 0, 0, 0)), (824, .iaload, 1, (0, 0, 0, 0)), (825, .aload_n 0, 1, (0, 0, 0, 0)), (826, .iload_n 3, 1, (0, 0, 0, 0)), (827, .iconst 3, 1, (0, 0, 0, 0)), (828, .iadd, 1, (0, 0, 0, 0)), (829, .iaload, 1, (0, 0, 0, 0)), (830, .invokevirtual 96, 3, (64, 0, 546, 0)), (833, .aload_n 2, 1, (0, 0, 0, 0)), (834, .aload_n 0, 1, (0, 0, 0, 0)), (835, .iload_n 3, 1, (0, 0, 0, 0)), (836, .iconst 1, 1, (0, 0, 0, 0)), (837, .iadd, 1, (0, 0, 0, 0)), (838, .iaload, 1, (0, 0, 0, 0)), (839, .aload_n 0, 1, (0, 0, 0, 0)), (840, .iload_n 3, 1, (0, 0, 0, 0)), (841, .iconst 2, 1, (0, 0, 0, 0)), (842, .iadd, 1, (0, 0, 0, 0)), (843, .iaload, 1, (0, 0, 0, 0)), (844, .aload_n 0, 1, (0, 0, 0, 0)), (845, .iload_n 3, 1, (0, 0, 0, 0)), (846, .iconst 3, 1, (0, 0, 0, 0)), (847, .iadd, 1, (0, 0, 0, 0)), (848, .iaload, 1, (0, 0, 0, 0)), (849, .invokevirtual 99, 3, (150, 0, 1013, 0)), (852, .lcmp, 1, (0, 0, 0, 0)), (853, .ifCond .eq 537, 3, (1390, 0, 0, 0)), (856, .iconst 0, 1, (0, 0, 0, 0)), (857, .ireturn, 1, (1, 0, 0, 0)), (858, .aload_n 1, 1, (0, 0, 0, 0)), (859, .aload_n 0, 1, (0, 0, 0, 0)), (860, .iload_n 3, 1, (0, 0, 0, 0)), (861, .iconst 1, 1, (0, 0, 0, 0)), (862, .iadd, 1, (0, 0, 0, 0)), (863, .iaload, 1, (0, 0, 0, 0)), (864, .aload_n 0, 1, (0, 0, 0, 0)), (865, .iload_n 3, 1, (0, 0, 0, 0)), (866, .iconst 2, 1, (0, 0, 0, 0)), (867, .iadd, 1, (0, 0, 0, 0)), (868, .iaload, 1, (0, 0, 0, 0)), (869, .invokevirtual 100, 3, (66, 0, 555, 0)), (872, .aload_n 2, 1, (0, 0, 0, 0)), (873, .aload_n 0, 1, (0, 0, 0, 0)), (874, .iload_n 3, 1, (0, 0, 0, 0)), (875, .iconst 1, 1, (0, 0, 0, 0)), (876, .iadd, 1, (0, 0, 0, 0)), (877, .iaload, 1, (0, 0, 0, 0)), (878, .aload_n 0, 1, (0, 0, 0, 0)), (879, .iload_n 3, 1, (0, 0, 0, 0)), (880, .iconst 2, 1, (0, 0, 0, 0)), (881, .iadd, 1, (0, 0, 0, 0)), (882, .iaload, 1, (0, 0, 0, 0)), (883, .invokevirtual 103, 3, (151, 0, 1041, 0)), (886, .if_icmp .eq 504, 3, (1390, 0, 0, 0)), (889, .iconst 0, 1, (0, 0, 0, 0)), (890, .ireturn, 1, (1, 0, 0, 0)), (891, .aload_n 1, 1, (0, 0, 0, 0)), (892, .aload_n 0, 1, (0, 0, 0, 0)), (893, .iload_n 3, 1, (0, 0, 0, 0)), (894, .iconst 1, 1, (0, 0, 0, 0)), (895, .iadd, 1, (0, 0, 0, 0)), (896, .iaload, 1, (0, 0, 0, 0)), (897, .aload_n 0, 1, (0, 0, 0, 0)), (898, .iload_n 3, 1, (0, 0, 0, 0)), (899, .iconst 2, 1, (0, 0, 0, 0)), (900, .iadd, 1, (0, 0, 0, 0)), (901, .iaload, 1, (0, 0, 0, 0)), (902, .invokevirtual 104, 3, (68, 0, 567, 0)), (905, .aload_n 2, 1, (0, 0, 0, 0)), (906, .aload_n 0, 1, (0, 0, 0, 0)), (907, .iload_n 3, 1, (0, 0, 0, 0)), (908, .iconst 1, 1, (0, 0, 0, 0)), (909, .iadd, 1, (0, 0, 0, 0)), (910, .iaload, 1, (0, 0, 0, 0)), (911, .aload_n 0, 1, (0, 0, 0, 0)), (912, .iload_n 3, 1, (0, 0, 0, 0)), (913, .iconst 2, 1, (0, 0, 0, 0)), (914, .iadd, 1, (0, 0, 0, 0)), (915, .iaload, 1, (0, 0, 0, 0)), (916, .invokevirtual 107, 3, (153, 0, 1045, 0)), (919, .if_icmp .eq 471, 3, (1390, 0, 0, 0)), (922, .iconst 0, 1, (0, 0, 0, 0)), (923, .ireturn, 1, (1, 0, 0, 0)), (924, .aload_n 1, 1, (0, 0, 0, 0)), (925, .aload_n 0, 1, (0, 0, 0, 0)), (926, .iload_n 3, 1, (0, 0, 0, 0)), (927, .iconst 1, 1, (0, 0, 0, 0)), (928, .iadd, 1, (0, 0, 0, 0)), (929, .iaload, 1, (0, 0, 0, 0)), (930, .aload_n 0, 1, (0, 0, 0, 0)), (931, .iload_n 3, 1, (0, 0, 0, 0)), (932, .iconst 2, 1, (0, 0, 0, 0)), (933, .iadd, 1, (0, 0, 0, 0)), (934, .iaload, 1, (0, 0, 0, 0)), (935, .aload_n 0, 1, (0, 0, 0, 0)), (936, .iload_n 3, 1, (0, 0, 0, 0)), (937, .iconst 3, 1, (0, 0, 0, 0)), (938, .iadd, 1, (0, 0, 0, 0)), (939, .iaload, 1, (0, 0, 0, 0)), (940, .invokevirtual 108, 3, (70, 0, 574, 0)), (943, .aload_n 2, 1, (0, 0, 0, 0)), (944, .aload_n 0, 1, (0, 0, 0, 0)), (945, .iload_n 3, 1, (0, 0, 0, 0)), (946, .iconst 1, 1, (0, 0, 0, 0)), (947, .iadd, 1, (0, 0, 0, 0)), (948, .iaload, 1, (0, 0, 0, 0)), (949, .aload_n 0, 1, (0, 0, 0, 0)), (950, .iload_n 3, 1, (0, 0, 0, 0)), (951, .iconst 2, 1, (0, 0, 0, 0)), (952, .iadd, 1, (0, 0, 0, 0)), (953, .iaload, 1, (0, 0, 0, 0)), (954, .aload_n 0, 1, (0, 0, 0, 0)), (955, .iload_n 3, 1, (0, 0, 0, 0)), (956, .iconst 3, 1, (0, 0, 0, 0)), (957, .iadd, 1, (0, 0, 0, 0)), (958, .iaload, 1, (0, 0, 0, 0)), (959, .invokevirtual 111, 3, (154, 0, 1053, 0)), (962, .lcmp, 1, (0, 0, 0, 0)), (963, .ifCond .eq 427, 3, (1390, 0, 0, 0)), (966, .iconst 0, 1, (0, 0, 0, 0)), (967, .ireturn, 1, (1, 0, 0, 0)), (968, .aload_n 1, 1, (0, 0, 0, 0)), (969, .aload_n 0, 1, (0, 0, 0, 0)), (970, .iload_n 3, 1, (0, 0, 0, 0)), (971, .iconst 1, 1, (0, 0, 0, 0)), (972, .iadd, 1, (0, 0, 0, 0)), (973, .iaload, 1, (0, 0, 0, 0)), (974, .invokevirtual 112, 3, (71, 0, 579, 0)), (977, .aload_n 2, 1, (0, 0, 0, 0)), (978, .aload_n 0, 1, (0, 0, 0, 0)), (979, .iload_n 3, 1, (0, 0, 0, 0)), (980, .iconst 1, 1, (0, 0, 0, 0)), (981, .iadd, 1, (0, 0, 0, 0)), (982, .iaload, 1, (0, 0, 0, 0)), (983, .invokevirtual 116, 3, (155, 0, 1057, 0)), (986, .lcmp, 1, (0, 0, 0, 0)), (987, .ifCond .eq 403, 3, (1390, 0, 0, 0)), (990, .iconst 0, 1, (0, 0, 0, 0)), (991, .ireturn, 1, (1, 0, 0, 0)), (992, .aload_n 1, 1, (0, 0, 0, 0)), (993, .aload_n 0, 1, (0, 0, 0, 0)), (994, .iload_n 3, 1, (0, 0, 0, 0)), (995, .iconst 1, 1, (0, 0, 0, 0)), (996, .iadd, 1, (0, 0, 0, 0)), (997, .iaload, 1, (0, 0, 0, 0)), (998, .aload_n 0, 1, (0, 0, 0, 0)), (999, .iload_n 3, 1, (0, 0, 0, 0)), (1000, .iconst 2, 1, (0, 0, 0, 0)), (1001, .iadd, 1, (0, 0, 0, 0)), (1002, .iaload, 1, (0, 0, 0, 0)), (1003, .invokevirtual 117, 3, (72, 0, 583, 0)), (1006, .aload_n 2, 1, (0, 0, 0, 0)), (1007, .aload_n 0, 1, (0, 0, 0, 0)), (1008, .iload_n 3, 1, (0, 0, 0, 0)), (1009, .iconst 1, 1, (0, 0, 0, 0)), (1010, .iadd, 1, (0, 0, 0, 0)), (1011, .iaload, 1, (0, 0, 0, 0)), (1012, .aload_n 0, 1, (0, 0, 0, 0)), (1013, .iload_n 3, 1, (0, 0, 0, 0)), (1014, .iconst 2, 1, (0, 0, 0, 0)), (1015, .iadd, 1, (0, 0, 0, 0)), (1016, .iaload, 1, (0, 0, 0, 0)), (1017, .invokevirtual 120, 3, (156, 0, 1061, 0)), (1020, .if_icmp .eq 370, 3, (1390, 0, 0, 0)), (1023, .iconst 0, 1, (0, 0, 0, 0)), (1024, .ireturn, 1, (1, 0, 0, 0)), (1025, .aload_n 1, 1, (0, 0, 0, 0)), (1026, .aload_n 0, 1, (0, 0, 0, 0)), (1027, .iload_n 3, 1, (0, 0, 0, 0)), (1028, .iconst 1, 1, (0, 0, 0, 0)), (1029, .iadd, 1, (0, 0, 0, 0)), (1030, .iaload, 1, (0, 0, 0, 0)), (1031, .invokevirtual 121, 3, (73, 0, 587, 0)), (1034, .aload_n 2, 1, (0, 0, 0, 0)), (1035, .aload_n 0, 1, (0, 0, 0, 0)), (1036, .iload_n 3, 1, (0, 0, 0, 0)), (1037, .iconst 1, 1, (0, 0, 0, 0)), (1038, .iadd, 1, (0, 0, 0, 0)), (1039, .iaload, 1, (0, 0, 0, 0)), (1040, .invokevirtual 124, 3, (158, 0, 1065, 0)), (1043, .lcmp, 1, (0, 0, 0, 0)), (1044, .ifCond .eq 346, 3, (1390, 0, 0, 0)), (1047, .iconst 0, 1, (0, 0, 0, 0)), (1048, .ireturn, 1, (1, 0, 0, 0)), (1049, .aload_n 1, 1, (0, 0, 0, 0)), (1050, .aload_n 0, 1, (0, 0, 0, 0)), (1051, .iload_n 3, 1, (0, 0, 0, 0)), (1052, .iconst 1, 1, (0, 0, 0, 0)), (1053, .iadd, 1, (0, 0, 0, 0)), (1054, .iaload, 1, (0, 0, 0, 0)), (1055, .aload_n 0, 1, (0, 0, 0, 0)), (1056, .iload_n 3, 1, (0, 0, 0, 0)), (1057, .iconst 2, 1, (0, 0, 0, 0)), (1058, .iadd, 1, (0, 0, 0, 0)), (1059, .iaload, 1, (0, 0, 0, 0)), (1060, .invokevirtual 125, 3, (74, 0, 600, 0)), (1063, .aload_n 2, 1, (0, 0, 0, 0)), (1064, .aload_n 0, 1, (0, 0, 0, 0)), (1065, .iload_n 3, 1, (0, 0, 0, 0)), (1066, .iconst 1, 1, (0, 0, 0, 0)), (1067, .iadd, 1, (0, 0, 0, 0)), (1068, .iaload, 1, (0, 0, 0, 0)), (1069, .aload_n 0, 1, (0, 0, 0, 0)), (1070, .iload_n 3, 1, (0, 0, 0, 0)), (1071, .iconst 2, 1, (0, 0, 0, 0)), (1072, .iadd, 1, (0, 0, 0, 0)), (1073, .iaload, 1, (0, 0, 0, 0)), (1074, .invokevirtual 128, 3, (159, 0, 1082, 0)), (1077, .if_icmp .eq 313, 3, (1390, 0, 0, 0)), (1080, .iconst 0, 1, (0, 0, 0, 0)), (1081, .ireturn, 1, (1, 0, 0, 0)), (1082, .aload_n 1, 1, (0, 0, 0, 0)), (1083, .invokevirtual 129, 3, (75, 0, 604, 0)), (1086, .aload_n 2, 1, (0, 0, 0, 0)), (1087, .invokevirtual 132, 3, (160, 0, 1086, 0)), (1090, .if_icmp .eq 300, 3, (1390, 0, 0, 0)), (1093, .iconst 0, 1, (0, 0, 0, 0)), (1094, .ireturn, 1, (1, 0, 0, 0)), (1095, .aload_n 1, 1, (0, 0, 0, 0)), (1096, .aload_n 0, 1, (0, 0, 0, 0)), (1097, .iload_n 3, 1, (0, 0, 0, 0)), (1098, .iconst 1, 1, (0, 0, 0, 0)), (1099, .iadd, 1, (0, 0, 0, 0)), (1100, .iaload, 1, (0, 0, 0, 0)), (1101, .aload_n 0, 1, (0, 0, 0, 0)), (1102, .iload_n 3, 1, (0, 0, 0, 0)), (1103, .iconst 2, 1, (0, 0, 0, 0)), (1104, .iadd, 1, (0, 0, 0, 0)), (1105, .iaload, 1, (0, 0, 0, 0)), (1106, .invokevirtual 133, 3, (76, 0, 608, 0)), (1109, .aload_n 2, 1, (0, 0, 0, 0)), (1110, .aload_n 0, 1, (0, 0, 0, 0)), (1111, .iload_n 3, 1, (0, 0, 0, 0)), (1112, .iconst 1, 1, (0, 0, 0, 0)), (1113, .iadd, 1, (0, 0, 0, 0)), (1114, .iaload, 1, (0, 0, 0, 0)), (1115, .aload_n 0, 1, (0, 0, 0, 0)), (1116, .iload_n 3, 1, (0, 0, 0, 0)), (1117, .iconst 2, 1, (0, 0, 0, 0)), (1118, .iadd, 1, (0, 0, 0, 0)), (1119, .iaload, 1, (0, 0, 0, 0)), (1120, .invokevirtual 136, 3, (167, 0, 1102, 0)), (1123, .if_icmp .eq 267, 3, (1390, 0, 0, 0)), (1126, .iconst 0, 1, (0, 0, 0, 0)), (1127, .ireturn, 1, (1, 0, 0, 0)), (1128, .aload_n 1, 1, (0, 0, 0, 0)), (1129, .invokevirtual 137, 3, (77, 0, 615, 0)), (1132, .aload_n 2, 1, (0, 0, 0, 0)), (1133, .invokevirtual 140, 3, (163, 0, 1090, 0)), (1136, .if_icmp .eq 254, 3, (1390, 0, 0, 0)), (1139, .iconst 0, 1, (0, 0, 0, 0)), (1140, .ireturn, 1, (1, 0, 0, 0)), (1141, .aload_n 1, 1, (0, 0, 0, 0)), (1142, .invokevirtual 141, 3, (78, 0, 624, 0)), (1145, .aload_n 2, 1, (0, 0, 0, 0)), (1146, .invokevirtual 144, 3, (164, 0, 1094, 0)), (1149, .if_icmp .eq 241, 3, (1390, 0, 0, 0)), (1152, .iconst 0, 1, (0, 0, 0, 0)), (1153, .ireturn, 1, (1, 0, 0, 0)), (1154, .aload_n 1, 1, (0, 0, 0, 0)), (1155, .aload_n 0, 1, (0, 0, 0, 0)), (1156, .iload_n 3, 1, (0, 0, 0, 0)), (1157, .iconst 1, 1, (0, 0, 0, 0)), (1158, .iadd, 1, (0, 0, 0, 0)), (1159, .iaload, 1, (0, 0, 0, 0)), (1160, .invokevirtual 145, 3, (79, 0, 628, 0)), (1163, .aload_n 2, 1, (0, 0, 0, 0)), (1164, .aload_n 0, 1, (0, 0, 0, 0)), (1165, .iload_n 3, 1, (0, 0, 0, 0)), (1166, .iconst 1, 1, (0, 0, 0, 0)), (1167, .iadd, 1, (0, 0, 0, 0)), (1168, .iaload, 1, (0, 0, 0, 0)), (1169, .invokevirtual 148, 3, (165, 0, 1098, 0)), (1172, .if_icmp .eq 218, 3, (1390, 0, 0, 0)), (1175, .iconst 0, 1, (0, 0, 0, 0)), (1176, .ireturn, 1, (1, 0, 0, 0)), (1177, .aload_n 1, 1, (0, 0, 0, 0)), (1178, .aload_n 0, 1, (0, 0, 0, 0)), (1179, .iload_n 3, 1, (0, 0, 0, 0)), (1180, .iconst 1, 1, (0, 0, 0, 0)), (1181, .iadd, 1, (0, 0, 0, 0)), (1182, .iaload, 1, (0, 0, 0, 0)), (1183, .aload_n 0, 1, (0, 0, 0, 0)), (1184, .iload_n 3, 1, (0, 0, 0, 0)), (1185, .iconst 2, 1, (0, 0, 0, 0)), (1186, .iadd, 1, (0, 0, 0, 0)), (1187, .iaload, 1, (0, 0, 0, 0)), (1188, .aload_n 0, 1, (0, 0, 0, 0)), (1189, .iload_n 3, 1, (0, 0, 0, 0)), (1190, .iconst 3, 1, (0, 0, 0, 0)), (1191, .iadd, 1, (0, 0, 0, 0)), (1192, .iaload, 1, (0, 0, 0, 0)), (1193, .invokevirtual 149, 3, (80, 0, 632, 0)), (1196, .aload_n 2, 1, (0, 0, 0, 0)), (1197, .aload_n 0, 1, (0, 0, 0, 0)), (1198, .iload_n 3, 1, (0, 0, 0, 0)), (1199, .iconst 1, 1, (0, 0, 0, 0)), (1200, .iadd, 1, (0, 0, 0, 0)), (1201, .iaload, 1, (0, 0, 0, 0)), (1202, .aload_n 0, 1, (0, 0, 0, 0)), (1203, .iload_n 3, 1, (0, 0, 0, 0)), (1204, .iconst 2, 1, (0, 0, 0, 0)), (1205, .iadd, 1, (0, 0, 0, 0)), (1206, .iaload, 1, (0, 0, 0, 0)), (1207, .aload_n 0, 1, (0, 0, 0, 0)), (1208, .iload_n 3, 1, (0, 0, 0, 0)), (1209, .iconst 3, 1, (0, 0, 0, 0)), (1210, .iadd, 1, (0, 0, 0, 0)), (1211, .iaload, 1, (0, 0, 0, 0)), (1212, .invokevirtual 152, 3, (168, 0, 1109, 0)), (1215, .if_icmp .eq 175, 3, (1390, 0, 0, 0)), (1218, .iconst 0, 1, (0, 0, 0, 0)), (1219, .ireturn, 1, (1, 0, 0, 0)), (1220, .aload_n 1, 1, (0, 0, 0, 0)), (1221, .aload_n 0, 1, (0, 0, 0, 0)), (1222, .iload_n 3, 1, (0, 0, 0, 0)), (1223, .iconst 1, 1, (0, 0, 0, 0)), (1224, .iadd, 1, (0, 0, 0, 0)), (1225, .iaload, 1, (0, 0, 0, 0)), (1226, .aload_n 0, 1, (0, 0, 0, 0)), (1227, .iload_n 3, 1, (0, 0, 0, 0)), (1228, .iconst 2, 1, (0, 0, 0, 0)), (1229, .iadd, 1, (0, 0, 0, 0)), (1230, .iaload, 1, (0, 0, 0, 0)), (1231, .aload_n 0, 1, (0, 0, 0, 0)), (1232, .iload_n 3, 1, (0, 0, 0, 0)), (1233, .iconst 3, 1, (0, 0, 0, 0)), (1234, .iadd, 1, (0, 0, 0, 0)), (1235, .iaload, 1, (0, 0, 0, 0)), (1236, .i2l, 1, (0, 0, 0, 0)), (1237, .bipush 32, 2, (0, 0, 0, 0)), (1239, .lshl, 1, (0, 0, 0, 0)), (1240, .aload_n 0, 1, (0, 0, 0, 0)), (1241, .iload_n 3, 1, (0, 0, 0, 0)), (1242, .iconst 4, 1, (0, 0, 0, 0)), (1243, .iadd, 1, (0, 0, 0, 0)), (1244, .iaload, 1, (0, 0, 0, 0)), (1245, .i2l, 1, (0, 0, 0, 0)), (1246, .ldc2_w 153, 3, (0, 0, 1128, 4294967295)), (1249, .land, 1, (0, 0, 0, 0)), (1250, .lor, 1, (0, 0, 0, 0)), (1251, .invokevirtual 155, 3, (81, 0, 643, 0)), (1254, .aload_n 2, 1, (0, 0, 0, 0)), (1255, .aload_n 0, 1, (0, 0, 0, 0)), (1256, .iload_n 3, 1, (0, 0, 0, 0)), (1257, .iconst 1, 1, (0, 0, 0, 0)), (1258, .iadd, 1, (0, 0, 0, 0)), (1259, .iaload, 1, (0, 0, 0, 0)), (1260, .aload_n 0, 1, (0, 0, 0, 0)), (1261, .iload_n 3, 1, (0, 0, 0, 0)), (1262, .iconst 2, 1, (0, 0, 0, 0)), (1263, .iadd, 1, (0, 0, 0, 0)), (1264, .iaload, 1, (0, 0, 0, 0)), (1265, .aload_n 0, 1, (0, 0, 0, 0)), (1266, .iload_n 3, 1, (0, 0, 0, 0)), (1267, .iconst 3, 1, (0, 0, 0, 0)), (1268, .iadd, 1, (0, 0, 0, 0)), (1269, .iaload, 1, (0, 0, 0, 0)), (1270, .i2l, 1, (0, 0, 0, 0)), (1271, .bipush 32, 2, (0, 0, 0, 0)), (1273, .lshl, 1, (0, 0, 0, 0)), (1274, .aload_n 0, 1, (0, 0, 0, 0)), (1275, .iload_n 3, 1, (0, 0, 0, 0)), (1276, .iconst 4, 1, (0, 0, 0, 0)), (1277, .iadd, 1, (0, 0, 0, 0)), (1278, .iaload, 1, (0, 0, 0, 0)), (1279, .i2l, 1, (0, 0, 0, 0)), (1280, .ldc2_w 153, 3, (0, 0, 1128, 4294967295)), (1283, .land, 1, (0, 0, 0, 0)), (1284, .lor, 1, (0, 0, 0, 0)), (1285, .invokevirtual 159, 3, (170, 0, 1113, 0)), (1288, .if_icmp .eq 102, 3, (1390, 0, 0, 0)), (1291, .iconst 0, 1, (0, 0, 0, 0)), (1292, .ireturn, 1, (1, 0, 0, 0)), (1293, .aload_n 1, 1, (0, 0, 0, 0)), (1294, .aload_n 0, 1, (0, 0, 0, 0)), (1295, .iload_n 3, 1, (0, 0, 0, 0)), (1296, .iconst 1, 1, (0, 0, 0, 0)), (1297, .iadd, 1, (0, 0, 0, 0)), (1298, .iaload, 1, (0, 0, 0, 0)), (1299, .aload_n 0, 1, (0, 0, 0, 0)), (1300, .iload_n 3, 1, (0, 0, 0, 0)), (1301, .iconst 2, 1, (0, 0, 0, 0)), (1302, .iadd, 1, (0, 0, 0, 0)), (1303, .iaload, 1, (0, 0, 0, 0)), (1304, .invokevirtual 160, 3, (82, 0, 655, 0)), (1307, .aload_n 2, 1, (0, 0, 0, 0)), (1308, .aload_n 0, 1, (0, 0, 0, 0)), (1309, .iload_n 3, 1, (0, 0, 0, 0)), (1310, .iconst 1, 1, (0, 0, 0, 0)), (1311, .iadd, 1, (0, 0, 0, 0)), (1312, .iaload, 1, (0, 0, 0, 0)), (1313, .aload_n 0, 1, (0, 0, 0, 0)), (1314, .iload_n 3, 1, (0, 0, 0, 0)), (1315, .iconst 2, 1, (0, 0, 0, 0)), (1316, .iadd, 1, (0, 0, 0, 0)), (1317, .iaload, 1, (0, 0, 0, 0)), (1318, .invokevirtual 164, 3, (171, 0, 1120, 0)), (1321, .lcmp, 1, (0, 0, 0, 0)), (1322, .ifCond .eq 68, 3, (1390, 0, 0, 0)), (1325, .iconst 0, 1, (0, 0, 0, 0)), (1326, .ireturn, 1, (1, 0, 0, 0)), (1327, .aload_n 1, 1, (0, 0, 0, 0)), (1328, .aload_n 0, 1, (0, 0, 0, 0)), (1329, .iload_n 3, 1, (0, 0, 0, 0)), (1330, .iconst 1, 1, (0, 0, 0, 0)), (1331, .iadd, 1, (0, 0, 0, 0)), (1332, .iaload, 1, (0, 0, 0, 0)), (1333, .aload_n 0, 1, (0, 0, 0, 0)), (1334, .iload_n 3, 1, (0, 0, 0, 0)), (1335, .iconst 2, 1, (0, 0, 0, 0)), (1336, .iadd, 1, (0, 0, 0, 0)), (1337, .iaload, 1, (0, 0, 0, 0)), (1338, .aload_n 0, 1, (0, 0, 0, 0)), (1339, .iload_n 3, 1, (0, 0, 0, 0)), (1340, .iconst 3, 1, (0, 0, 0, 0)), (1341, .iadd, 1, (0, 0, 0, 0)), (1342, .iaload, 1, (0, 0, 0, 0)), (1343, .aload_n 0, 1, (0, 0, 0, 0)), (1344, .iload_n 3, 1, (0, 0, 0, 0)), (1345, .iconst 4, 1, (0, 0, 0, 0)), (1346, .iadd, 1, (0, 0, 0, 0)), (1347, .iaload, 1, (0, 0, 0, 0)), (1348, .aload_n 0, 1, (0, 0, 0, 0)), (1349, .iload_n 3, 1, (0, 0, 0, 0)), (1350, .iconst 5, 1, (0, 0, 0, 0)), (1351, .iadd, 1, (0, 0, 0, 0)), (1352, .iaload, 1, (0, 0, 0, 0)), (1353, .invokevirtual 165, 3, (83, 0, 659, 0)), (1356, .aload_n 2, 1, (0, 0, 0, 0)), (1357, .aload_n 0, 1, (0, 0, 0, 0)), (1358, .iload_n 3, 1, (0, 0, 0, 0)), (1359, .iconst 1, 1, (0, 0, 0, 0)), (1360, .iadd, 1, (0, 0, 0, 0)), (1361, .iaload, 1, (0, 0, 0, 0)), (1362, .aload_n 0, 1, (0, 0, 0, 0)), (1363, .iload_n 3, 1, (0, 0, 0, 0)), (1364, .iconst 2, 1, (0, 0, 0, 0)), (1365, .iadd, 1, (0, 0, 0, 0)), (1366, .iaload, 1, (0, 0, 0, 0)), (1367, .aload_n 0, 1, (0, 0, 0, 0)), (1368, .iload_n 3, 1, (0, 0, 0, 0)), (1369, .iconst 3, 1, (0, 0, 0, 0)), (1370, .iadd, 1, (0, 0, 0, 0)), (1371, .iaload, 1, (0, 0, 0, 0)), (1372, .aload_n 0, 1, (0, 0, 0, 0)), (1373, .iload_n 3, 1, (0, 0, 0, 0)), (1374, .iconst 4, 1, (0, 0, 0, 0)), (1375, .iadd, 1, (0, 0, 0, 0)), (1376, .iaload, 1, (0, 0, 0, 0)), (1377, .aload_n 0, 1, (0, 0, 0, 0)), (1378, .iload_n 3, 1, (0, 0, 0, 0)), (1379, .iconst 5, 1, (0, 0, 0, 0)), (1380, .iadd, 1, (0, 0, 0, 0)), (1381, .iaload, 1, (0, 0, 0, 0)), (1382, .invokevirtual 169, 3, (172, 0, 1124, 0)), (1385, .if_icmp .eq 5, 3, (1390, 0, 0, 0)), (1388, .iconst 0, 1, (0, 0, 0, 0)), (1389, .ireturn, 1, (1, 0, 0, 0)), (1390, .iinc 3 6, 3, (0, 0, 0, 0)), (1393, .goto (-1375), 3, (18, 0, 0, 0)), (1396, .iconst 1, 1, (0, 0, 0, 0)), (1397, .ireturn, 1, (1, 0, 0, 0))]
def zprog : List (List (Nat × Instr × Nat × zRes)) := [zc_0, zc_1, zc_2, zc_3, zc_4, zc_5, zc_6, zc_7, zc_8, zc_9, zc_10, zc_11, zc_12, zc_13, zc_14, zc_15, zc_16, zc_17, zc_18, zc_19, zc_20, zc_21, zc_22, zc_23, zc_24, zc_25, zc_26, zc_27, zc_28, zc_29, zc_30, zc_31, zc_32, zc_33, zc_34, zc_35, zc_36, zc_37, zc_38, zc_39, zc_40, zc_41, zc_42, zc_43, zc_44, zc_45, zc_46, zc_47, zc_48, zc_49, zc_50, zc_51, zc_52, zc_53, zc_54, zc_55, zc_56, zc_57, zc_58, zc_59, zc_60, zc_61, zc_62, zc_63, zc_64, zc_65, zc_66, zc_67, zc_68, zc_69, zc_70, zc_71, zc_72, zc_73, zc_74, zc_75, zc_76, zc_77, zc_78, zc_79, zc_80, zc_81, zc_82, zc_83, zc_84, zc_85, zc_86, zc_87, zc_88, zc_89, zc_90, zc_91, zc_92, zc_93, zc_94, zc_95, zc_96, zc_97, zc_98, zc_99, zc_100, zc_101, zc_102, zc_103, zc_104, zc_105, zc_106, zc_107, zc_108, zc_109, zc_110, zc_111, zc_112, zc_113, zc_114, zc_115, zc_116, zc_117, zc_118, zc_119, zc_120, zc_121, zc_122, zc_123, zc_124, zc_125, zc_126, zc_127, zc_128, zc_129, zc_130, zc_131, zc_132, zc_133, zc_134, zc_135, zc_136, zc_137, zc_138, zc_139, zc_140, zc_141, zc_142, zc_143, zc_144, zc_145, zc_146, zc_147, zc_148, zc_149, zc_150, zc_151, zc_152, zc_153, zc_154, zc_155, zc_156, zc_157, zc_158, zc_159, zc_160, zc_161, zc_162, zc_163, zc_164, zc_165, zc_166, zc_167, zc_168, zc_169, zc_170, zc_171, zc_172, zc_173, zc_174, zc_175, zc_176, zc_177, zc_178, zc_179, zc_180, zc_181, zc_182, zc_183, zc_184]
def znm : List MethodName := [⟨"EstateVessels$Group", "<init>", "()V"⟩, ⟨"EstateVessels$Group", "has", "(I)Z"⟩, ⟨"EstateVessels$Group", "all", "()I"⟩, ⟨"EstateVessels$Group", "clear", "()V"⟩, ⟨"EstateVessels$Group", "add", "(I)V"⟩, ⟨"EstateVessels$Group", "put", "(II)V"⟩, ⟨"EstateVessels$Group", "copy", "(LEstateVessels$Group;)V"⟩, ⟨"EstateVessels$Group", "scale", "(I)J"⟩, ⟨"EstateVessels$Group", "gets", "(IIJJ)J"⟩, ⟨"EstateVessels$Group", "levelled", "(IJJ)J"⟩, ⟨"EstateVessels$Group", "arrived", "(IJJ)J"⟩, ⟨"EstateVessels$Image", "<init>", "()V"⟩, ⟨"EstateVessels$Rows", "<init>", "(I)V"⟩, ⟨"EstateVessels$Rows", "add", "(II)I"⟩, ⟨"EstateVessels$Rows", "copy", "(LEstateVessels$Rows;)V"⟩, ⟨"EstateVessels$Setup", "<init>", "()V"⟩, ⟨"EstateVessels$Setup", "isReady", "()Z"⟩, ⟨"EstateVessels$Setup", "copy", "(LEstateVessels$Setup;)V"⟩, ⟨"EstateVessels$Setup", "fraction", "(III)J"⟩, ⟨"EstateVessels$Setup", "whole", "(II)I"⟩, ⟨"EstateVessels$Setup", "alike", "(I)I"⟩, ⟨"EstateVessels$Setup", "areAlike", "(II)Z"⟩, ⟨"EstateVessels$Setup", "sorest", "(II)I"⟩, ⟨"EstateVessels$Setup", "isSorer", "(II)Z"⟩, ⟨"EstateVessels$Setup", "happen", "(II)V"⟩, ⟨"EstateVessels$Tape", "<init>", "()V"⟩, ⟨"EstateVessels$Tape", "become", "(II)V"⟩, ⟨"EstateVessels$Tape", "has", "(I)Z"⟩, ⟨"EstateVessels$Tape", "hasAll", "(II)Z"⟩, ⟨"EstateVessels$Tape", "fitted", "(J)J"⟩, ⟨"EstateVessels$Text", "<init>", "()V"⟩, ⟨"EstateVessels$Text", "parse", "()I"⟩, ⟨"EstateVessels$Text", "takes", "(I)Z"⟩, ⟨"EstateVessels$Text", "takesClause", "(I)Z"⟩, ⟨"EstateVessels$Text", "number", "(I)I"⟩, ⟨"EstateVessels$Vessels", "<init>", "()V"⟩, ⟨"EstateVessels$Vessels", "pour", "(LEstateVessels$Setup;II)V"⟩, ⟨"EstateVessels$Vessels", "empty", "(LEstateVessels$Group;)V"⟩, ⟨"EstateVessels$Vessels", "fall", "(IF)V"⟩, ⟨"EstateVessels$Vessels", "lowest", "(I)I"⟩, ⟨"EstateVessels$Vessels", "surface", "(II)F"⟩, ⟨"EstateVessels", "<init>", "()V"⟩, ⟨"EstateVessels", "claim", "(I)I"⟩, ⟨"EstateVessels", "renew", "(II)I"⟩, ⟨"EstateVessels", "estate", "(I)I"⟩, ⟨"EstateVessels", "rule", "(I)I"⟩, ⟨"EstateVessels", "of", "(I)I"⟩, ⟨"EstateVessels", "told", "(I)I"⟩, ⟨"EstateVessels", "feed", "(I)I"⟩, ⟨"EstateVessels", "read", "()I"⟩, ⟨"EstateVessels", "perform", "(III)I"⟩, ⟨"EstateVessels", "award", "(III)J"⟩, ⟨"EstateVessels", "cut", "(II)I"⟩, ⟨"EstateVessels", "dual", "(III)J"⟩, ⟨"EstateVessels", "alone", "(IIII)J"⟩, ⟨"EstateVessels", "firstOfTwo", "(III)J"⟩, ⟨"EstateVessels", "consistent", "(I)I"⟩, ⟨"EstateVessels", "isSameAlone", "(III)Z"⟩, ⟨"EstateVessels", "change", "(IIIII)J"⟩, ⟨"EstateVessels", "inverse", "(III)I"⟩, ⟨"EstateVessels", "bends", "(II)I"⟩, ⟨"EstateVessels", "like", "(I)I"⟩, ⟨"EstateVessels", "sore", "(II)I"⟩, ⟨"EstateVessels", "poured", "(III)J"⟩, ⟨"EstateVessels", "gap", "(III)J"⟩, ⟨"EstateVessels", "widestGap", "(I)D"⟩, ⟨"EstateVessels", "see", "(II)I"⟩, ⟨"EstateVessels", "tell", "(LEstateVessels$Rows;II)I"⟩, ⟨"EstateVessels", "fits", "(II)I"⟩, ⟨"EstateVessels", "firstOtherwise", "(LEstateVessels$Setup;LEstateVessels$Rows;)I"⟩, ⟨"EstateVessels", "odds", "(III)J"⟩, ⟨"EstateVessels", "mean", "(I)J"⟩, ⟨"EstateVessels", "event", "(II)I"⟩, ⟨"EstateVessels", "after", "(I)J"⟩, ⟨"EstateVessels", "book", "(II)I"⟩, ⟨"EstateVessels", "looked", "()I"⟩, ⟨"EstateVessels", "judge", "(II)I"⟩, ⟨"EstateVessels", "image", "()I"⟩, ⟨"EstateVessels", "undo", "()I"⟩, ⟨"EstateVessels", "count", "(I)I"⟩, ⟨"EstateVessels", "tape", "(III)I"⟩, ⟨"EstateVessels", "item", "(IIJ)I"⟩, ⟨"EstateVessels", "peek", "(II)J"⟩, ⟨"EstateVessels", "shift", "(IIIII)I"⟩, ⟨"EstateVessels", "isClaim", "(I)Z"⟩, ⟨"EstateVessels", "isEstate", "(I)Z"⟩, ⟨"EstateVessels", "isRule", "(I)Z"⟩, ⟨"EstateVessels", "isPart", "(I)Z"⟩, ⟨"EstateVessels", "isPourable", "(II)Z"⟩, ⟨"EstateVessels", "isTape", "(I)Z"⟩, ⟨"EstateVessels", "inLowestTerms", "(JJI)J"⟩, ⟨"EstateVessels", "greatestDivisor", "(JJ)J"⟩, ⟨"EstateVessels", "bits", "(DII)J"⟩, ⟨"EstateVesselsModel", "<init>", "()V"⟩, ⟨"EstateVesselsModel", "in", "(III)Z"⟩, ⟨"EstateVesselsModel", "has", "(II)Z"⟩, ⟨"EstateVesselsModel", "isOne", "(I)Z"⟩, ⟨"EstateVesselsModel", "isRule", "(I)Z"⟩, ⟨"EstateVesselsModel", "isPart", "(I)Z"⟩, ⟨"EstateVesselsModel", "isClaim", "(I)Z"⟩, ⟨"EstateVesselsModel", "fraction", "(JJ)V"⟩, ⟨"EstateVesselsModel", "part", "(I)J"⟩, ⟨"EstateVesselsModel", "everyone", "()I"⟩, ⟨"EstateVesselsModel", "allOf", "(I)I"⟩, ⟨"EstateVesselsModel", "all", "()I"⟩, ⟨"EstateVesselsModel", "isReady", "()Z"⟩, ⟨"EstateVesselsModel", "claim", "(I)I"⟩, ⟨"EstateVesselsModel", "renew", "(II)I"⟩, ⟨"EstateVesselsModel", "estate", "(I)I"⟩, ⟨"EstateVesselsModel", "rule", "(I)I"⟩, ⟨"EstateVesselsModel", "of", "(I)I"⟩, ⟨"EstateVesselsModel", "told", "(I)I"⟩, ⟨"EstateVesselsModel", "feed", "(I)I"⟩, ⟨"EstateVesselsModel", "here", "()I"⟩, ⟨"EstateVesselsModel", "readNumber", "(I)Z"⟩, ⟨"EstateVesselsModel", "clause", "(Z)I"⟩, ⟨"EstateVesselsModel", "clauses", "(Z)I"⟩, ⟨"EstateVesselsModel", "read", "()I"⟩, ⟨"EstateVesselsModel", "even", "(IIJJ)V"⟩, ⟨"EstateVesselsModel", "least", "(I)I"⟩, ⟨"EstateVesselsModel", "less", "(IJ)V"⟩, ⟨"EstateVesselsModel", "loss", "(IIJJ)V"⟩, ⟨"EstateVesselsModel", "factorial", "(I)I"⟩, ⟨"EstateVesselsModel", "arrival", "(IIJJ)V"⟩, ⟨"EstateVesselsModel", "awards", "(IIJJI)V"⟩, ⟨"EstateVesselsModel", "awardOf", "(II)V"⟩, ⟨"EstateVesselsModel", "cutOf", "(II)I"⟩, ⟨"EstateVesselsModel", "award", "(III)J"⟩, ⟨"EstateVesselsModel", "cut", "(II)I"⟩, ⟨"EstateVesselsModel", "dual", "(III)J"⟩, ⟨"EstateVesselsModel", "aloneOf", "(III)V"⟩, ⟨"EstateVesselsModel", "alone", "(IIII)J"⟩, ⟨"EstateVesselsModel", "isSame", "(III)Z"⟩, ⟨"EstateVesselsModel", "consistent", "(I)I"⟩, ⟨"EstateVesselsModel", "change", "(IIIII)J"⟩, ⟨"EstateVesselsModel", "awardAt", "(III)V"⟩, ⟨"EstateVesselsModel", "inverse", "(III)I"⟩, ⟨"EstateVesselsModel", "bends", "(II)I"⟩, ⟨"EstateVesselsModel", "isLike", "(II)Z"⟩, ⟨"EstateVesselsModel", "likeOf", "(I)I"⟩, ⟨"EstateVesselsModel", "like", "(I)I"⟩, ⟨"EstateVesselsModel", "isSorer", "(III)Z"⟩, ⟨"EstateVesselsModel", "sore", "(II)I"⟩, ⟨"EstateVesselsModel", "asFloat", "(I)F"⟩, ⟨"EstateVesselsModel", "surface", "(II)F"⟩, ⟨"EstateVesselsModel", "greatest", "()I"⟩, ⟨"EstateVesselsModel", "lowest", "(I)I"⟩, ⟨"EstateVesselsModel", "pours", "(II)V"⟩, ⟨"EstateVesselsModel", "canPour", "(II)Z"⟩, ⟨"EstateVesselsModel", "poured", "(III)J"⟩, ⟨"EstateVesselsModel", "gap", "(III)J"⟩, ⟨"EstateVesselsModel", "see", "(II)I"⟩, ⟨"EstateVesselsModel", "isSeen", "()Z"⟩, ⟨"EstateVesselsModel", "fits", "(II)I"⟩, ⟨"EstateVesselsModel", "odds", "(III)J"⟩, ⟨"EstateVesselsModel", "mean", "(I)J"⟩, ⟨"EstateVesselsModel", "event", "(II)I"⟩, ⟨"EstateVesselsModel", "happens", "(II)V"⟩, ⟨"EstateVesselsModel", "after", "(I)J"⟩, ⟨"EstateVesselsModel", "book", "(II)I"⟩, ⟨"EstateVesselsModel", "looked", "()I"⟩, ⟨"EstateVesselsModel", "keeps", "([I)V"⟩, ⟨"EstateVesselsModel", "again", "([I)V"⟩, ⟨"EstateVesselsModel", "image", "()I"⟩, ⟨"EstateVesselsModel", "undo", "()I"⟩, ⟨"EstateVesselsModel", "count", "(I)I"⟩, ⟨"EstateVesselsModel", "isTape", "(I)Z"⟩, ⟨"EstateVesselsModel", "judge", "(II)I"⟩, ⟨"EstateVesselsModel", "tape", "(III)I"⟩, ⟨"EstateVesselsModel", "narrowed", "(IJ)J"⟩, ⟨"EstateVesselsModel", "item", "(IIJ)I"⟩, ⟨"EstateVesselsModel", "peek", "(II)J"⟩, ⟨"EstateVesselsModel", "shift", "(IIIII)I"⟩, ⟨"java/lang/Double", "isNaN", "(D)Z"⟩, ⟨"java/lang/Double", "doubleToLongBits", "(D)J"⟩, ⟨"java/lang/Float", "isNaN", "(F)Z"⟩, ⟨"java/lang/Float", "floatToIntBits", "(F)I"⟩, ⟨"java/lang/Integer", "bitCount", "(I)I"⟩, ⟨"java/lang/Math", "abs", "(J)J"⟩, ⟨"java/lang/Math", "max", "(II)I"⟩, ⟨"java/lang/Math", "max", "(JJ)J"⟩, ⟨"java/lang/Math", "min", "(II)I"⟩, ⟨"java/lang/Math", "min", "(JJ)J"⟩, ⟨"java/util/Arrays", "fill", "([JJ)V"⟩, ⟨"EstateVesselsLaw", "law", "([I)Z"⟩]
def zbt : List ByteArray := [prog_2_method_1_code, prog_2_method_2_code, prog_2_method_3_code, prog_2_method_4_code, prog_2_method_5_code, prog_2_method_6_code, prog_2_method_7_code, prog_2_method_8_code, prog_2_method_9_code, prog_2_method_10_code, prog_2_method_11_code, prog_3_method_1_code, prog_4_method_1_code, prog_4_method_2_code, prog_4_method_3_code, prog_5_method_1_code, prog_5_method_2_code, prog_5_method_3_code, prog_5_method_4_code, prog_5_method_5_code, prog_5_method_6_code, prog_5_method_7_code, prog_5_method_8_code, prog_5_method_9_code, prog_5_method_10_code, prog_6_method_1_code, prog_6_method_2_code, prog_6_method_3_code, prog_6_method_4_code, prog_6_method_5_code, prog_7_method_1_code, prog_7_method_2_code, prog_7_method_3_code, prog_7_method_4_code, prog_7_method_5_code, prog_8_method_1_code, prog_8_method_2_code, prog_8_method_3_code, prog_8_method_4_code, prog_8_method_5_code, prog_8_method_6_code, prog_1_method_1_code, prog_1_method_2_code, prog_1_method_3_code, prog_1_method_4_code, prog_1_method_5_code, prog_1_method_6_code, prog_1_method_7_code, prog_1_method_8_code, prog_1_method_9_code, prog_1_method_10_code, prog_1_method_11_code, prog_1_method_12_code, prog_1_method_13_code, prog_1_method_14_code, prog_1_method_15_code, prog_1_method_16_code, prog_1_method_17_code, prog_1_method_18_code, prog_1_method_19_code, prog_1_method_20_code, prog_1_method_21_code, prog_1_method_22_code, prog_1_method_23_code, prog_1_method_24_code, prog_1_method_25_code, prog_1_method_26_code, prog_1_method_27_code, prog_1_method_28_code, prog_1_method_29_code, prog_1_method_30_code, prog_1_method_31_code, prog_1_method_32_code, prog_1_method_33_code, prog_1_method_34_code, prog_1_method_35_code, prog_1_method_36_code, prog_1_method_37_code, prog_1_method_38_code, prog_1_method_39_code, prog_1_method_40_code, prog_1_method_41_code, prog_1_method_42_code, prog_1_method_43_code, prog_1_method_44_code, prog_1_method_45_code, prog_1_method_46_code, prog_1_method_47_code, prog_1_method_48_code, prog_1_method_49_code, prog_1_method_50_code, prog_1_method_51_code, prog_1_method_52_code, prog_10_method_1_code, prog_10_method_2_code, prog_10_method_3_code, prog_10_method_4_code, prog_10_method_5_code, prog_10_method_6_code, prog_10_method_7_code, prog_10_method_8_code, prog_10_method_9_code, prog_10_method_10_code, prog_10_method_11_code, prog_10_method_12_code, prog_10_method_13_code, prog_10_method_14_code, prog_10_method_15_code, prog_10_method_16_code, prog_10_method_17_code, prog_10_method_18_code, prog_10_method_19_code, prog_10_method_20_code, prog_10_method_21_code, prog_10_method_22_code, prog_10_method_23_code, prog_10_method_24_code, prog_10_method_25_code, prog_10_method_26_code, prog_10_method_27_code, prog_10_method_28_code, prog_10_method_29_code, prog_10_method_30_code, prog_10_method_31_code, prog_10_method_32_code, prog_10_method_33_code, prog_10_method_34_code, prog_10_method_35_code, prog_10_method_36_code, prog_10_method_37_code, prog_10_method_38_code, prog_10_method_39_code, prog_10_method_40_code, prog_10_method_41_code, prog_10_method_42_code, prog_10_method_43_code, prog_10_method_44_code, prog_10_method_45_code, prog_10_method_46_code, prog_10_method_47_code, prog_10_method_48_code, prog_10_method_49_code, prog_10_method_50_code, prog_10_method_51_code, prog_10_method_52_code, prog_10_method_53_code, prog_10_method_54_code, prog_10_method_55_code, prog_10_method_56_code, prog_10_method_57_code, prog_10_method_58_code, prog_10_method_59_code, prog_10_method_60_code, prog_10_method_61_code, prog_10_method_62_code, prog_10_method_63_code, prog_10_method_64_code, prog_10_method_65_code, prog_10_method_66_code, prog_10_method_67_code, prog_10_method_68_code, prog_10_method_69_code, prog_10_method_70_code, prog_10_method_71_code, prog_10_method_72_code, prog_10_method_73_code, prog_10_method_74_code, prog_10_method_75_code, prog_10_method_76_code, prog_10_method_77_code, prog_10_method_78_code, prog_10_method_79_code, prog_10_method_80_code, prog_11_method_6_code, prog_11_method_23_code, prog_12_method_6_code, prog_12_method_24_code, prog_13_method_49_code, prog_14_method_61_code, prog_14_method_65_code, prog_14_method_66_code, prog_14_method_69_code, prog_14_method_70_code, prog_17_method_101_code, code]
def zmlT : List Nat := [1, 2, 1, 1, 5, 3, 4, 2, 13, 14, 15, 1, 2, 3, 3, 1, 1, 2, 4, 5, 4, 10, 6, 3, 3, 1, 3, 2, 3, 3, 1, 2, 2, 5, 5, 1, 6, 3, 4, 6, 4, 2, 2, 4, 3, 3, 2, 2, 2, 4, 4, 4, 3, 9, 7, 7, 4, 6, 14, 9, 13, 2, 3, 5, 6, 13, 3, 4, 6, 3, 10, 2, 3, 3, 3, 1, 5, 1, 1, 2, 4, 6, 3, 8, 1, 1, 1, 1, 2, 1, 7, 11, 9, 1, 3, 2, 2, 1, 1, 1, 11, 2, 1, 4, 1, 1, 2, 4, 3, 3, 2, 2, 2, 1, 3, 4, 5, 2, 11, 4, 4, 7, 3, 12, 15, 3, 3, 4, 3, 4, 8, 5, 8, 4, 12, 4, 5, 18, 8, 4, 2, 12, 6, 1, 5, 3, 4, 8, 3, 4, 9, 3, 2, 7, 7, 2, 3, 3, 4, 3, 2, 3, 3, 1, 1, 2, 1, 4, 5, 3, 5, 3, 7, 2, 2, 1, 1, 1, 2, 2, 4, 2, 4, 5, 4]
def zrtT : List (Option FieldType) := [none, (some .boolean), (some .int), none, none, none, none, (some .long), (some .long), (some .long), (some .long), none, none, (some .int), none, none, (some .boolean), none, (some .long), (some .int), (some .int), (some .boolean), (some .int), (some .boolean), none, none, none, (some .boolean), (some .boolean), (some .long), none, (some .int), (some .boolean), (some .boolean), (some .int), none, none, none, none, (some .int), (some .float), none, (some .int), (some .int), (some .int), (some .int), (some .int), (some .int), (some .int), (some .int), (some .int), (some .long), (some .int), (some .long), (some .long), (some .long), (some .int), (some .boolean), (some .long), (some .int), (some .int), (some .int), (some .int), (some .long), (some .long), (some .double), (some .int), (some .int), (some .int), (some .int), (some .long), (some .long), (some .int), (some .long), (some .int), (some .int), (some .int), (some .int), (some .int), (some .int), (some .int), (some .int), (some .long), (some .int), (some .boolean), (some .boolean), (some .boolean), (some .boolean), (some .boolean), (some .boolean), (some .long), (some .long), (some .long), none, (some .boolean), (some .boolean), (some .boolean), (some .boolean), (some .boolean), (some .boolean), none, (some .long), (some .int), (some .int), (some .int), (some .boolean), (some .int), (some .int), (some .int), (some .int), (some .int), (some .int), (some .int), (some .int), (some .boolean), (some .int), (some .int), (some .int), none, (some .int), none, none, (some .int), none, none, none, (some .int), (some .long), (some .int), (some .long), none, (some .long), (some .boolean), (some .int), (some .long), none, (some .int), (some .int), (some .boolean), (some .int), (some .int), (some .boolean), (some .int), (some .float), (some .float), (some .int), (some .int), none, (some .boolean), (some .long), (some .long), (some .int), (some .boolean), (some .int), (some .long), (some .long), (some .int), none, (some .long), (some .int), (some .int), none, none, (some .int), (some .int), (some .int), (some .boolean), (some .int), (some .int), (some .long), (some .int), (some .long), (some .int), (some .boolean), (some .long), (some .boolean), (some .int), (some .int), (some .long), (some .int), (some .long), (some .int), (some .long), none, (some .boolean)]
def zrmT : List (Nat × Nat) := [(1, 40), (0, 0), (0, 0), (0, 0), (0, 0), (2, 47), (1, 24), (1, 20), (2, 57), (1, 23), (1, 23), (3, 80), (1, 40), (0, 0), (1, 22), (2, 60), (1, 20), (2, 47), (3, 89), (3, 89), (4, 118), (3, 89), (3, 89), (0, 0), (3, 69), (1, 40), (1, 24), (0, 0), (0, 0), (0, 0), (1, 40), (2, 48), (0, 0), (1, 24), (0, 0), (1, 40), (2, 48), (0, 0), (0, 0), (1, 23), (0, 0), (4, 100), (1, 24), (3, 69), (1, 20), (1, 20), (1, 21), (2, 40), (0, 0), (5, 115), (4, 92), (4, 112), (4, 113), (3, 89), (4, 115), (3, 89), (5, 140), (4, 115), (3, 89), (3, 89), (3, 89), (5, 141), (4, 114), (3, 73), (4, 121), (3, 89), (2, 45), (1, 22), (5, 135), (4, 113), (3, 89), (2, 56), (1, 22), (5, 141), (2, 45), (5, 135), (4, 113), (3, 68), (3, 68), (0, 0), (2, 46), (1, 22), (1, 21), (1, 40), (0, 0), (0, 0), (0, 0), (0, 0), (0, 0), (0, 0), (1, 30), (0, 0), (0, 0), (1, 40), (0, 0), (0, 0), (1, 22), (1, 22), (1, 22), (1, 22), (0, 0), (0, 0), (0, 0), (1, 21), (2, 44), (3, 64), (2, 42), (2, 43), (1, 22), (2, 42), (2, 43), (4, 84), (1, 22), (0, 0), (1, 22), (3, 66), (4, 89), (5, 113), (2, 44), (1, 21), (0, 0), (3, 74), (0, 0), (2, 44), (4, 100), (5, 134), (6, 156), (6, 156), (7, 178), (5, 134), (6, 156), (7, 183), (7, 183), (8, 210), (6, 156), (5, 134), (6, 157), (6, 157), (6, 156), (7, 183), (8, 206), (6, 156), (7, 187), (0, 0), (2, 43), (1, 21), (3, 67), (4, 90), (1, 22), (5, 117), (6, 156), (2, 43), (7, 178), (8, 199), (6, 157), (2, 42), (2, 43), (1, 21), (8, 206), (2, 43), (7, 178), (0, 0), (0, 0), (1, 22), (1, 22), (0, 0), (1, 22), (7, 178), (2, 42), (0, 0), (2, 42), (2, 42), (2, 42), (0, 0), (1, 40), (0, 0), (1, 40), (0, 0), (0, 0), (0, 0), (0, 0), (0, 0), (0, 0), (0, 0), (9, 233)]
/-- of a method: where code, instanceMethod or static, selects and initialized stand; how many arguments; 1: it is static -/
def zpsT : List (Nat × Nat × Nat × Nat × Nat × Nat) := [(85, 84, 9999, 53, 0, 0), (310, 308, 309, 53, 1, 0), (350, 348, 349, 53, 0, 0), (323, 321, 322, 53, 0, 0), (302, 300, 301, 53, 1, 0), (314, 312, 313, 53, 2, 0), (319, 317, 318, 53, 1, 0), (430, 428, 429, 53, 1, 0), (403, 401, 402, 53, 4, 0), (410, 409, 4, 53, 3, 0), (418, 417, 5, 53, 3, 0), (216, 215, 9999, 57, 0, 0), (157, 156, 9999, 55, 1, 0), (566, 564, 565, 55, 2, 0), (622, 620, 621, 55, 1, 0), (79, 78, 9999, 52, 0, 0), (354, 352, 353, 52, 0, 0), (479, 477, 478, 52, 1, 0), (399, 397, 398, 52, 3, 0), (447, 445, 446, 52, 2, 0), (496, 494, 495, 52, 1, 0), (500, 499, 8, 52, 2, 0), (508, 506, 507, 52, 2, 0), (512, 511, 9, 52, 2, 0), (594, 592, 593, 52, 2, 0), (246, 245, 9999, 58, 0, 0), (639, 637, 638, 58, 2, 0), (650, 648, 649, 58, 1, 0), (666, 664, 665, 58, 2, 0), (654, 652, 653, 58, 1, 0), (179, 178, 9999, 56, 0, 0), (367, 365, 366, 56, 0, 0), (371, 370, 0, 56, 1, 0), (375, 374, 1, 56, 1, 0), (379, 378, 2, 56, 1, 0), (132, 131, 9999, 54, 0, 0), (523, 521, 522, 54, 3, 0), (527, 526, 10, 54, 1, 0), (540, 539, 13, 54, 2, 0), (531, 530, 11, 54, 1, 0), (535, 534, 12, 54, 2, 0), (71, 70, 9999, 51, 0, 0), (295, 293, 294, 51, 1, 0), (306, 304, 305, 51, 2, 0), (328, 326, 327, 51, 1, 0), (335, 333, 334, 51, 1, 0), (342, 340, 341, 51, 1, 0), (346, 344, 345, 51, 1, 0), (359, 357, 358, 51, 1, 0), (363, 361, 362, 51, 0, 0), (383, 382, 3, 51, 3, 0), (391, 389, 390, 51, 3, 0), (443, 441, 442, 51, 2, 0), (451, 449, 450, 51, 3, 0), (458, 456, 457, 51, 4, 0), (462, 461, 6, 51, 3, 0), (467, 465, 466, 51, 1, 0), (471, 470, 7, 51, 3, 0), (475, 473, 474, 51, 5, 0), (484, 482, 483, 51, 3, 0), (488, 486, 487, 51, 2, 0), (492, 490, 491, 51, 1, 0), (504, 502, 503, 51, 2, 0), (516, 514, 515, 51, 3, 0), (549, 547, 548, 51, 3, 0), (553, 552, 14, 51, 1, 0), (558, 556, 557, 51, 2, 0), (562, 561, 15, 51, 3, 0), (570, 568, 569, 51, 2, 0), (573, 572, 9999, 51, 2, 1), (577, 575, 576, 51, 3, 0), (582, 580, 581, 51, 1, 0), (586, 584, 585, 51, 2, 0), (590, 588, 589, 51, 1, 0), (603, 601, 602, 51, 2, 0), (607, 605, 606, 51, 0, 0), (611, 609, 610, 51, 2, 0), (618, 616, 617, 51, 0, 0), (627, 625, 626, 51, 0, 0), (631, 629, 630, 51, 1, 0), (635, 633, 634, 51, 3, 0), (646, 644, 645, 51, 3, 0), (658, 656, 657, 51, 2, 0), (662, 660, 661, 51, 5, 0), (298, 297, 9999, 51, 1, 1), (331, 330, 9999, 51, 1, 1), (338, 337, 9999, 51, 1, 1), (394, 393, 9999, 51, 1, 1), (519, 518, 9999, 51, 2, 1), (614, 613, 9999, 51, 1, 1), (433, 432, 9999, 51, 3, 1), (439, 438, 9999, 51, 2, 1), (543, 542, 9999, 51, 3, 1), (674, 673, 9999, 59, 0, 0), (780, 779, 9999, 59, 3, 1), (822, 821, 9999, 59, 2, 1), (788, 787, 16, 59, 1, 0), (799, 798, 9999, 59, 1, 1), (861, 860, 9999, 59, 1, 1), (777, 776, 9999, 59, 1, 1), (903, 902, 32, 59, 2, 0), (907, 906, 33, 59, 1, 0), (815, 814, 18, 59, 0, 0), (819, 818, 19, 59, 1, 0), (811, 810, 17, 59, 0, 0), (826, 825, 20, 59, 0, 0), (774, 772, 773, 59, 1, 0), (784, 782, 783, 59, 2, 0), (792, 790, 791, 59, 1, 0), (796, 794, 795, 59, 1, 0), (803, 801, 802, 59, 1, 0), (807, 805, 806, 59, 1, 0), (830, 828, 829, 59, 1, 0), (846, 845, 23, 59, 0, 0), (850, 849, 24, 59, 1, 0), (842, 841, 22, 59, 1, 0), (838, 837, 21, 59, 1, 0), (834, 832, 833, 59, 0, 0), (875, 874, 27, 59, 4, 0), (880, 879, 28, 59, 1, 0), (888, 887, 30, 59, 2, 0), (884, 883, 29, 59, 4, 0), (895, 894, 9999, 59, 1, 1), (892, 891, 31, 59, 4, 0), (870, 869, 26, 59, 5, 0), (866, 865, 25, 59, 2, 0), (915, 914, 34, 59, 2, 0), (858, 856, 857, 59, 3, 0), (911, 909, 910, 59, 2, 0), (919, 917, 918, 59, 3, 0), (927, 926, 35, 59, 3, 0), (923, 921, 922, 59, 4, 0), (935, 934, 36, 59, 3, 0), (931, 929, 930, 59, 1, 0), (939, 937, 938, 59, 5, 0), (947, 946, 37, 59, 3, 0), (943, 941, 942, 59, 3, 0), (951, 949, 950, 59, 2, 0), (963, 962, 39, 59, 2, 0), (959, 958, 38, 59, 1, 0), (955, 953, 954, 59, 1, 0), (971, 970, 40, 59, 3, 0), (967, 965, 966, 59, 2, 0), (986, 985, 9999, 59, 1, 1), (994, 993, 44, 59, 2, 0), (998, 997, 45, 59, 0, 0), (990, 989, 43, 59, 1, 0), (983, 982, 42, 59, 2, 0), (979, 978, 41, 59, 2, 0), (975, 973, 974, 59, 3, 0), (1016, 1014, 1015, 59, 3, 0), (1044, 1042, 1043, 59, 2, 0), (1052, 1051, 46, 59, 0, 0), (1048, 1046, 1047, 59, 2, 0), (1056, 1054, 1055, 59, 3, 0), (1060, 1058, 1059, 59, 1, 0), (1064, 1062, 1063, 59, 2, 0), (1076, 1075, 48, 59, 2, 0), (1068, 1066, 1067, 59, 1, 0), (1085, 1083, 1084, 59, 2, 0), (1089, 1087, 1088, 59, 0, 0), (1072, 1071, 47, 59, 1, 0), (1081, 1080, 49, 59, 1, 0), (1093, 1091, 1092, 59, 0, 0), (1097, 1095, 1096, 59, 0, 0), (1101, 1099, 1100, 59, 1, 0), (1108, 1107, 9999, 59, 1, 1), (1105, 1103, 1104, 59, 2, 0), (1112, 1110, 1111, 59, 3, 0), (1119, 1118, 9999, 59, 2, 1), (1116, 1114, 1115, 59, 3, 0), (1123, 1121, 1122, 59, 2, 0), (1127, 1125, 1126, 59, 5, 0), (1037, 1036, 9999, 64, 1, 1), (1034, 1033, 9999, 64, 1, 1), (1008, 1007, 9999, 63, 1, 1), (1005, 1004, 9999, 63, 1, 1), (421, 420, 9999, 62, 1, 1), (436, 435, 9999, 60, 1, 1), (1001, 1000, 9999, 60, 2, 1), (898, 897, 9999, 60, 2, 1), (598, 597, 9999, 60, 2, 1), (414, 413, 9999, 60, 2, 1), (642, 641, 9999, 65, 2, 1), (9999, 9999, 9999, 50, 1, 1)]
/-! what the tables say, at its place -/
def zname (y : Nat) : MethodName := znm.getD y ⟨"", "", ""⟩
def zbytes (y : Nat) : ByteArray := zbt.getD y ⟨#[]⟩
def zml (y : Nat) : Nat := zmlT.getD y 0
def zret (y : Nat) : Option FieldType := zrtT.getD y none
def zrm (y : Nat) : Nat × Nat := zrmT.getD y (0, 0)
def zps (y : Nat) : Nat × Nat × Nat × Nat × Nat × Nat := zpsT.getD y (9999, 9999, 9999, 9999, 0, 0)
def zcode (y pc : Nat) : Option (Instr × Nat × zRes) := (zprog.getD y []).lookup pc
def zcls (c : Nat) : vw_C := zcl.getD c ("", zF0, 0)
def zall : List Cond := lw_tbl.filter goodWord
/-- a good word at its place -/
def zw (p : Nat) (w : Cond) : Bool := decide (lw_tbl[p]? = some w) && goodWord w
/-- a word at its place -/
def zwn (p : Nat) (w : Cond) : Bool := decide (lw_tbl[p]? = some w)
theorem zw_in {p : Nat} {w : Cond} (h : zw p w = true) : w ∈ zall := by
  simp only [zw, Bool.and_eq_true, decide_eq_true_eq] at h
  exact List.mem_filter.mpr ⟨List.mem_of_getElem? h.1, h.2⟩
theorem zwn_in {p : Nat} {w : Cond} (h : zwn p w = true) : w ∈ lw_tbl := by
  simp only [zwn, decide_eq_true_eq] at h
  exact List.mem_of_getElem? h
theorem zall_tbl {w : Cond} (h : w ∈ zall) : w ∈ lw_tbl := (List.mem_filter.mp h).1
theorem zall_good {w : Cond} (h : w ∈ zall) : goodWord w = true := (List.mem_filter.mp h).2
def znarg (y : Nat) : Nat := (zps y).2.2.2.2.1
/-- a method's words -/
def zws (y : Nat) : List Cond := .code (zname y) (zbytes y) (zml y) (zret y) :: zall
def zkd : ArrayType → Nat
  | .int => 10 | .long => 11 | .float => 12 | .byte => 13 | .boolean => 14 | _ => 99
def zkp : Nat → Nat
  | 10 => 106 | 11 => 125 | 12 => 152 | 13 => 209 | 14 => 770 | _ => 9999
def zkt : Nat → FieldType
  | 10 => .int | 11 => .long | 12 => .float | 13 => .byte | 14 => .boolean | _ => .object "EstateVessels$Tape"
/-- a native's name, by its number -/
def znat : Nat → MethodName
  | 1000 => arraycopyName
  | 1001 => ⟨"java/lang/Float", "floatToRawIntBits", "(F)I"⟩
  | 1002 => ⟨"java/lang/Double", "doubleToRawLongBits", "(D)J"⟩
  | 1003 => ⟨"java/lang/Double", "longBitsToDouble", "(J)D"⟩
  | 1005 => ⟨"java/lang/Math", "abs", "(D)D"⟩
  | 1006 => ⟨"java/lang/Math", "max", "(DD)D"⟩
  | _ => objectInit
/-- what the tables must say of a callee -/
def zcal (z : Nat) : Bool :=
  zw (zps z).1 (.code (zname z) (zbytes z) (zml z) (zret z)) && zw (zps z).2.2.2.1 (.initialized (zname z).cls) &&
  decide ((zname z).cls ≠ "java/lang/invoke/MethodHandle") && decide ((zname z).cls ≠ "java/lang/invoke/VarHandle") && plainFor (zname z) &&
  decide ((parseMethodDescriptor (zname z).desc).map (fun d => d.parameters.length) = some (znarg z)) &&
  (if (zps z).2.2.2.2.2 = 1 then zw (zps z).2.1 (.static (zname z)) else zw (zps z).2.1 (.instanceMethod (zname z)))
/-- a native's words: native, static, initialized -/
def znp : Nat → Nat × Nat × Nat
  | 1000 => (669, 668, 66) | 1001 => (1011, 1010, 63) | 1002 => (1022, 1021, 64) | _ => (1026, 1025, 64)
def zfl (own : String) (i a b p : Nat) : Bool := zw p (.fieldLink own i ((zcls a).2.1 b).1 ((zcls a).2.1 b).2.1 ((zcls a).2.1 b).2.2.1)
/-- what the code and the tables must say of an instruction -/
def zokI (y : Nat) (e : Nat × Instr × Nat × zRes) : Bool :=
  decide (decode (zbytes y) e.1 = .ok (e.2.1, e.2.2.1)) &&
  (match e with
  | (pc, I, n, (a, b, p, v)) =>
    match I with
    | .bipush k => decide (-128 ≤ k ∧ k < 128 ∧ n = 2)
    | .sipush k => decide (-32768 ≤ k ∧ k < 32768 ∧ n = 3)
    | .ldc i => decide (n = 2) && (if a = 0 then zw p (.constant (zname y).cls i (Int32.ofInt v)) else zw p (.constantFloat (zname y).cls i (UInt32.ofNat v.toNat)))
    | .ldc_w i => decide (n = 3) && zw p (.constant (zname y).cls i (Int32.ofInt v))
    | .ldc2_w i => decide (n = 3) && (if a = 0 then zw p (.constantLong (zname y).cls i (Int64.ofInt v)) else zw p (.constantDouble (zname y).cls i (UInt64.ofNat v.toNat)))
    | .ifCond _ o => decide ((pc : Int) + o = (a : Int) ∧ n = 3)
    | .if_icmp _ o => decide ((pc : Int) + o = (a : Int) ∧ n = 3)
    | .goto o => decide ((pc : Int) + o = (a : Int) ∧ n = 3)
    | .tableswitch d _ _ os => decide (0 ≤ (pc : Int) + d) && os.toList.all (fun o => decide (0 ≤ (pc : Int) + o))
    | .lookupswitch d ps => decide (0 ≤ (pc : Int) + d) && ps.toList.all (fun o => decide (0 ≤ (pc : Int) + o.2)) && (ps.toList.zip (ps.toList.drop 1)).all (fun (a, next) => a.1 < next.1)
    | .getfield i => decide (a < 9 ∧ b < (zcls a).2.2 ∧ n = 3) && zfl (zname y).cls i a b p
    | .putfield i => decide (a < 9 ∧ b < (zcls a).2.2 ∧ n = 3) && zfl (zname y).cls i a b p && (!((zcls a).2.1 b).2.2.2 || decide ((zname y).name = "<init>" ∧ ((zcls a).2.1 b).1 = (zname y).cls))
    | .getstatic i => decide (n = 3) && (if a = 0 then zw p (.fieldLink (zname y).cls i "EstateVessels$Group" "ORDERS" "[I") else zw p (.fieldLink (zname y).cls i "java/lang/Math" "negativeZeroDoubleBits" "J"))
    | .new i => decide (a < 9 ∧ n = 3) && zw p (.classLink (zname y).cls i (zcls a).1) && zw (zcp.getD a (0, 0)).1 (.instantiable (zcls a).1 (zcls a).2.2) && zw (zcp.getD a (0, 0)).2 (.initialized (zcls a).1)
    | .newarray t => decide (n = 2) && zw (zkp (zkd t)) (.arrayClass (zkt (zkd t)))
    | .anewarray i => decide (a = 4 ∧ n = 3) && zw p (.classLink (zname y).cls i (zcls a).1)
    | .invokevirtual i => decide (n = 3 ∧ a < 184 ∧ b = 0 ∧ (zrm a).1 + 1 ≤ (zrm y).1 ∧ 8 + (zml a + 11) + (zrm a).2 ≤ (zrm y).2) && zw p (.methodLink (zname y).cls i (zname a)) && zw (zps a).2.2.1 (.selects (zname a).cls (zname a) (zname a)) && decide ((zps a).2.2.2.2.2 = 0)
    | .invokespecial i => if a = 1004 then decide (n = 3 ∧ 1 ≤ (zrm y).1 ∧ 40 ≤ (zrm y).2) && zw p (.methodLink (zname y).cls i objectInit)
        else decide (n = 3 ∧ a < 184 ∧ (zrm a).1 + 1 ≤ (zrm y).1 ∧ 8 + (zml a + 11) + (zrm a).2 ≤ (zrm y).2) && decide ((zname a).name = "<init>" ∧ zret a = none ∧ (zps a).2.2.2.2.2 = 0) && (if b = 0 then zw p (.methodLink (zname y).cls i (zname a)) else zwn p (.methodLinkNest (zname y).cls i (zname a) "EstateVessels"))
    | .invokestatic i => if 1000 ≤ a then decide (n = 3 ∧ a ≤ 1006 ∧ a ≠ 1004 ∧ 1 ≤ (zrm y).1 ∧ 40 ≤ (zrm y).2) && zw p (.methodLink (zname y).cls i (znat a))
        else decide (n = 3 ∧ a < 184 ∧ (zrm a).1 + 1 ≤ (zrm y).1 ∧ 8 + (zml a + 11) + (zrm a).2 ≤ (zrm y).2) && decide ((zps a).2.2.2.2.2 = 1) && (if b = 0 then zw p (.methodLink (zname y).cls i (zname a)) else zwn p (.methodLinkNest (zname y).cls i (zname a) "EstateVessels"))
    | .ireturn => if a = 0 then decide (n = 1 ∧ zret y = some .int) else decide (n = 1 ∧ zret y = some .boolean)
    | .lreturn => decide (n = 1 ∧ zret y = some .long)
    | .freturn => decide (n = 1 ∧ zret y = some .float)
    | .dreturn => decide (n = 1 ∧ zret y = some .double)
    | .return_ => decide (n = 1 ∧ zret y = none)
    | .iinc _ _ => decide (n = 3)
    | .iload _ => decide (n = 2) | .lload _ => decide (n = 2) | .fload _ => decide (n = 2) | .dload _ => decide (n = 2) | .aload _ => decide (n = 2)
    | .istore _ => decide (n = 2) | .lstore _ => decide (n = 2) | .fstore _ => decide (n = 2) | .dstore _ => decide (n = 2) | .astore _ => decide (n = 2)
    | _ => decide (n = 1))
def zokM (y : Nat) : Bool := (zprog.getD y []).all (zokI y)
end
section
theorem zk_get {f : Nat → Bool} {lo n z : Nat} (h : (List.range n).all (fun j => f (lo + j)) = true) (h1 : lo ≤ z) (h2 : z < lo + n) : f z = true := by
  have e := List.all_eq_true.mp h (z - lo) (List.mem_range.mpr (by omega))
  rwa [show lo + (z - lo) = z by omega] at e
def zokP (y lo n : Nat) : Bool := (((zprog.getD y []).drop lo).take n).all (zokI y)
theorem zokP_add {y lo n k : Nat} (h1 : zokP y lo n = true) (h2 : zokP y (lo + n) k = true) : zokP y lo (n + k) = true := by
  unfold zokP at *
  rw [List.take_add, List.all_append, List.drop_drop, h1, h2]
  rfl
theorem zk_0 : (List.range 23).all (fun j => zcal (0 + j)) = true := by decide +kernel
theorem zk_23 : (List.range 23).all (fun j => zcal (23 + j)) = true := by decide +kernel
theorem zk_46 : (List.range 23).all (fun j => zcal (46 + j)) = true := by decide +kernel
theorem zk_69 : (List.range 23).all (fun j => zcal (69 + j)) = true := by decide +kernel
theorem zk_92 : (List.range 23).all (fun j => zcal (92 + j)) = true := by decide +kernel
theorem zk_115 : (List.range 23).all (fun j => zcal (115 + j)) = true := by decide +kernel
theorem zk_138 : (List.range 23).all (fun j => zcal (138 + j)) = true := by decide +kernel
theorem zk_161 : (List.range 23).all (fun j => zcal (161 + j)) = true := by decide +kernel
theorem zcal_all : ∀ z, z < 184 → zcal z = true := by
  intro z hz
  rcases Nat.lt_or_ge z 23 with h0 | h0
  · exact zk_get zk_0 (by omega) (by omega)
  rcases Nat.lt_or_ge z 46 with h23 | h23
  · exact zk_get zk_23 (by omega) (by omega)
  rcases Nat.lt_or_ge z 69 with h46 | h46
  · exact zk_get zk_46 (by omega) (by omega)
  rcases Nat.lt_or_ge z 92 with h69 | h69
  · exact zk_get zk_69 (by omega) (by omega)
  rcases Nat.lt_or_ge z 115 with h92 | h92
  · exact zk_get zk_92 (by omega) (by omega)
  rcases Nat.lt_or_ge z 138 with h115 | h115
  · exact zk_get zk_115 (by omega) (by omega)
  rcases Nat.lt_or_ge z 161 with h138 | h138
  · exact zk_get zk_138 (by omega) (by omega)
  rcases Nat.lt_or_ge z 184 with h161 | h161
  · exact zk_get zk_161 (by omega) (by omega)
  omega
theorem zl_0 : zokP 184 0 60 = true := by decide +kernel
theorem zl_60 : zokP 184 60 60 = true := by decide +kernel
theorem zl_120 : zokP 184 120 60 = true := by decide +kernel
theorem zl_180 : zokP 184 180 60 = true := by decide +kernel
theorem zl_240 : zokP 184 240 60 = true := by decide +kernel
theorem zl_300 : zokP 184 300 60 = true := by decide +kernel
theorem zl_360 : zokP 184 360 60 = true := by decide +kernel
theorem zl_420 : zokP 184 420 60 = true := by decide +kernel
theorem zl_480 : zokP 184 480 60 = true := by decide +kernel
theorem zl_540 : zokP 184 540 60 = true := by decide +kernel
theorem zl_600 : zokP 184 600 60 = true := by decide +kernel
theorem zl_660 : zokP 184 660 60 = true := by decide +kernel
theorem zl_720 : zokP 184 720 60 = true := by decide +kernel
theorem zl_780 : zokP 184 780 60 = true := by decide +kernel
theorem zl_840 : zokP 184 840 60 = true := by decide +kernel
theorem zl_900 : zokP 184 900 60 = true := by decide +kernel
theorem zl_960 : zokP 184 960 60 = true := by decide +kernel
theorem zm_0 : zokP 184 0 60 = true := zl_0
theorem zm_60 : zokP 184 0 120 = true := zokP_add (n := 60) (k := 60) zm_0 zl_60
theorem zm_120 : zokP 184 0 180 = true := zokP_add (n := 120) (k := 60) zm_60 zl_120
theorem zm_180 : zokP 184 0 240 = true := zokP_add (n := 180) (k := 60) zm_120 zl_180
theorem zm_240 : zokP 184 0 300 = true := zokP_add (n := 240) (k := 60) zm_180 zl_240
theorem zm_300 : zokP 184 0 360 = true := zokP_add (n := 300) (k := 60) zm_240 zl_300
theorem zm_360 : zokP 184 0 420 = true := zokP_add (n := 360) (k := 60) zm_300 zl_360
theorem zm_420 : zokP 184 0 480 = true := zokP_add (n := 420) (k := 60) zm_360 zl_420
theorem zm_480 : zokP 184 0 540 = true := zokP_add (n := 480) (k := 60) zm_420 zl_480
theorem zm_540 : zokP 184 0 600 = true := zokP_add (n := 540) (k := 60) zm_480 zl_540
theorem zm_600 : zokP 184 0 660 = true := zokP_add (n := 600) (k := 60) zm_540 zl_600
theorem zm_660 : zokP 184 0 720 = true := zokP_add (n := 660) (k := 60) zm_600 zl_660
theorem zm_720 : zokP 184 0 780 = true := zokP_add (n := 720) (k := 60) zm_660 zl_720
theorem zm_780 : zokP 184 0 840 = true := zokP_add (n := 780) (k := 60) zm_720 zl_780
theorem zm_840 : zokP 184 0 900 = true := zokP_add (n := 840) (k := 60) zm_780 zl_840
theorem zm_900 : zokP 184 0 960 = true := zokP_add (n := 900) (k := 60) zm_840 zl_900
theorem zm_960 : zokP 184 0 1020 = true := zokP_add (n := 960) (k := 60) zm_900 zl_960
set_option maxRecDepth 100000 in
theorem zo_184 : zokM 184 = true := by
  have h : zokP 184 0 1020 = true := zm_960
  unfold zokP at h
  rw [List.drop_zero, List.take_of_length_le (by decide +kernel)] at h
  exact h
end
section
theorem zo_r0 : (List.range 10).all (fun j => zokM (0 + j)) = true := by decide +kernel
theorem zo_r10 : (List.range 10).all (fun j => zokM (10 + j)) = true := by decide +kernel
theorem zo_r20 : (List.range 10).all (fun j => zokM (20 + j)) = true := by decide +kernel
theorem zo_r30 : (List.range 10).all (fun j => zokM (30 + j)) = true := by decide +kernel
theorem zo_r40 : (List.range 10).all (fun j => zokM (40 + j)) = true := by decide +kernel
theorem zo_r50 : (List.range 10).all (fun j => zokM (50 + j)) = true := by decide +kernel
theorem zo_r60 : (List.range 10).all (fun j => zokM (60 + j)) = true := by decide +kernel
theorem zo_r70 : (List.range 10).all (fun j => zokM (70 + j)) = true := by decide +kernel
theorem zo_r80 : (List.range 10).all (fun j => zokM (80 + j)) = true := by decide +kernel
theorem zo_r90 : (List.range 10).all (fun j => zokM (90 + j)) = true := by decide +kernel
theorem zo_r100 : (List.range 10).all (fun j => zokM (100 + j)) = true := by decide +kernel
theorem zo_r110 : (List.range 10).all (fun j => zokM (110 + j)) = true := by decide +kernel
theorem zo_r120 : (List.range 10).all (fun j => zokM (120 + j)) = true := by decide +kernel
theorem zo_r130 : (List.range 10).all (fun j => zokM (130 + j)) = true := by decide +kernel
theorem zo_r140 : (List.range 10).all (fun j => zokM (140 + j)) = true := by decide +kernel
theorem zo_r150 : (List.range 10).all (fun j => zokM (150 + j)) = true := by decide +kernel
theorem zo_r160 : (List.range 10).all (fun j => zokM (160 + j)) = true := by decide +kernel
theorem zo_r170 : (List.range 10).all (fun j => zokM (170 + j)) = true := by decide +kernel
theorem zo_r180 : (List.range 4).all (fun j => zokM (180 + j)) = true := by decide +kernel
theorem zok_all : ∀ y, y < 185 → zokM y = true := by
  intro z hz
  rcases Nat.lt_or_ge z 10 with h0 | h0
  · exact zk_get zo_r0 (by omega) (by omega)
  rcases Nat.lt_or_ge z 20 with h10 | h10
  · exact zk_get zo_r10 (by omega) (by omega)
  rcases Nat.lt_or_ge z 30 with h20 | h20
  · exact zk_get zo_r20 (by omega) (by omega)
  rcases Nat.lt_or_ge z 40 with h30 | h30
  · exact zk_get zo_r30 (by omega) (by omega)
  rcases Nat.lt_or_ge z 50 with h40 | h40
  · exact zk_get zo_r40 (by omega) (by omega)
  rcases Nat.lt_or_ge z 60 with h50 | h50
  · exact zk_get zo_r50 (by omega) (by omega)
  rcases Nat.lt_or_ge z 70 with h60 | h60
  · exact zk_get zo_r60 (by omega) (by omega)
  rcases Nat.lt_or_ge z 80 with h70 | h70
  · exact zk_get zo_r70 (by omega) (by omega)
  rcases Nat.lt_or_ge z 90 with h80 | h80
  · exact zk_get zo_r80 (by omega) (by omega)
  rcases Nat.lt_or_ge z 100 with h90 | h90
  · exact zk_get zo_r90 (by omega) (by omega)
  rcases Nat.lt_or_ge z 110 with h100 | h100
  · exact zk_get zo_r100 (by omega) (by omega)
  rcases Nat.lt_or_ge z 120 with h110 | h110
  · exact zk_get zo_r110 (by omega) (by omega)
  rcases Nat.lt_or_ge z 130 with h120 | h120
  · exact zk_get zo_r120 (by omega) (by omega)
  rcases Nat.lt_or_ge z 140 with h130 | h130
  · exact zk_get zo_r130 (by omega) (by omega)
  rcases Nat.lt_or_ge z 150 with h140 | h140
  · exact zk_get zo_r140 (by omega) (by omega)
  rcases Nat.lt_or_ge z 160 with h150 | h150
  · exact zk_get zo_r150 (by omega) (by omega)
  rcases Nat.lt_or_ge z 170 with h160 | h160
  · exact zk_get zo_r160 (by omega) (by omega)
  rcases Nat.lt_or_ge z 180 with h170 | h170
  · exact zk_get zo_r170 (by omega) (by omega)
  rcases Nat.lt_or_ge z 184 with h180 | h180
  · exact zk_get zo_r180 (by omega) (by omega)
  have e : z = 184 := by omega
  subst e
  exact zo_184
end
section
/-! THE ABSTRACT MACHINE: whole numbers for ints and longs (their classes modulo 2^32, 2^64), bits for floats and doubles, numbers of cells for references -/
abbrev zAV : Type := Int ⊕ Int ⊕ UInt32 ⊕ UInt64 ⊕ Nat
abbrev zI (x : Int) : zAV := .inl x
abbrev zL (x : Int) : zAV := .inr (.inl x)
abbrev zF (b : UInt32) : zAV := .inr (.inr (.inl b))
abbrev zD (b : UInt64) : zAV := .inr (.inr (.inr (.inl b)))
abbrev zR (k : Nat) : zAV := .inr (.inr (.inr (.inr k)))
/-- cells: what they are ((class, 0), (10 + sort, length)), the references in them, the numbers in them -/
abbrev zMem : Type := Nat → Nat → Int
abbrev zM : Type := List (Nat × Nat) × List (List (Option Nat)) × zMem
abbrev zLs : Type := List (Option zAV)
def zin32 (x : Int) : Prop := -2147483648 ≤ x ∧ x ≤ 2147483647
def zin64 (x : Int) : Prop := -9223372036854775808 ≤ x ∧ x ≤ 9223372036854775807
def zup (Z : zMem) (k i : Nat) (v : Int) : zMem := fun a b => if a = k then (if b = i then v else Z a b) else Z a b
def zclr (Z : zMem) (k : Nat) : zMem := fun a b => if a = k then 0 else Z a b
def zcpy (Z : zMem) (ks sp kd dp n : Nat) : zMem := fun a b => if a = kd then (if dp ≤ b ∧ b < dp + n then Z ks (sp + (b - dp)) else Z a b) else Z a b
def zrd (R : List (List (Option Nat))) (k i : Nat) : Option Nat := (R.getD k []).getD i none
def zrw (R : List (List (Option Nat))) (k i j : Nat) : List (List (Option Nat)) := R.set k ((R.getD k []).set i (some j))
def zcat : zAV → Nat
  | .inl _ => 1
  | .inr (.inl _) => 2
  | .inr (.inr (.inl _)) => 1
  | .inr (.inr (.inr (.inl _))) => 2
  | .inr (.inr (.inr (.inr _))) => 1
/-- a slot in front of i that a wide value begins is given up -/
def zcut (L : zLs) : Nat → zLs
  | 0 => L
  | j + 1 => match L.getD j none with
    | some (.inr (.inl _)) => L.set j none
    | some (.inr (.inr (.inr (.inl _)))) => L.set j none
    | _ => L
def zset1 (L : zLs) (i : Nat) (v : zAV) : zLs := (zcut L i).set i (some v)
def zset2 (L : zLs) (i : Nat) (v : zAV) : zLs := ((zcut L i).set (i + 1) none).set i (some v)
def zcond (c : ClassFile.Cond) (x y : Int) : Bool := match c with
  | .eq => decide (x = y) | .ne => decide (¬ x = y) | .lt => decide (x < y) | .ge => decide (y ≤ x) | .gt => decide (y < x) | .le => decide (x ≤ y)
def zcmp (x y : Int) : Int := if x < y then -1 else if x = y then 0 else 1
abbrev zOut : Type := Option (Nat × zLs × List zAV × zM)
/-- an instruction that is no call and no return -/
def zstep (I : Instr) (n : Nat) (r : zRes) (pc : Nat) (L : zLs) (st : List zAV) (M : zM) : zOut :=
  let push := fun (v : zAV) => (some (pc + n, L, v :: st, M) : zOut)
  let ildI := fun (i : Nat) => (match L.getD i none with | some (.inl x) => some (pc + n, L, zI x :: st, M) | _ => none : zOut)
  let ildL := fun (i : Nat) => (match L.getD i none with | some (.inr (.inl x)) => some (pc + n, L, zL x :: st, M) | _ => none : zOut)
  let ildF := fun (i : Nat) => (match L.getD i none with | some (.inr (.inr (.inl x))) => some (pc + n, L, zF x :: st, M) | _ => none : zOut)
  let ildD := fun (i : Nat) => (match L.getD i none with | some (.inr (.inr (.inr (.inl x)))) => some (pc + n, L, zD x :: st, M) | _ => none : zOut)
  let ildR := fun (i : Nat) => (match L.getD i none with | some (.inr (.inr (.inr (.inr x)))) => some (pc + n, L, zR x :: st, M) | _ => none : zOut)
  let istI := fun (i : Nat) => (match st with | .inl x :: s => if i < L.length then some (pc + n, zset1 L i (zI x), s, M) else none | _ => none : zOut)
  let istL := fun (i : Nat) => (match st with | .inr (.inl x) :: s => if i + 1 < L.length then some (pc + n, zset2 L i (zL x), s, M) else none | _ => none : zOut)
  let istF := fun (i : Nat) => (match st with | .inr (.inr (.inl x)) :: s => if i < L.length then some (pc + n, zset1 L i (zF x), s, M) else none | _ => none : zOut)
  let istD := fun (i : Nat) => (match st with | .inr (.inr (.inr (.inl x))) :: s => if i + 1 < L.length then some (pc + n, zset2 L i (zD x), s, M) else none | _ => none : zOut)
  let istR := fun (i : Nat) => (match st with | .inr (.inr (.inr (.inr x))) :: s => if i < L.length then some (pc + n, zset1 L i (zR x), s, M) else none | _ => none : zOut)
  let b2I := fun (f : Int → Int → Int) => (match st with | .inl y :: .inl x :: s => some (pc + n, L, zI (f x y) :: s, M) | _ => none : zOut)
  let b2L := fun (f : Int → Int → Int) => (match st with | .inr (.inl y) :: .inr (.inl x) :: s => some (pc + n, L, zL (f x y) :: s, M) | _ => none : zOut)
  let bsL := fun (f : Int → Int → Int) => (match st with | .inl y :: .inr (.inl x) :: s => some (pc + n, L, zL (f x y) :: s, M) | _ => none : zOut)
  let b2F := fun (f : UInt32 → UInt32 → UInt32) => (match st with | .inr (.inr (.inl y)) :: .inr (.inr (.inl x)) :: s => if f x y &&& 0x7fffffff ≤ 0x7f800000 then some (pc + n, L, zF (f x y) :: s, M) else none | _ => none : zOut)
  let b2D := fun (f : UInt64 → UInt64 → UInt64) => (match st with | .inr (.inr (.inr (.inl y))) :: .inr (.inr (.inr (.inl x))) :: s => if f x y &&& 0x7fffffffffffffff ≤ 0x7ff0000000000000 then some (pc + n, L, zD (f x y) :: s, M) else none | _ => none : zOut)
  match I with
  | .iconst k => push (zI k)
  | .bipush k => push (zI k)
  | .sipush k => push (zI k)
  | .lconst k => push (zL (k : Nat))
  | .fconst k => push (zF (if (k : Nat) = 0 then FP.fconst0 else if (k : Nat) = 1 then FP.fconst1 else FP.fconst2))
  | .dconst k => push (zD (if (k : Nat) = 0 then FP.dconst0 else FP.dconst1))
  | .ldc _ => push (if r.1 = 0 then zI r.2.2.2 else zF (UInt32.ofNat r.2.2.2.toNat))
  | .ldc_w _ => push (zI r.2.2.2)
  | .ldc2_w _ => push (if r.1 = 0 then zL r.2.2.2 else zD (UInt64.ofNat r.2.2.2.toNat))
  | .iload i => ildI i | .iload_n i => ildI i
  | .lload i => ildL i | .lload_n i => ildL i
  | .fload i => ildF i | .fload_n i => ildF i
  | .dload i => ildD i | .dload_n i => ildD i
  | .aload i => ildR i | .aload_n i => ildR i
  | .istore i => istI i | .istore_n i => istI i
  | .lstore i => istL i | .lstore_n i => istL i
  | .fstore i => istF i | .fstore_n i => istF i
  | .dstore i => istD i | .dstore_n i => istD i
  | .astore i => istR i | .astore_n i => istR i
  | .iinc i k => match L.getD i none with
    | some (.inl x) => some (pc + n, zset1 L i (zI (x + k)), st, M)
    | _ => none
  | .iadd => b2I (fun x y => x + y)
  | .isub => b2I (fun x y => x - y)
  | .imul => b2I (fun x y => x * y)
  | .iand => b2I (fun x y => (Int32.ofInt x &&& Int32.ofInt y).toInt)
  | .ior => b2I (fun x y => (Int32.ofInt x ||| Int32.ofInt y).toInt)
  | .ixor => b2I (fun x y => (Int32.ofInt x ^^^ Int32.ofInt y).toInt)
  | .ishl => b2I (fun x y => (Int32.ofInt x <<< (Int32.ofInt y &&& 31)).toInt)
  | .ishr => b2I (fun x y => (Int32.ofInt x >>> (Int32.ofInt y &&& 31)).toInt)
  | .iushr => b2I (fun x y => (((Int32.ofInt x).toUInt32 >>> ((Int32.ofInt y).toUInt32 &&& Int32.toUInt32 31)).toInt32).toInt)
  | .ladd => b2L (fun x y => x + y)
  | .lsub => b2L (fun x y => x - y)
  | .lmul => b2L (fun x y => x * y)
  | .land => b2L (fun x y => (Int64.ofInt x &&& Int64.ofInt y).toInt)
  | .lor => b2L (fun x y => (Int64.ofInt x ||| Int64.ofInt y).toInt)
  | .lshl => bsL (fun x y => (Int64.ofInt x <<< ((Int32.ofInt y).toInt64 &&& 63)).toInt)
  | .lushr => bsL (fun x y => (((Int64.ofInt x).toUInt64 >>> ((Int32.ofInt y).toInt64.toUInt64 &&& Int64.toUInt64 63)).toInt64).toInt)
  | .ldiv => match st with
    | .inr (.inl y) :: .inr (.inl x) :: s => if 0 < y ∧ y ≤ 9223372036854775807 ∧ -9223372036854775808 ≤ x ∧ x ≤ 9223372036854775807 then some (pc + n, L, zL (x.tdiv y) :: s, M) else none
    | _ => none
  | .lrem => match st with
    | .inr (.inl y) :: .inr (.inl x) :: s => if 0 < y ∧ y ≤ 9223372036854775807 ∧ -9223372036854775808 ≤ x ∧ x ≤ 9223372036854775807 then some (pc + n, L, zL (x.tmod y) :: s, M) else none
    | _ => none
  | .lneg => match st with
    | .inr (.inl x) :: s => some (pc + n, L, zL (-x) :: s, M)
    | _ => none
  | .i2l => match st with
    | .inl x :: s => if -2147483648 ≤ x ∧ x ≤ 2147483647 then some (pc + n, L, zL x :: s, M) else none
    | _ => none
  | .l2i => match st with
    | .inr (.inl x) :: s => some (pc + n, L, zI x :: s, M)
    | _ => none
  | .i2b => match st with
    | .inl x :: s => some (pc + n, L, zI ((Int32.ofInt x).toInt8.toInt) :: s, M)
    | _ => none
  | .i2s => match st with
    | .inl x :: s => some (pc + n, L, zI ((Int32.ofInt x).toInt16.toInt) :: s, M)
    | _ => none
  | .i2f => match st with
    | .inl x :: s => some (pc + n, L, zF (FP.i2f (Int32.ofInt x)) :: s, M)
    | _ => none
  | .l2d => match st with
    | .inr (.inl x) :: s => some (pc + n, L, zD (FP.l2d (Int64.ofInt x)) :: s, M)
    | _ => none
  | .d2l => match st with
    | .inr (.inr (.inr (.inl x))) :: s => some (pc + n, L, zL (FP.d2l x).toInt :: s, M)
    | _ => none
  | .f2d => match st with
    | .inr (.inr (.inl x)) :: s => if FP.f2d x &&& 0x7fffffffffffffff ≤ 0x7ff0000000000000 then some (pc + n, L, zD (FP.f2d x) :: s, M) else none
    | _ => none
  | .dneg => match st with
    | .inr (.inr (.inr (.inl x))) :: s => some (pc + n, L, zD (FP.dneg x) :: s, M)
    | _ => none
  | .fadd => b2F FP.fadd | .fsub => b2F FP.fsub | .fmul => b2F FP.fmul | .fdiv => b2F FP.fdiv
  | .dadd => b2D FP.dadd | .dsub => b2D FP.dsub | .dmul => b2D FP.dmul | .ddiv => b2D FP.ddiv
  | .fcmp op => match st with
    | .inr (.inr (.inl y)) :: .inr (.inr (.inl x)) :: s => some (pc + n, L, zI (Op.cmpValue (FP.fcmp x y) op).toInt :: s, M)
    | _ => none
  | .dcmp op => match st with
    | .inr (.inr (.inr (.inl y))) :: .inr (.inr (.inr (.inl x))) :: s => some (pc + n, L, zI (Op.cmpValue (FP.dcmp x y) op).toInt :: s, M)
    | _ => none
  | .lcmp => match st with
    | .inr (.inl y) :: .inr (.inl x) :: s => if (-9223372036854775808 ≤ x ∧ x ≤ 9223372036854775807) ∧ -9223372036854775808 ≤ y ∧ y ≤ 9223372036854775807 then some (pc + n, L, zI (zcmp x y) :: s, M) else none
    | _ => none
  | .dup => match st with
    | v :: s => if zcat v = 1 then some (pc + n, L, v :: v :: s, M) else none
    | _ => none
  | .pop => match st with
    | v :: s => if zcat v = 1 then some (pc + n, L, s, M) else none
    | _ => none
  | .goto _ => some (r.1, L, st, M)
  | .ifCond c _ => match st with
    | .inl x :: s => if -2147483648 ≤ x ∧ x ≤ 2147483647 then some (if zcond c x 0 = true then r.1 else pc + n, L, s, M) else none
    | _ => none
  | .if_icmp c _ => match st with
    | .inl y :: .inl x :: s => if (-2147483648 ≤ x ∧ x ≤ 2147483647) ∧ -2147483648 ≤ y ∧ y ≤ 2147483647 then some (if zcond c x y = true then r.1 else pc + n, L, s, M) else none
    | _ => none
  | .tableswitch d lo hi os => match st with
    | .inl x :: s => if -2147483648 ≤ x ∧ x ≤ 2147483647 then (if x < lo ∨ hi < x then some (((pc : Int) + d).toNat, L, s, M) else match os[(x - lo).toNat]? with
        | some o => some (((pc : Int) + o).toNat, L, s, M)
        | none => none) else none
    | _ => none
  | .lookupswitch d ps => match st with
    | .inl x :: s => if -2147483648 ≤ x ∧ x ≤ 2147483647 then some (((pc : Int) + Op.lookupswitch.offset ps.toList d x).toNat, L, s, M) else none
    | _ => none
  | .getfield _ => match st with
    | .inr (.inr (.inr (.inr k))) :: s => if M.1[k]? = some (r.1, 0) then (match (zfk.getD r.1 []).getD r.2.1 9 with
        | 0 => some (pc + n, L, zI (M.2.2 k r.2.1) :: s, M)
        | 4 => some (pc + n, L, zI (M.2.2 k r.2.1) :: s, M)
        | 1 => some (pc + n, L, zL (M.2.2 k r.2.1) :: s, M)
        | 2 => some (pc + n, L, zF (UInt32.ofNat (M.2.2 k r.2.1).toNat) :: s, M)
        | 5 => match zrd M.2.1 k r.2.1 with
          | some j => some (pc + n, L, zR j :: s, M)
          | none => none
        | _ => none) else none
    | _ => none
  | .putfield _ => match st with
    | v :: .inr (.inr (.inr (.inr k))) :: s => if M.1[k]? = some (r.1, 0) then (match (zfk.getD r.1 []).getD r.2.1 9, v with
        | 0, .inl x => some (pc + n, L, s, M.1, M.2.1, zup M.2.2 k r.2.1 x)
        | 4, .inl x => if x = 0 ∨ x = 1 then some (pc + n, L, s, M.1, M.2.1, zup M.2.2 k r.2.1 x) else none
        | 1, .inr (.inl x) => some (pc + n, L, s, M.1, M.2.1, zup M.2.2 k r.2.1 x)
        | 2, .inr (.inr (.inl x)) => some (pc + n, L, s, M.1, M.2.1, zup M.2.2 k r.2.1 x.toNat)
        | 5, .inr (.inr (.inr (.inr j))) => if r.2.1 < (M.2.1.getD k []).length then some (pc + n, L, s, M.1, zrw M.2.1 k r.2.1 j, M.2.2) else none
        | _, _ => none) else none
    | _ => none
  | .getstatic _ => push (if r.1 = 0 then zR 1000 else zL (-9223372036854775808))
  | .iaload => match st with
    | .inl i :: .inr (.inr (.inr (.inr k))) :: s => if k = 1000 then (if 0 ≤ i ∧ i < 7 then some (pc + n, L, zI (([1, 1, 2, 6, 24, 120, 720] : List Int).getD i.toNat 0) :: s, M) else none)
        else if k = 1001 then (if 0 ≤ i ∧ i < M.2.2 1002 0 ∧ i < 2147483648 then some (pc + n, L, zI (M.2.2 1001 i.toNat) :: s, M) else none)
        else match M.1[k]? with
          | some (10, m) => if 0 ≤ i ∧ i < (m : Int) ∧ i < 2147483648 then some (pc + n, L, zI (M.2.2 k i.toNat) :: s, M) else none
          | _ => none
    | _ => none
  | .baload => match st with
    | .inl i :: .inr (.inr (.inr (.inr k))) :: s => match M.1[k]? with
      | some (13, m) => if 0 ≤ i ∧ i < (m : Int) ∧ i < 2147483648 then some (pc + n, L, zI (M.2.2 k i.toNat) :: s, M) else none
      | some (14, m) => if 0 ≤ i ∧ i < (m : Int) ∧ i < 2147483648 then some (pc + n, L, zI (M.2.2 k i.toNat) :: s, M) else none
      | _ => none
    | _ => none
  | .laload => match st with
    | .inl i :: .inr (.inr (.inr (.inr k))) :: s => match M.1[k]? with
      | some (11, m) => if 0 ≤ i ∧ i < (m : Int) ∧ i < 2147483648 then some (pc + n, L, zL (M.2.2 k i.toNat) :: s, M) else none
      | _ => none
    | _ => none
  | .faload => match st with
    | .inl i :: .inr (.inr (.inr (.inr k))) :: s => match M.1[k]? with
      | some (12, m) => if 0 ≤ i ∧ i < (m : Int) ∧ i < 2147483648 then some (pc + n, L, zF (UInt32.ofNat (M.2.2 k i.toNat).toNat) :: s, M) else none
      | _ => none
    | _ => none
  | .aaload => match st with
    | .inl i :: .inr (.inr (.inr (.inr k))) :: s => match M.1[k]? with
      | some (15, m) => if 0 ≤ i ∧ i < (m : Int) ∧ i < 2147483648 then (match zrd M.2.1 k i.toNat with
          | some j => some (pc + n, L, zR j :: s, M)
          | none => none) else none
      | _ => none
    | _ => none
  | .iastore => match st with
    | .inl x :: .inl i :: .inr (.inr (.inr (.inr k))) :: s => match M.1[k]? with
      | some (10, m) => if 0 ≤ i ∧ i < (m : Int) ∧ i < 2147483648 then some (pc + n, L, s, M.1, M.2.1, zup M.2.2 k i.toNat x) else none
      | _ => none
    | _ => none
  | .bastore => match st with
    | .inl x :: .inl i :: .inr (.inr (.inr (.inr k))) :: s => match M.1[k]? with
      | some (13, m) => if (0 ≤ i ∧ i < (m : Int) ∧ i < 2147483648) ∧ -128 ≤ x ∧ x < 128 then some (pc + n, L, s, M.1, M.2.1, zup M.2.2 k i.toNat x) else none
      | some (14, m) => if (0 ≤ i ∧ i < (m : Int) ∧ i < 2147483648) ∧ (x = 0 ∨ x = 1) then some (pc + n, L, s, M.1, M.2.1, zup M.2.2 k i.toNat x) else none
      | _ => none
    | _ => none
  | .lastore => match st with
    | .inr (.inl x) :: .inl i :: .inr (.inr (.inr (.inr k))) :: s => match M.1[k]? with
      | some (11, m) => if 0 ≤ i ∧ i < (m : Int) ∧ i < 2147483648 then some (pc + n, L, s, M.1, M.2.1, zup M.2.2 k i.toNat x) else none
      | _ => none
    | _ => none
  | .fastore => match st with
    | .inr (.inr (.inl x)) :: .inl i :: .inr (.inr (.inr (.inr k))) :: s => match M.1[k]? with
      | some (12, m) => if 0 ≤ i ∧ i < (m : Int) ∧ i < 2147483648 then some (pc + n, L, s, M.1, M.2.1, zup M.2.2 k i.toNat x.toNat) else none
      | _ => none
    | _ => none
  | .aastore => match st with
    | .inr (.inr (.inr (.inr j))) :: .inl i :: .inr (.inr (.inr (.inr k))) :: s => match M.1[k]? with
      | some (15, m) => if (0 ≤ i ∧ i < (m : Int) ∧ i < 2147483648) ∧ M.1[j]? = some (4, 0) ∧ i.toNat < (M.2.1.getD k []).length then some (pc + n, L, s, M.1, zrw M.2.1 k i.toNat j, M.2.2) else none
      | _ => none
    | _ => none
  | .arraylength => match st with
    | .inr (.inr (.inr (.inr k))) :: s => if k = 1001 then some (pc + n, L, zI (M.2.2 1002 0) :: s, M) else match M.1[k]? with
      | some (t, m) => if 10 ≤ t ∧ t ≤ 15 then some (pc + n, L, zI m :: s, M) else none
      | none => none
    | _ => none
  | .new _ => if M.1.length < 900 ∧ M.2.1.length = M.1.length then some (pc + n, L, zR M.1.length :: st, M.1 ++ [(r.1, 0)], M.2.1 ++ [List.replicate (zcls r.1).2.2 none], zclr M.2.2 M.1.length) else none
  | .newarray t => match st with
    | .inl m :: s => if (M.1.length < 900 ∧ M.2.1.length = M.1.length) ∧ 0 ≤ m ∧ m ≤ 1000 then some (pc + n, L, zR M.1.length :: s, M.1 ++ [(zkd t, m.toNat)], M.2.1 ++ [[]], zclr M.2.2 M.1.length) else none
    | _ => none
  | .anewarray _ => match st with
    | .inl m :: s => if (M.1.length < 900 ∧ M.2.1.length = M.1.length) ∧ 0 ≤ m ∧ m ≤ 1000 then some (pc + n, L, zR M.1.length :: s, M.1 ++ [(15, m.toNat)], M.2.1 ++ [List.replicate m.toNat none], zclr M.2.2 M.1.length) else none
    | _ => none
  | .invokespecial _ => if r.1 = 1004 then (match st with
    | .inr (.inr (.inr (.inr _))) :: s => if (s.map zcat).sum ≤ 8 then some (pc + n, L, s, M) else none
    | _ => none) else none
  | .invokestatic _ => if r.1 = 1000 then (match st with
      | .inl m :: .inl dp :: .inr (.inr (.inr (.inr kd))) :: .inl sp :: .inr (.inr (.inr (.inr ks))) :: s => match M.1[ks]?, M.1[kd]? with
        | some (11, a), some (11, b) => if (0 ≤ m ∧ 0 ≤ dp ∧ 0 ≤ sp) ∧ sp + m ≤ (a : Int) ∧ dp + m ≤ (b : Int) ∧ (a : Int) < 2147483648 ∧ (b : Int) < 2147483648 ∧ (s.map zcat).sum ≤ 8 then some (pc + n, L, s, M.1, M.2.1, zcpy M.2.2 ks sp.toNat kd dp.toNat m.toNat) else none
        | _, _ => none
      | _ => none)
    else if r.1 = 1001 then (match st with
      | .inr (.inr (.inl b)) :: s => if (s.map zcat).sum ≤ 8 then some (pc + n, L, zI b.toInt32.toInt :: s, M) else none
      | _ => none)
    else if r.1 = 1002 then (match st with
      | .inr (.inr (.inr (.inl b))) :: s => if (s.map zcat).sum ≤ 8 then some (pc + n, L, zL b.toInt64.toInt :: s, M) else none
      | _ => none)
    else if r.1 = 1003 then (match st with
      | .inr (.inl b) :: s => if (s.map zcat).sum ≤ 8 ∧ vn_snl2d (Int64.ofInt b) = false then some (pc + n, L, zD (Int64.ofInt b).toUInt64 :: s, M) else none
      | _ => none)
    else if r.1 = 1005 then (match st with
      | .inr (.inr (.inr (.inl b))) :: s => if (s.map zcat).sum ≤ 8 ∧ b &&& 0x7fffffffffffffff ≤ 0x7ff0000000000000 then some (pc + n, L, zD (b &&& 0x7fffffffffffffff) :: s, M) else none
      | _ => none)
    else if r.1 = 1006 then (match st with
      | .inr (.inr (.inr (.inl b))) :: .inr (.inr (.inr (.inl a))) :: s => if (s.map zcat).sum ≤ 8 ∧ a &&& 0x7fffffffffffffff ≤ 0x7ff0000000000000 ∧ b &&& 0x7fffffffffffffff ≤ 0x7ff0000000000000 then some (pc + n, L, zD (Native.java_lang_Math.nans.pick64 true a b) :: s, M) else none
      | _ => none)
    else none
  | _ => none
/-- what an instruction does: 0 goes on by itself, 1 leaves, 2 calls -/
def zkind (I : Instr) (r : zRes) : Nat := match I with
  | .ireturn => 1 | .lreturn => 1 | .freturn => 1 | .dreturn => 1 | .return_ => 1
  | .invokevirtual _ => 2
  | .invokespecial _ => if r.1 < 1000 then 2 else 0
  | .invokestatic _ => if r.1 < 1000 then 2 else 0
  | _ => 0
/-- the answer at a leave -/
def zleave (I : Instr) (r : zRes) (st : List zAV) : Option (Option zAV) := match I, st with
  | .ireturn, [.inl x] => if r.1 = 0 ∨ x = 0 ∨ x = 1 then some (some (zI x)) else none
  | .lreturn, [.inr (.inl x)] => some (some (zL x))
  | .freturn, [.inr (.inr (.inl x))] => some (some (zF x))
  | .dreturn, [.inr (.inr (.inr (.inl x)))] => some (some (zD x))
  | .return_, [] => some none
  | _, _ => none
/-- a method's locals at its entry -/
def zsl (vs : List zAV) : zLs := vs.flatMap fun v => if zcat v = 2 then [some v, none] else [some v]
def zent (y : Nat) (vs : List zAV) : zLs := zsl vs ++ List.replicate (zml y - (zsl vs).length) none
/-- how many values a call takes: its arguments, and the receiver -/
def ztake (z : Nat) : Nat := if (zps z).2.2.2.2.2 = 1 then znarg z else znarg z + 1
def zrecv (z : Nat) (M : zM) (vs : List zAV) : Bool := if (zps z).2.2.2.2.2 = 1 then true else match vs with
  | .inr (.inr (.inr (.inr k))) :: _ => match M.1[k]? with
    | some (c, _) => decide (c < 9 ∧ (zcls c).1 = (zname z).cls)
    | none => false
  | _ => false
/-- the run of a method from an instruction on -/
def zrun : Nat → Nat → Nat → zLs → List zAV → zM → Option (Option zAV × zM)
  | 0, _, _, _, _, _ => none
  | f + 1, y, pc, L, st, M => match zcode y pc with
    | none => none
    | some (I, n, r) => match zkind I r with
      | 0 => match zstep I n r pc L st M with
        | some (pc', L', st', M') => zrun f y pc' L' st' M'
        | none => none
      | 1 => match zleave I r st with
        | some v => some (v, M)
        | none => none
      | _ => if ztake r.1 ≤ st.length ∧ ((st.drop (ztake r.1)).map zcat).sum ≤ 8 ∧ (zsl (st.take (ztake r.1)).reverse).length ≤ zml r.1 ∧ zrecv r.1 M (st.take (ztake r.1)).reverse = true then
          (match zrun f r.1 0 (zent r.1 (st.take (ztake r.1)).reverse) [] M with
            | some (v, M') => zrun f y (pc + n) L (v.toList ++ st.drop (ztake r.1)) M'
            | none => none)
        else none
end
section
/-! THE SIMULATION: what the abstract machine does, the machine does -/
def zAD (base t b k : Nat) : Nat := if k = 1000 then t else if k = 1001 then b else base + k
def zC (AD : Nat → Nat) : zAV → Value
  | .inl x => .int (Int32.ofInt x)
  | .inr (.inl x) => .long (Int64.ofInt x)
  | .inr (.inr (.inl x)) => .float x
  | .inr (.inr (.inr (.inl x))) => .double x
  | .inr (.inr (.inr (.inr k))) => .ref (AD k)
theorem zC_cat (AD : Nat → Nat) (v : zAV) : (zC AD v).category = zcat v := by rcases v with x | x | x | x | x <;> rfl
theorem zC_sum (AD : Nat → Nat) (st : List zAV) : ((st.map (zC AD)).map fun v => v.category).sum = (st.map zcat).sum := by
  rw [List.map_map]
  congr 1
  exact List.map_congr_left fun v _ => zC_cat AD v
def zlv (AD : Nat → Nat) (L : zLs) : List (Nat × Value) := (List.range L.length).filterMap fun i => (L.getD i none).map fun v => (i, zC AD v)
theorem zlv_mem {AD : Nat → Nat} {L : zLs} {q : Nat × Value} : q ∈ zlv AD L ↔ ∃ v, L.getD q.1 none = some v ∧ q.2 = zC AD v := by
  unfold zlv
  rw [List.mem_filterMap]
  constructor
  · rintro ⟨i, -, h⟩
    obtain ⟨v, h1, h2⟩ := Option.map_eq_some_iff.mp h
    subst h2
    exact ⟨v, h1, rfl⟩
  · rintro ⟨v, h1, h2⟩
    refine ⟨q.1, List.mem_range.mpr ?_, ?_⟩
    · rcases Nat.lt_or_ge q.1 L.length with h | h
      · exact h
      · rw [List.getD_eq_getElem?_getD, List.getElem?_eq_none h] at h1
        cases h1
    · rw [h1, Option.map_some, ← h2]
theorem zlv_at {AD : Nat → Nat} {L : zLs} {ls : Array Slot} {n i : Nat} {v : zAV} (h : lv_has ls n (zlv AD L)) (hv : L.getD i none = some v) : ls[i]? = some (.val (zC AD v)) :=
  h.2.2 (i, zC AD v) (zlv_mem.mpr ⟨v, hv, rfl⟩)
theorem zcut_succ (L : zLs) (j : Nat) : zcut L (j + 1) = (match L.getD j none with
    | some (.inr (.inl _)) => L.set j none
    | some (.inr (.inr (.inr (.inl _)))) => L.set j none
    | _ => L) := rfl
theorem zcut_len (L : zLs) (i : Nat) : (zcut L i).length = L.length := by
  cases i with
  | zero => rfl
  | succ j =>
    rw [zcut_succ]
    split <;> simp
theorem zcut_get {L : zLs} {i j : Nat} {u : zAV} (h : (zcut L i).getD j none = some u) : L.getD j none = some u ∧ ¬ (j + 1 = i ∧ zcat u = 2) := by
  cases i with
  | zero => exact ⟨h, fun q => absurd q.1 (by omega)⟩
  | succ m =>
    rw [zcut_succ] at h
    split at h
    · rename_i x hx
      rw [List.getD_eq_getElem?_getD, List.getElem?_set] at h
      by_cases e : m = j
      · rw [if_pos e] at h
        split at h <;> cases h
      · rw [if_neg e, ← List.getD_eq_getElem?_getD] at h
        exact ⟨h, fun q => e (by omega)⟩
    · rename_i x hx
      rw [List.getD_eq_getElem?_getD, List.getElem?_set] at h
      by_cases e : m = j
      · rw [if_pos e] at h
        split at h <;> cases h
      · rw [if_neg e, ← List.getD_eq_getElem?_getD] at h
        exact ⟨h, fun q => e (by omega)⟩
    · rename_i h1 h2
      refine ⟨h, fun q => ?_⟩
      obtain ⟨q1, q2⟩ := q
      have e : m = j := by omega
      subst e
      rcases u with x | x | x | x | x
      · cases q2
      · exact h1 x h
      · cases q2
      · exact h2 x h
      · cases q2
theorem zset1_len (L : zLs) (i : Nat) (v : zAV) : (zset1 L i v).length = L.length := by
  unfold zset1; rw [List.length_set, zcut_len]
theorem zset2_len (L : zLs) (i : Nat) (v : zAV) : (zset2 L i v).length = L.length := by
  unfold zset2; rw [List.length_set, List.length_set, zcut_len]
theorem zset1_has {AD : Nat → Nat} {L : zLs} {ls : Array Slot} {n i : Nat} {v : zAV} (h : lv_has ls n ((i, zC AD v) :: (zlv AD L).filter (fun q => !(q.1 == i) && !(q.1 + 1 == i && q.2.category == 2)))) : lv_has ls n (zlv AD (zset1 L i v)) := by
  refine ⟨h.1, h.2.1, fun q hq => h.2.2 q ?_⟩
  obtain ⟨u, h1, h2⟩ := zlv_mem.mp hq
  unfold zset1 at h1
  rw [List.getD_eq_getElem?_getD, List.getElem?_set] at h1
  by_cases e : i = q.1
  · rw [if_pos e] at h1
    split at h1
    · have h3 : v = u := by simpa using h1
      subst h3
      rw [← h2, e]
      exact List.mem_cons_self
    · cases h1
  · rw [if_neg e, ← List.getD_eq_getElem?_getD] at h1
    obtain ⟨h3, h4⟩ := zcut_get h1
    refine List.mem_cons_of_mem _ (List.mem_filter.mpr ⟨zlv_mem.mpr ⟨u, h3, h2⟩, ?_⟩)
    rw [h2, zC_cat]
    simp only [Bool.and_eq_true, Bool.not_eq_true', beq_eq_false_iff_ne, ne_eq, Bool.and_eq_false_iff]
    refine ⟨fun q => e q.symm, ?_⟩
    by_cases g : q.1 + 1 = i
    · exact Or.inr fun g2 => h4 ⟨g, g2⟩
    · exact Or.inl g
theorem zset2_has {AD : Nat → Nat} {L : zLs} {ls : Array Slot} {n i : Nat} {v : zAV} (h : lv_has ls n ((i, zC AD v) :: (zlv AD L).filter (fun q => !(q.1 == i) && (!(q.1 == i + 1) && !(q.1 + 1 == i && q.2.category == 2))))) : lv_has ls n (zlv AD (zset2 L i v)) := by
  refine ⟨h.1, h.2.1, fun q hq => h.2.2 q ?_⟩
  obtain ⟨u, h1, h2⟩ := zlv_mem.mp hq
  unfold zset2 at h1
  rw [List.getD_eq_getElem?_getD, List.getElem?_set] at h1
  by_cases e : i = q.1
  · rw [if_pos e] at h1
    split at h1
    · have h3 : v = u := by simpa using h1
      subst h3
      rw [← h2, e]
      exact List.mem_cons_self
    · cases h1
  · rw [if_neg e, List.getElem?_set] at h1
    by_cases e2 : i + 1 = q.1
    · rw [if_pos e2] at h1
      split at h1 <;> cases h1
    · rw [if_neg e2, ← List.getD_eq_getElem?_getD] at h1
      obtain ⟨h3, h4⟩ := zcut_get h1
      refine List.mem_cons_of_mem _ (List.mem_filter.mpr ⟨zlv_mem.mpr ⟨u, h3, h2⟩, ?_⟩)
      rw [h2, zC_cat]
      simp only [Bool.and_eq_true, Bool.not_eq_true', beq_eq_false_iff_ne, ne_eq, Bool.and_eq_false_iff]
      refine ⟨fun q => e q.symm, fun q => e2 q.symm, ?_⟩
      by_cases g : q.1 + 1 = i
      · exact Or.inr fun g2 => h4 ⟨g, g2⟩
      · exact Or.inl g
/-- the words of numbers -/
theorem z32_eq {x y : Int} (hx : -2147483648 ≤ x ∧ x ≤ 2147483647) (hy : -2147483648 ≤ y ∧ y ≤ 2147483647) : Int32.ofInt x = Int32.ofInt y ↔ x = y := by
  constructor
  · intro h
    have e := congrArg Int32.toInt h
    rwa [Int32.toInt_ofInt_of_le (by omega) (by omega), Int32.toInt_ofInt_of_le (by omega) (by omega)] at e
  · rintro rfl; rfl
theorem z32_lt {x y : Int} (hx : -2147483648 ≤ x ∧ x ≤ 2147483647) (hy : -2147483648 ≤ y ∧ y ≤ 2147483647) : Int32.ofInt x < Int32.ofInt y ↔ x < y := by
  rw [Int32.lt_iff_toInt_lt, Int32.toInt_ofInt_of_le (by omega) (by omega), Int32.toInt_ofInt_of_le (by omega) (by omega)]
theorem z32_le {x y : Int} (hx : -2147483648 ≤ x ∧ x ≤ 2147483647) (hy : -2147483648 ≤ y ∧ y ≤ 2147483647) : Int32.ofInt x ≤ Int32.ofInt y ↔ x ≤ y := by
  rw [Int32.le_iff_toInt_le, Int32.toInt_ofInt_of_le (by omega) (by omega), Int32.toInt_ofInt_of_le (by omega) (by omega)]
theorem z32_0 : (0 : Int32) = Int32.ofInt 0 := by decide
theorem z32_in {i : Int} {n : Nat} (h : 0 ≤ i ∧ i < (n : Int) ∧ i < 2147483648) : vp_in (Int32.ofInt i) n ∧ (Int32.ofInt i).toNatClampNeg = i.toNat := by
  have e : (Int32.ofInt i).toNatClampNeg = i.toNat := Int32.toNatClampNeg_ofInt_of_le (by omega) (by omega)
  refine ⟨?_, e⟩
  unfold vp_in
  rw [e, z32_0, z32_lt (by omega) (by omega)]
  omega
theorem z64_cmp {x y : Int} (hx : -9223372036854775808 ≤ x ∧ x ≤ 9223372036854775807) (hy : -9223372036854775808 ≤ y ∧ y ≤ 9223372036854775807) : lg_cmp (Int64.ofInt x) (Int64.ofInt y) = Int32.ofInt (zcmp x y) := by
  have h1 : (Int64.ofInt x > Int64.ofInt y) ↔ y < x := by
    rw [gt_iff_lt, Int64.lt_iff_toInt_lt, Int64.toInt_ofInt_of_le (by omega) (by omega), Int64.toInt_ofInt_of_le (by omega) (by omega)]
  have h2 : (Int64.ofInt x = Int64.ofInt y) ↔ x = y := by
    rw [← Int64.toInt_inj, Int64.toInt_ofInt_of_le (by omega) (by omega), Int64.toInt_ofInt_of_le (by omega) (by omega)]
  unfold lg_cmp zcmp
  simp only [h1, h2]
  by_cases a : y < x
  · rw [if_pos a, if_neg (by omega), if_neg (by omega)]; decide
  · by_cases b : x = y
    · rw [if_neg a, if_pos b, if_neg (by omega), if_pos b]; decide
    · rw [if_neg a, if_neg b, if_pos (by omega)]; decide
theorem z64_div {x y : Int} (h : 0 < y ∧ y ≤ 9223372036854775807 ∧ -9223372036854775808 ≤ x ∧ x ≤ 9223372036854775807) : ¬ Int64.ofInt y = 0 ∧ Int64.ofInt x / Int64.ofInt y = Int64.ofInt (x.tdiv y) ∧ Int64.ofInt x - Int64.ofInt x / Int64.ofInt y * Int64.ofInt y = Int64.ofInt (x.tmod y) := by
  have hm : Int64.minValue.toInt = -9223372036854775808 := by decide
  have hM : Int64.maxValue.toInt = 9223372036854775807 := by decide
  have e : Int64.ofInt x / Int64.ofInt y = Int64.ofInt (x.tdiv y) := (Int64.ofInt_tdiv (by omega) (by omega) (by omega) (by omega)).symm
  refine ⟨fun q => ?_, e, ?_⟩
  · have q2 := congrArg Int64.toInt q
    rw [Int64.toInt_ofInt_of_le (by omega) (by omega)] at q2
    rw [Int64.toInt_zero] at q2
    omega
  · rw [e, ← Int64.ofInt_mul, ← Int64.ofInt_sub]
    congr 1
    have := Int.mul_tdiv_add_tmod x y
    rw [Int.mul_comm] at this
    omega
/-- the heap of the abstract machine in the machine's -/
def zval (AD : Nat → Nat) (c : Nat) (R : List (List (Option Nat))) (Z : zMem) (k i : Nat) : Value :=
  if c = 1 then .long (Int64.ofInt (Z k i)) else if c = 2 then .float (UInt32.ofNat (Z k i).toNat) else if c = 5 then va_rf ((zrd R k i).map AD) else .int (Int32.ofInt (Z k i))
def zrow (AD : Nat → Nat) (c : Nat) (R : List (List (Option Nat))) (Z : zMem) (k : Nat) : (Nat → Int32) ⊕ (Nat → Int64) ⊕ (Nat → UInt32) ⊕ (Nat → UInt64) ⊕ (Nat → Option Nat) :=
  if c = 11 then .inr (.inl fun i => Int64.ofInt (Z k i)) else if c = 12 then .inr (.inr (.inl fun i => UInt32.ofNat (Z k i).toNat)) else if c = 15 then .inr (.inr (.inr (.inr fun i => (zrd R k i).map AD))) else .inl fun i => Int32.ofInt (Z k i)
def zflds (AD : Nat → Nat) (c : Nat) (R : List (List (Option Nat))) (Z : zMem) (k : Nat) : List Value := (List.range (zcls c).2.2).map (fun i => zval AD ((zfk.getD c []).getD i 9) R Z k i)
def zel (AD : Nat → Nat) (dA : Nat → ClassId) (d : Nat × Nat) (k : Nat) (R : List (List (Option Nat))) (Z : zMem) : va_E :=
  if d.1 < 10 then .inr (d.1, zflds AD d.1 R Z k) else .inl (dA d.1, d.2, zrow AD d.1 R Z k)
def zdsl (d : Nat × Nat) : Nat := if d.1 < 10 then (zcls d.1).2.2 else d.2
def zslots (T : List (Nat × Nat)) : Nat := (T.map zdsl).sum
def zH (base t b : Nat) (D : va_G) (dA : Nat → ClassId) (zx : Nat → Int) (Ln : Nat) (M : zM) (H : Heap) : Prop :=
  H.size = base + M.1.length ∧ M.1.length ≤ 900 ∧ (∀ (k : Nat) (d : Nat × Nat), M.1[k]? = some d → va_at D zcl (base + k, zel (zAD base t b) dA d k M.2.1 M.2.2) H) ∧ (∀ j, M.2.2 1001 j = zx j) ∧ M.2.2 1002 0 = Ln
def zty (dA : Nat → ClassId) : List (ClassId × FieldType) := [(dA 10, .int), (dA 11, .long), (dA 12, .float), (dA 13, .byte), (dA 14, .boolean), (dA 15, .object "EstateVessels$Tape")]
def znest : List Cond := lw_tbl.filter fun w => match w with | .methodLinkNest .. => true | _ => false
def zK (D : va_G) (dA : Nat → ClassId) (U : State) : Prop := va_K D zcl (zty dA) U ∧ (∀ w ∈ znest, va_Nw w U) ∧ va_AO "EstateVessels$Tape" U
def zSt (base t b : Nat) (zx : Nat → Int) (Ln : Nat) (U : State) (H : Heap) : Prop :=
  va_Z "EstateVessels$Group" "ORDERS" "[I" (.ref t) (fun q => base ≤ q) U H ∧ va_Z "java/lang/Math" "negativeZeroDoubleBits" "J" (.long (Int64.ofInt (-9223372036854775808))) (fun q => base ≤ q) U H ∧
  va_T .int t 7 (fun j => .int (Int32.ofInt (([1, 1, 2, 6, 24, 120, 720] : List Int).getD j 0))) (fun q => base ≤ q) U H ∧ va_X b Ln (fun j => Int32.ofInt (zx j)) U H ∧ b < base ∧ Ln < 2147483648
section ZSIM
variable {p : Program} {l : Launch} {e : Env} {R : Room} {s : State} {m : MethodId} {args : Array Value} {below : List Frame} {meth : Method} {c : Code} {Q : State → Prop} {base t b : Nat} {D : va_G} {dA : Nat → ClassId} {zx : Nat → Int} {Ln n0 s0 y : Nat} {pc : Nat} {L : zLs} {st : List zAV} {M : zM}
def zCtx (p : Program) (R : Room) (s : State) (m : MethodId) (args : Array Value) (meth : Method) (c : Code) (base t b : Nat) (D : va_G) (dA : Nat → ClassId) (zx : Nat → Int) (Ln y : Nat) : Prop :=
  p.tables.exec = Jvm.exec ∧ c.code = zbytes y ∧ c.maxLocals = zml y ∧ s.vm.findClass (zname y).cls = some m.cls ∧ (∀ w ∈ zall, w.before args s = true) ∧ zK D dA s ∧ zSt base t b zx Ln s s.heap ∧ ((zname y).name = "<init>" → meth.name = "<init>") ∧ (zrm y).1 ≤ R.frames ∧ (zrm y).2 ≤ R.locals ∧ base ≤ s.heap.size
def zGo (p : Program) (l : Launch) (e : Env) (R : Room) (s : State) (m : MethodId) (args : Array Value) (below : List Frame) (meth : Method) (c : Code) (Q : State → Prop) (base t b : Nat) (D : va_G) (dA : Nat → ClassId) (zx : Nat → Int) (Ln n0 s0 y : Nat) (pc : Nat) (L : zLs) (st : List zAV) (M : zM) : Prop :=
  ∀ (H : Heap) (locs : List Loc) (ls : Array Slot), zH base t b D dA zx Ln M H → va_S (fun q => base ≤ q) s.heap H locs → lv_has ls (zml y) (zlv (zAD base t b) L) → L.length = zml y → n0 ≤ M.1.length → s0 ≤ zslots M.1 →
    W p l e R s m args below meth c H locs (M.1.length - n0) (zslots M.1 - s0) Q (F0 m pc ls (st.map (zC (zAD base t b))))
theorem zs_iconst (C : zCtx p R s m args meth c base t b D dA zx Ln y) {k : Int} (hd : decode (zbytes y) pc = .ok (.iconst k, 1)) (h : zGo p l e R s m args below meth c Q base t b D dA zx Ln n0 s0 y (pc + 1) L (zI k :: st) M) : zGo p l e R s m args below meth c Q base t b D dA zx Ln n0 s0 y pc L st M := by
  intro H locs ls h1 h2 h3 h4 h5 h6
  obtain ⟨hx, hb, hml, hown, hts, hK, hS, hnm, hfr, hlo, hbs⟩ := C
  exact lv_iconst hx hb hd rfl (h H locs ls h1 h2 h3 h4 h5 h6)

theorem zs_bipush (C : zCtx p R s m args meth c base t b D dA zx Ln y) {k : Int} (hk : -128 ≤ k ∧ k < 128) (hd : decode (zbytes y) pc = .ok (.bipush k, 2)) (h : zGo p l e R s m args below meth c Q base t b D dA zx Ln n0 s0 y (pc + 2) L (zI k :: st) M) : zGo p l e R s m args below meth c Q base t b D dA zx Ln n0 s0 y pc L st M := by
  intro H locs ls h1 h2 h3 h4 h5 h6
  obtain ⟨hx, hb, hml, hown, hts, hK, hS, hnm, hfr, hlo, hbs⟩ := C
  refine lv_bipush hx hb hd (v := Int32.ofInt k) ?_ (h H locs ls h1 h2 h3 h4 h5 h6)
  rw [← Int32.ofInt_int8ToInt, Int8.toInt_ofInt_of_le (by omega) (by omega)]

theorem zs_sipush (C : zCtx p R s m args meth c base t b D dA zx Ln y) {k : Int} (hk : -32768 ≤ k ∧ k < 32768) (hd : decode (zbytes y) pc = .ok (.sipush k, 3)) (h : zGo p l e R s m args below meth c Q base t b D dA zx Ln n0 s0 y (pc + 3) L (zI k :: st) M) : zGo p l e R s m args below meth c Q base t b D dA zx Ln n0 s0 y pc L st M := by
  intro H locs ls h1 h2 h3 h4 h5 h6
  obtain ⟨hx, hb, hml, hown, hts, hK, hS, hnm, hfr, hlo, hbs⟩ := C
  refine lv_sipush hx hb hd (v := Int32.ofInt k) ?_ (h H locs ls h1 h2 h3 h4 h5 h6)
  rw [← Int32.ofInt_int16ToInt, Int16.toInt_ofInt_of_le (by omega) (by omega)]

theorem zs_lconst (C : zCtx p R s m args meth c base t b D dA zx Ln y) {k : Fin 2} (hd : decode (zbytes y) pc = .ok (.lconst k, 1)) (h : zGo p l e R s m args below meth c Q base t b D dA zx Ln n0 s0 y (pc + 1) L (zL ((k : Nat) : Int) :: st) M) : zGo p l e R s m args below meth c Q base t b D dA zx Ln n0 s0 y pc L st M := by
  intro H locs ls h1 h2 h3 h4 h5 h6
  obtain ⟨hx, hb, hml, hown, hts, hK, hS, hnm, hfr, hlo, hbs⟩ := C
  refine lv_lconst hx hb hd (v := Int64.ofInt ((k : Nat) : Int)) ?_ (h H locs ls h1 h2 h3 h4 h5 h6)
  exact Int64.ofInt_eq_ofNat.symm

theorem zs_fconst0 (C : zCtx p R s m args meth c base t b D dA zx Ln y)  (hd : decode (zbytes y) pc = .ok (.fconst 0, 1)) (h : zGo p l e R s m args below meth c Q base t b D dA zx Ln n0 s0 y (pc + 1) L (zF FP.fconst0 :: st) M) : zGo p l e R s m args below meth c Q base t b D dA zx Ln n0 s0 y pc L st M := by
  intro H locs ls h1 h2 h3 h4 h5 h6
  obtain ⟨hx, hb, hml, hown, hts, hK, hS, hnm, hfr, hlo, hbs⟩ := C
  exact lv_fconst0 hx hb hd (h H locs ls h1 h2 h3 h4 h5 h6)

theorem zs_fconst1 (C : zCtx p R s m args meth c base t b D dA zx Ln y)  (hd : decode (zbytes y) pc = .ok (.fconst 1, 1)) (h : zGo p l e R s m args below meth c Q base t b D dA zx Ln n0 s0 y (pc + 1) L (zF FP.fconst1 :: st) M) : zGo p l e R s m args below meth c Q base t b D dA zx Ln n0 s0 y pc L st M := by
  intro H locs ls h1 h2 h3 h4 h5 h6
  obtain ⟨hx, hb, hml, hown, hts, hK, hS, hnm, hfr, hlo, hbs⟩ := C
  exact lv_fconst1 hx hb hd (h H locs ls h1 h2 h3 h4 h5 h6)

theorem zs_fconst2 (C : zCtx p R s m args meth c base t b D dA zx Ln y)  (hd : decode (zbytes y) pc = .ok (.fconst 2, 1)) (h : zGo p l e R s m args below meth c Q base t b D dA zx Ln n0 s0 y (pc + 1) L (zF FP.fconst2 :: st) M) : zGo p l e R s m args below meth c Q base t b D dA zx Ln n0 s0 y pc L st M := by
  intro H locs ls h1 h2 h3 h4 h5 h6
  obtain ⟨hx, hb, hml, hown, hts, hK, hS, hnm, hfr, hlo, hbs⟩ := C
  exact lv_fconst2 hx hb hd (h H locs ls h1 h2 h3 h4 h5 h6)

theorem zs_dconst0 (C : zCtx p R s m args meth c base t b D dA zx Ln y)  (hd : decode (zbytes y) pc = .ok (.dconst 0, 1)) (h : zGo p l e R s m args below meth c Q base t b D dA zx Ln n0 s0 y (pc + 1) L (zD FP.dconst0 :: st) M) : zGo p l e R s m args below meth c Q base t b D dA zx Ln n0 s0 y pc L st M := by
  intro H locs ls h1 h2 h3 h4 h5 h6
  obtain ⟨hx, hb, hml, hown, hts, hK, hS, hnm, hfr, hlo, hbs⟩ := C
  exact lv_dconst0 hx hb hd (h H locs ls h1 h2 h3 h4 h5 h6)

theorem zs_dconst1 (C : zCtx p R s m args meth c base t b D dA zx Ln y)  (hd : decode (zbytes y) pc = .ok (.dconst 1, 1)) (h : zGo p l e R s m args below meth c Q base t b D dA zx Ln n0 s0 y (pc + 1) L (zD FP.dconst1 :: st) M) : zGo p l e R s m args below meth c Q base t b D dA zx Ln n0 s0 y pc L st M := by
  intro H locs ls h1 h2 h3 h4 h5 h6
  obtain ⟨hx, hb, hml, hown, hts, hK, hS, hnm, hfr, hlo, hbs⟩ := C
  exact lv_dconst1 hx hb hd (h H locs ls h1 h2 h3 h4 h5 h6)

theorem zs_ldcI (C : zCtx p R s m args meth c base t b D dA zx Ln y) {i : Nat} {v : Int} (hw : Cond.constant (zname y).cls i (Int32.ofInt v) ∈ zall) (hd : decode (zbytes y) pc = .ok (.ldc i, 2)) (h : zGo p l e R s m args below meth c Q base t b D dA zx Ln n0 s0 y (pc + 2) L (zI v :: st) M) : zGo p l e R s m args below meth c Q base t b D dA zx Ln n0 s0 y pc L st M := by
  intro H locs ls h1 h2 h3 h4 h5 h6
  obtain ⟨hx, hb, hml, hown, hts, hK, hS, hnm, hfr, hlo, hbs⟩ := C
  exact lv_ldc hx hb hown (hts _ hw) hd (h H locs ls h1 h2 h3 h4 h5 h6)

theorem zs_ldcF (C : zCtx p R s m args meth c base t b D dA zx Ln y) {i : Nat} {v : UInt32} (hw : Cond.constantFloat (zname y).cls i v ∈ zall) (hd : decode (zbytes y) pc = .ok (.ldc i, 2)) (h : zGo p l e R s m args below meth c Q base t b D dA zx Ln n0 s0 y (pc + 2) L (zF v :: st) M) : zGo p l e R s m args below meth c Q base t b D dA zx Ln n0 s0 y pc L st M := by
  intro H locs ls h1 h2 h3 h4 h5 h6
  obtain ⟨hx, hb, hml, hown, hts, hK, hS, hnm, hfr, hlo, hbs⟩ := C
  exact lv_ldcf hx hb hown (hts _ hw) hd (h H locs ls h1 h2 h3 h4 h5 h6)

theorem zs_ldcW (C : zCtx p R s m args meth c base t b D dA zx Ln y) {i : Nat} {v : Int} (hw : Cond.constant (zname y).cls i (Int32.ofInt v) ∈ zall) (hd : decode (zbytes y) pc = .ok (.ldc_w i, 3)) (h : zGo p l e R s m args below meth c Q base t b D dA zx Ln n0 s0 y (pc + 3) L (zI v :: st) M) : zGo p l e R s m args below meth c Q base t b D dA zx Ln n0 s0 y pc L st M := by
  intro H locs ls h1 h2 h3 h4 h5 h6
  obtain ⟨hx, hb, hml, hown, hts, hK, hS, hnm, hfr, hlo, hbs⟩ := C
  exact lv_ldcw hx hb hown (hts _ hw) hd (h H locs ls h1 h2 h3 h4 h5 h6)

theorem zs_ldc2L (C : zCtx p R s m args meth c base t b D dA zx Ln y) {i : Nat} {v : Int} (hw : Cond.constantLong (zname y).cls i (Int64.ofInt v) ∈ zall) (hd : decode (zbytes y) pc = .ok (.ldc2_w i, 3)) (h : zGo p l e R s m args below meth c Q base t b D dA zx Ln n0 s0 y (pc + 3) L (zL v :: st) M) : zGo p l e R s m args below meth c Q base t b D dA zx Ln n0 s0 y pc L st M := by
  intro H locs ls h1 h2 h3 h4 h5 h6
  obtain ⟨hx, hb, hml, hown, hts, hK, hS, hnm, hfr, hlo, hbs⟩ := C
  exact lv_ldc2 hx hb hown (hts _ hw) hd (h H locs ls h1 h2 h3 h4 h5 h6)

theorem zs_ldc2D (C : zCtx p R s m args meth c base t b D dA zx Ln y) {i : Nat} {v : UInt64} (hw : Cond.constantDouble (zname y).cls i v ∈ zall) (hd : decode (zbytes y) pc = .ok (.ldc2_w i, 3)) (h : zGo p l e R s m args below meth c Q base t b D dA zx Ln n0 s0 y (pc + 3) L (zD v :: st) M) : zGo p l e R s m args below meth c Q base t b D dA zx Ln n0 s0 y pc L st M := by
  intro H locs ls h1 h2 h3 h4 h5 h6
  obtain ⟨hx, hb, hml, hown, hts, hK, hS, hnm, hfr, hlo, hbs⟩ := C
  exact lv_ldc2d hx hb hown (hts _ hw) hd (h H locs ls h1 h2 h3 h4 h5 h6)

theorem zs_iload (C : zCtx p R s m args meth c base t b D dA zx Ln y) {i : Nat} {x : Int} (hl : L.getD i none = some (zI x)) (hd : decode (zbytes y) pc = .ok (.iload i, 2)) (h : zGo p l e R s m args below meth c Q base t b D dA zx Ln n0 s0 y (pc + 2) L (zI x :: st) M) : zGo p l e R s m args below meth c Q base t b D dA zx Ln n0 s0 y pc L st M := by
  intro H locs ls h1 h2 h3 h4 h5 h6
  obtain ⟨hx, hb, hml, hown, hts, hK, hS, hnm, hfr, hlo, hbs⟩ := C
  exact lv_iload hx hb hd (zlv_at h3 hl) (h H locs ls h1 h2 h3 h4 h5 h6)

theorem zs_iload_n (C : zCtx p R s m args meth c base t b D dA zx Ln y) {i : Fin 4} {x : Int} (hl : L.getD i none = some (zI x)) (hd : decode (zbytes y) pc = .ok (.iload_n i, 1)) (h : zGo p l e R s m args below meth c Q base t b D dA zx Ln n0 s0 y (pc + 1) L (zI x :: st) M) : zGo p l e R s m args below meth c Q base t b D dA zx Ln n0 s0 y pc L st M := by
  intro H locs ls h1 h2 h3 h4 h5 h6
  obtain ⟨hx, hb, hml, hown, hts, hK, hS, hnm, hfr, hlo, hbs⟩ := C
  exact lv_iload_n hx hb hd rfl (zlv_at h3 hl) (h H locs ls h1 h2 h3 h4 h5 h6)

theorem zs_istore (C : zCtx p R s m args meth c base t b D dA zx Ln y) {i : Nat} {x : Int} (hi : i < L.length) (hd : decode (zbytes y) pc = .ok (.istore i, 2)) (h : zGo p l e R s m args below meth c Q base t b D dA zx Ln n0 s0 y (pc + 2) (zset1 L i (zI x)) st M) : zGo p l e R s m args below meth c Q base t b D dA zx Ln n0 s0 y pc L (zI x :: st) M := by
  intro H locs ls h1 h2 h3 h4 h5 h6
  obtain ⟨hx, hb, hml, hown, hts, hK, hS, hnm, hfr, hlo, hbs⟩ := C
  exact lv_istore hx hb hd h3 (by omega) rfl (fun ls2 h9 => h H locs ls2 h1 h2 (zset1_has h9) ((zset1_len _ _ _).trans h4) h5 h6)

theorem zs_istore_n (C : zCtx p R s m args meth c base t b D dA zx Ln y) {i : Fin 4} {x : Int} (hi : (i : Nat) < L.length) (hd : decode (zbytes y) pc = .ok (.istore_n i, 1)) (h : zGo p l e R s m args below meth c Q base t b D dA zx Ln n0 s0 y (pc + 1) (zset1 L i (zI x)) st M) : zGo p l e R s m args below meth c Q base t b D dA zx Ln n0 s0 y pc L (zI x :: st) M := by
  intro H locs ls h1 h2 h3 h4 h5 h6
  obtain ⟨hx, hb, hml, hown, hts, hK, hS, hnm, hfr, hlo, hbs⟩ := C
  exact lv_istore_n hx hb hd rfl h3 (by omega) rfl (fun ls2 h9 => h H locs ls2 h1 h2 (zset1_has h9) ((zset1_len _ _ _).trans h4) h5 h6)

theorem zs_lload (C : zCtx p R s m args meth c base t b D dA zx Ln y) {i : Nat} {x : Int} (hl : L.getD i none = some (zL x)) (hd : decode (zbytes y) pc = .ok (.lload i, 2)) (h : zGo p l e R s m args below meth c Q base t b D dA zx Ln n0 s0 y (pc + 2) L (zL x :: st) M) : zGo p l e R s m args below meth c Q base t b D dA zx Ln n0 s0 y pc L st M := by
  intro H locs ls h1 h2 h3 h4 h5 h6
  obtain ⟨hx, hb, hml, hown, hts, hK, hS, hnm, hfr, hlo, hbs⟩ := C
  exact lv_lload hx hb hd (zlv_at h3 hl) (h H locs ls h1 h2 h3 h4 h5 h6)

theorem zs_lload_n (C : zCtx p R s m args meth c base t b D dA zx Ln y) {i : Fin 4} {x : Int} (hl : L.getD i none = some (zL x)) (hd : decode (zbytes y) pc = .ok (.lload_n i, 1)) (h : zGo p l e R s m args below meth c Q base t b D dA zx Ln n0 s0 y (pc + 1) L (zL x :: st) M) : zGo p l e R s m args below meth c Q base t b D dA zx Ln n0 s0 y pc L st M := by
  intro H locs ls h1 h2 h3 h4 h5 h6
  obtain ⟨hx, hb, hml, hown, hts, hK, hS, hnm, hfr, hlo, hbs⟩ := C
  exact lv_lload_n hx hb hd rfl (zlv_at h3 hl) (h H locs ls h1 h2 h3 h4 h5 h6)

theorem zs_lstore (C : zCtx p R s m args meth c base t b D dA zx Ln y) {i : Nat} {x : Int} (hi : i + 1 < L.length) (hd : decode (zbytes y) pc = .ok (.lstore i, 2)) (h : zGo p l e R s m args below meth c Q base t b D dA zx Ln n0 s0 y (pc + 2) (zset2 L i (zL x)) st M) : zGo p l e R s m args below meth c Q base t b D dA zx Ln n0 s0 y pc L (zL x :: st) M := by
  intro H locs ls h1 h2 h3 h4 h5 h6
  obtain ⟨hx, hb, hml, hown, hts, hK, hS, hnm, hfr, hlo, hbs⟩ := C
  exact lv_lstore hx hb hd h3 (by omega) rfl (fun ls2 h9 => h H locs ls2 h1 h2 (zset2_has h9) ((zset2_len _ _ _).trans h4) h5 h6)

theorem zs_lstore_n (C : zCtx p R s m args meth c base t b D dA zx Ln y) {i : Fin 4} {x : Int} (hi : (i : Nat) + 1 < L.length) (hd : decode (zbytes y) pc = .ok (.lstore_n i, 1)) (h : zGo p l e R s m args below meth c Q base t b D dA zx Ln n0 s0 y (pc + 1) (zset2 L i (zL x)) st M) : zGo p l e R s m args below meth c Q base t b D dA zx Ln n0 s0 y pc L (zL x :: st) M := by
  intro H locs ls h1 h2 h3 h4 h5 h6
  obtain ⟨hx, hb, hml, hown, hts, hK, hS, hnm, hfr, hlo, hbs⟩ := C
  exact lv_lstore_n hx hb hd rfl h3 (by omega) rfl (fun ls2 h9 => h H locs ls2 h1 h2 (zset2_has h9) ((zset2_len _ _ _).trans h4) h5 h6)

theorem zs_fload (C : zCtx p R s m args meth c base t b D dA zx Ln y) {i : Nat} {x : UInt32} (hl : L.getD i none = some (zF x)) (hd : decode (zbytes y) pc = .ok (.fload i, 2)) (h : zGo p l e R s m args below meth c Q base t b D dA zx Ln n0 s0 y (pc + 2) L (zF x :: st) M) : zGo p l e R s m args below meth c Q base t b D dA zx Ln n0 s0 y pc L st M := by
  intro H locs ls h1 h2 h3 h4 h5 h6
  obtain ⟨hx, hb, hml, hown, hts, hK, hS, hnm, hfr, hlo, hbs⟩ := C
  exact lv_fload hx hb hd (zlv_at h3 hl) (h H locs ls h1 h2 h3 h4 h5 h6)

theorem zs_fload_n (C : zCtx p R s m args meth c base t b D dA zx Ln y) {i : Fin 4} {x : UInt32} (hl : L.getD i none = some (zF x)) (hd : decode (zbytes y) pc = .ok (.fload_n i, 1)) (h : zGo p l e R s m args below meth c Q base t b D dA zx Ln n0 s0 y (pc + 1) L (zF x :: st) M) : zGo p l e R s m args below meth c Q base t b D dA zx Ln n0 s0 y pc L st M := by
  intro H locs ls h1 h2 h3 h4 h5 h6
  obtain ⟨hx, hb, hml, hown, hts, hK, hS, hnm, hfr, hlo, hbs⟩ := C
  exact lv_fload_n hx hb hd rfl (zlv_at h3 hl) (h H locs ls h1 h2 h3 h4 h5 h6)

theorem zs_fstore (C : zCtx p R s m args meth c base t b D dA zx Ln y) {i : Nat} {x : UInt32} (hi : i < L.length) (hd : decode (zbytes y) pc = .ok (.fstore i, 2)) (h : zGo p l e R s m args below meth c Q base t b D dA zx Ln n0 s0 y (pc + 2) (zset1 L i (zF x)) st M) : zGo p l e R s m args below meth c Q base t b D dA zx Ln n0 s0 y pc L (zF x :: st) M := by
  intro H locs ls h1 h2 h3 h4 h5 h6
  obtain ⟨hx, hb, hml, hown, hts, hK, hS, hnm, hfr, hlo, hbs⟩ := C
  exact lv_fstore hx hb hd h3 (by omega) rfl (fun ls2 h9 => h H locs ls2 h1 h2 (zset1_has h9) ((zset1_len _ _ _).trans h4) h5 h6)

theorem zs_fstore_n (C : zCtx p R s m args meth c base t b D dA zx Ln y) {i : Fin 4} {x : UInt32} (hi : (i : Nat) < L.length) (hd : decode (zbytes y) pc = .ok (.fstore_n i, 1)) (h : zGo p l e R s m args below meth c Q base t b D dA zx Ln n0 s0 y (pc + 1) (zset1 L i (zF x)) st M) : zGo p l e R s m args below meth c Q base t b D dA zx Ln n0 s0 y pc L (zF x :: st) M := by
  intro H locs ls h1 h2 h3 h4 h5 h6
  obtain ⟨hx, hb, hml, hown, hts, hK, hS, hnm, hfr, hlo, hbs⟩ := C
  exact lv_fstore_n hx hb hd rfl h3 (by omega) rfl (fun ls2 h9 => h H locs ls2 h1 h2 (zset1_has h9) ((zset1_len _ _ _).trans h4) h5 h6)

theorem zs_dload (C : zCtx p R s m args meth c base t b D dA zx Ln y) {i : Nat} {x : UInt64} (hl : L.getD i none = some (zD x)) (hd : decode (zbytes y) pc = .ok (.dload i, 2)) (h : zGo p l e R s m args below meth c Q base t b D dA zx Ln n0 s0 y (pc + 2) L (zD x :: st) M) : zGo p l e R s m args below meth c Q base t b D dA zx Ln n0 s0 y pc L st M := by
  intro H locs ls h1 h2 h3 h4 h5 h6
  obtain ⟨hx, hb, hml, hown, hts, hK, hS, hnm, hfr, hlo, hbs⟩ := C
  exact lv_dload hx hb hd (zlv_at h3 hl) (h H locs ls h1 h2 h3 h4 h5 h6)

theorem zs_dload_n (C : zCtx p R s m args meth c base t b D dA zx Ln y) {i : Fin 4} {x : UInt64} (hl : L.getD i none = some (zD x)) (hd : decode (zbytes y) pc = .ok (.dload_n i, 1)) (h : zGo p l e R s m args below meth c Q base t b D dA zx Ln n0 s0 y (pc + 1) L (zD x :: st) M) : zGo p l e R s m args below meth c Q base t b D dA zx Ln n0 s0 y pc L st M := by
  intro H locs ls h1 h2 h3 h4 h5 h6
  obtain ⟨hx, hb, hml, hown, hts, hK, hS, hnm, hfr, hlo, hbs⟩ := C
  exact lv_dload_n hx hb hd rfl (zlv_at h3 hl) (h H locs ls h1 h2 h3 h4 h5 h6)

theorem zs_dstore (C : zCtx p R s m args meth c base t b D dA zx Ln y) {i : Nat} {x : UInt64} (hi : i + 1 < L.length) (hd : decode (zbytes y) pc = .ok (.dstore i, 2)) (h : zGo p l e R s m args below meth c Q base t b D dA zx Ln n0 s0 y (pc + 2) (zset2 L i (zD x)) st M) : zGo p l e R s m args below meth c Q base t b D dA zx Ln n0 s0 y pc L (zD x :: st) M := by
  intro H locs ls h1 h2 h3 h4 h5 h6
  obtain ⟨hx, hb, hml, hown, hts, hK, hS, hnm, hfr, hlo, hbs⟩ := C
  exact lv_dstore hx hb hd h3 (by omega) rfl (fun ls2 h9 => h H locs ls2 h1 h2 (zset2_has h9) ((zset2_len _ _ _).trans h4) h5 h6)

theorem zs_dstore_n (C : zCtx p R s m args meth c base t b D dA zx Ln y) {i : Fin 4} {x : UInt64} (hi : (i : Nat) + 1 < L.length) (hd : decode (zbytes y) pc = .ok (.dstore_n i, 1)) (h : zGo p l e R s m args below meth c Q base t b D dA zx Ln n0 s0 y (pc + 1) (zset2 L i (zD x)) st M) : zGo p l e R s m args below meth c Q base t b D dA zx Ln n0 s0 y pc L (zD x :: st) M := by
  intro H locs ls h1 h2 h3 h4 h5 h6
  obtain ⟨hx, hb, hml, hown, hts, hK, hS, hnm, hfr, hlo, hbs⟩ := C
  exact lv_dstore_n hx hb hd rfl h3 (by omega) rfl (fun ls2 h9 => h H locs ls2 h1 h2 (zset2_has h9) ((zset2_len _ _ _).trans h4) h5 h6)

theorem zs_aload (C : zCtx p R s m args meth c base t b D dA zx Ln y) {i : Nat} {x : Nat} (hl : L.getD i none = some (zR x)) (hd : decode (zbytes y) pc = .ok (.aload i, 2)) (h : zGo p l e R s m args below meth c Q base t b D dA zx Ln n0 s0 y (pc + 2) L (zR x :: st) M) : zGo p l e R s m args below meth c Q base t b D dA zx Ln n0 s0 y pc L st M := by
  intro H locs ls h1 h2 h3 h4 h5 h6
  obtain ⟨hx, hb, hml, hown, hts, hK, hS, hnm, hfr, hlo, hbs⟩ := C
  exact lv_aload hx hb hd (zlv_at h3 hl) (h H locs ls h1 h2 h3 h4 h5 h6)

theorem zs_aload_n (C : zCtx p R s m args meth c base t b D dA zx Ln y) {i : Fin 4} {x : Nat} (hl : L.getD i none = some (zR x)) (hd : decode (zbytes y) pc = .ok (.aload_n i, 1)) (h : zGo p l e R s m args below meth c Q base t b D dA zx Ln n0 s0 y (pc + 1) L (zR x :: st) M) : zGo p l e R s m args below meth c Q base t b D dA zx Ln n0 s0 y pc L st M := by
  intro H locs ls h1 h2 h3 h4 h5 h6
  obtain ⟨hx, hb, hml, hown, hts, hK, hS, hnm, hfr, hlo, hbs⟩ := C
  exact lv_aload_n hx hb hd rfl (zlv_at h3 hl) (h H locs ls h1 h2 h3 h4 h5 h6)

theorem zs_astore (C : zCtx p R s m args meth c base t b D dA zx Ln y) {i : Nat} {x : Nat} (hi : i < L.length) (hd : decode (zbytes y) pc = .ok (.astore i, 2)) (h : zGo p l e R s m args below meth c Q base t b D dA zx Ln n0 s0 y (pc + 2) (zset1 L i (zR x)) st M) : zGo p l e R s m args below meth c Q base t b D dA zx Ln n0 s0 y pc L (zR x :: st) M := by
  intro H locs ls h1 h2 h3 h4 h5 h6
  obtain ⟨hx, hb, hml, hown, hts, hK, hS, hnm, hfr, hlo, hbs⟩ := C
  exact lv_astore hx hb hd h3 (by omega) rfl (fun ls2 h9 => h H locs ls2 h1 h2 (zset1_has h9) ((zset1_len _ _ _).trans h4) h5 h6)

theorem zs_astore_n (C : zCtx p R s m args meth c base t b D dA zx Ln y) {i : Fin 4} {x : Nat} (hi : (i : Nat) < L.length) (hd : decode (zbytes y) pc = .ok (.astore_n i, 1)) (h : zGo p l e R s m args below meth c Q base t b D dA zx Ln n0 s0 y (pc + 1) (zset1 L i (zR x)) st M) : zGo p l e R s m args below meth c Q base t b D dA zx Ln n0 s0 y pc L (zR x :: st) M := by
  intro H locs ls h1 h2 h3 h4 h5 h6
  obtain ⟨hx, hb, hml, hown, hts, hK, hS, hnm, hfr, hlo, hbs⟩ := C
  exact lv_astore_n hx hb hd rfl h3 (by omega) rfl (fun ls2 h9 => h H locs ls2 h1 h2 (zset1_has h9) ((zset1_len _ _ _).trans h4) h5 h6)

theorem zs_iinc (C : zCtx p R s m args meth c base t b D dA zx Ln y) {i : Nat} {k x : Int} (hl : L.getD i none = some (zI x)) (hd : decode (zbytes y) pc = .ok (.iinc i k, 3)) (h : zGo p l e R s m args below meth c Q base t b D dA zx Ln n0 s0 y (pc + 3) (zset1 L i (zI (x + k))) st M) : zGo p l e R s m args below meth c Q base t b D dA zx Ln n0 s0 y pc L st M := by
  intro H locs ls h1 h2 h3 h4 h5 h6
  obtain ⟨hx, hb, hml, hown, hts, hK, hS, hnm, hfr, hlo, hbs⟩ := C
  have hm : (i, zC (zAD base t b) (zI x)) ∈ zlv (zAD base t b) L := zlv_mem.mpr ⟨_, hl, rfl⟩
  obtain ⟨q, hq⟩ := List.getElem?_of_mem hm
  have hi : i < L.length := by
    rcases Nat.lt_or_ge i L.length with g | g
    · exact g
    · rw [List.getD_eq_getElem?_getD, List.getElem?_eq_none g] at hl
      cases hl
  exact lv_iinc (v := Int32.ofInt (x + k)) hx hb hd h3 hq (Int32.ofInt_add x k).symm (by omega) rfl (fun ls2 h9 => h H locs ls2 h1 h2 (zset1_has h9) ((zset1_len _ _ _).trans h4) h5 h6)

theorem zs_iadd (C : zCtx p R s m args meth c base t b D dA zx Ln y) {x w : Int} (hd : decode (zbytes y) pc = .ok (.iadd, 1)) (h : zGo p l e R s m args below meth c Q base t b D dA zx Ln n0 s0 y (pc + 1) L (zI (x + w) :: st) M) : zGo p l e R s m args below meth c Q base t b D dA zx Ln n0 s0 y pc L (zI w :: zI x :: st) M := by
  intro H locs ls h1 h2 h3 h4 h5 h6
  obtain ⟨hx, hb, hml, hown, hts, hK, hS, hnm, hfr, hlo, hbs⟩ := C
  refine lv_iadd hx hb hd ?_
  rw [← Int32.ofInt_add]
  exact h H locs ls h1 h2 h3 h4 h5 h6

theorem zs_isub (C : zCtx p R s m args meth c base t b D dA zx Ln y) {x w : Int} (hd : decode (zbytes y) pc = .ok (.isub, 1)) (h : zGo p l e R s m args below meth c Q base t b D dA zx Ln n0 s0 y (pc + 1) L (zI (x - w) :: st) M) : zGo p l e R s m args below meth c Q base t b D dA zx Ln n0 s0 y pc L (zI w :: zI x :: st) M := by
  intro H locs ls h1 h2 h3 h4 h5 h6
  obtain ⟨hx, hb, hml, hown, hts, hK, hS, hnm, hfr, hlo, hbs⟩ := C
  refine lv_isub hx hb hd ?_
  rw [← Int32.ofInt_sub]
  exact h H locs ls h1 h2 h3 h4 h5 h6

theorem zs_imul (C : zCtx p R s m args meth c base t b D dA zx Ln y) {x w : Int} (hd : decode (zbytes y) pc = .ok (.imul, 1)) (h : zGo p l e R s m args below meth c Q base t b D dA zx Ln n0 s0 y (pc + 1) L (zI (x * w) :: st) M) : zGo p l e R s m args below meth c Q base t b D dA zx Ln n0 s0 y pc L (zI w :: zI x :: st) M := by
  intro H locs ls h1 h2 h3 h4 h5 h6
  obtain ⟨hx, hb, hml, hown, hts, hK, hS, hnm, hfr, hlo, hbs⟩ := C
  refine lv_imul hx hb hd ?_
  rw [← Int32.ofInt_mul]
  exact h H locs ls h1 h2 h3 h4 h5 h6

theorem zs_iand (C : zCtx p R s m args meth c base t b D dA zx Ln y) {x w : Int} (hd : decode (zbytes y) pc = .ok (.iand, 1)) (h : zGo p l e R s m args below meth c Q base t b D dA zx Ln n0 s0 y (pc + 1) L (zI (Int32.ofInt x &&& Int32.ofInt w).toInt :: st) M) : zGo p l e R s m args below meth c Q base t b D dA zx Ln n0 s0 y pc L (zI w :: zI x :: st) M := by
  intro H locs ls h1 h2 h3 h4 h5 h6
  obtain ⟨hx, hb, hml, hown, hts, hK, hS, hnm, hfr, hlo, hbs⟩ := C
  refine lv_iand hx hb hd ?_
  rw [← Int32.ofInt_toInt (Int32.ofInt x &&& Int32.ofInt w)]
  exact h H locs ls h1 h2 h3 h4 h5 h6

theorem zs_ior (C : zCtx p R s m args meth c base t b D dA zx Ln y) {x w : Int} (hd : decode (zbytes y) pc = .ok (.ior, 1)) (h : zGo p l e R s m args below meth c Q base t b D dA zx Ln n0 s0 y (pc + 1) L (zI (Int32.ofInt x ||| Int32.ofInt w).toInt :: st) M) : zGo p l e R s m args below meth c Q base t b D dA zx Ln n0 s0 y pc L (zI w :: zI x :: st) M := by
  intro H locs ls h1 h2 h3 h4 h5 h6
  obtain ⟨hx, hb, hml, hown, hts, hK, hS, hnm, hfr, hlo, hbs⟩ := C
  refine lv_ior hx hb hd ?_
  rw [← Int32.ofInt_toInt (Int32.ofInt x ||| Int32.ofInt w)]
  exact h H locs ls h1 h2 h3 h4 h5 h6

theorem zs_ixor (C : zCtx p R s m args meth c base t b D dA zx Ln y) {x w : Int} (hd : decode (zbytes y) pc = .ok (.ixor, 1)) (h : zGo p l e R s m args below meth c Q base t b D dA zx Ln n0 s0 y (pc + 1) L (zI (Int32.ofInt x ^^^ Int32.ofInt w).toInt :: st) M) : zGo p l e R s m args below meth c Q base t b D dA zx Ln n0 s0 y pc L (zI w :: zI x :: st) M := by
  intro H locs ls h1 h2 h3 h4 h5 h6
  obtain ⟨hx, hb, hml, hown, hts, hK, hS, hnm, hfr, hlo, hbs⟩ := C
  refine lv_ixor hx hb hd ?_
  rw [← Int32.ofInt_toInt (Int32.ofInt x ^^^ Int32.ofInt w)]
  exact h H locs ls h1 h2 h3 h4 h5 h6

theorem zs_ishl (C : zCtx p R s m args meth c base t b D dA zx Ln y) {x w : Int} (hd : decode (zbytes y) pc = .ok (.ishl, 1)) (h : zGo p l e R s m args below meth c Q base t b D dA zx Ln n0 s0 y (pc + 1) L (zI (Int32.ofInt x <<< (Int32.ofInt w &&& 31)).toInt :: st) M) : zGo p l e R s m args below meth c Q base t b D dA zx Ln n0 s0 y pc L (zI w :: zI x :: st) M := by
  intro H locs ls h1 h2 h3 h4 h5 h6
  obtain ⟨hx, hb, hml, hown, hts, hK, hS, hnm, hfr, hlo, hbs⟩ := C
  refine lv_ishl hx hb hd ?_
  rw [← Int32.ofInt_toInt (Int32.ofInt x <<< (Int32.ofInt w &&& 31))]
  exact h H locs ls h1 h2 h3 h4 h5 h6

theorem zs_ishr (C : zCtx p R s m args meth c base t b D dA zx Ln y) {x w : Int} (hd : decode (zbytes y) pc = .ok (.ishr, 1)) (h : zGo p l e R s m args below meth c Q base t b D dA zx Ln n0 s0 y (pc + 1) L (zI (Int32.ofInt x >>> (Int32.ofInt w &&& 31)).toInt :: st) M) : zGo p l e R s m args below meth c Q base t b D dA zx Ln n0 s0 y pc L (zI w :: zI x :: st) M := by
  intro H locs ls h1 h2 h3 h4 h5 h6
  obtain ⟨hx, hb, hml, hown, hts, hK, hS, hnm, hfr, hlo, hbs⟩ := C
  refine lv_ishr hx hb hd ?_
  rw [← Int32.ofInt_toInt (Int32.ofInt x >>> (Int32.ofInt w &&& 31))]
  exact h H locs ls h1 h2 h3 h4 h5 h6

theorem zs_iushr (C : zCtx p R s m args meth c base t b D dA zx Ln y) {x w : Int} (hd : decode (zbytes y) pc = .ok (.iushr, 1)) (h : zGo p l e R s m args below meth c Q base t b D dA zx Ln n0 s0 y (pc + 1) L (zI (((Int32.ofInt x).toUInt32 >>> ((Int32.ofInt w).toUInt32 &&& Int32.toUInt32 31)).toInt32).toInt :: st) M) : zGo p l e R s m args below meth c Q base t b D dA zx Ln n0 s0 y pc L (zI w :: zI x :: st) M := by
  intro H locs ls h1 h2 h3 h4 h5 h6
  obtain ⟨hx, hb, hml, hown, hts, hK, hS, hnm, hfr, hlo, hbs⟩ := C
  exact lv_iushr hx hb hd (v := Int32.ofInt (((Int32.ofInt x).toUInt32 >>> ((Int32.ofInt w).toUInt32 &&& Int32.toUInt32 31)).toInt32).toInt) (Int32.ofInt_toInt _).symm (h H locs ls h1 h2 h3 h4 h5 h6)

theorem zs_ladd (C : zCtx p R s m args meth c base t b D dA zx Ln y) {x w : Int} (hd : decode (zbytes y) pc = .ok (.ladd, 1)) (h : zGo p l e R s m args below meth c Q base t b D dA zx Ln n0 s0 y (pc + 1) L (zL (x + w) :: st) M) : zGo p l e R s m args below meth c Q base t b D dA zx Ln n0 s0 y pc L (zL w :: zL x :: st) M := by
  intro H locs ls h1 h2 h3 h4 h5 h6
  obtain ⟨hx, hb, hml, hown, hts, hK, hS, hnm, hfr, hlo, hbs⟩ := C
  refine lv_ladd hx hb hd ?_
  rw [← Int64.ofInt_add]
  exact h H locs ls h1 h2 h3 h4 h5 h6

theorem zs_lsub (C : zCtx p R s m args meth c base t b D dA zx Ln y) {x w : Int} (hd : decode (zbytes y) pc = .ok (.lsub, 1)) (h : zGo p l e R s m args below meth c Q base t b D dA zx Ln n0 s0 y (pc + 1) L (zL (x - w) :: st) M) : zGo p l e R s m args below meth c Q base t b D dA zx Ln n0 s0 y pc L (zL w :: zL x :: st) M := by
  intro H locs ls h1 h2 h3 h4 h5 h6
  obtain ⟨hx, hb, hml, hown, hts, hK, hS, hnm, hfr, hlo, hbs⟩ := C
  refine lv_lsub hx hb hd ?_
  rw [← Int64.ofInt_sub]
  exact h H locs ls h1 h2 h3 h4 h5 h6

theorem zs_lmul (C : zCtx p R s m args meth c base t b D dA zx Ln y) {x w : Int} (hd : decode (zbytes y) pc = .ok (.lmul, 1)) (h : zGo p l e R s m args below meth c Q base t b D dA zx Ln n0 s0 y (pc + 1) L (zL (x * w) :: st) M) : zGo p l e R s m args below meth c Q base t b D dA zx Ln n0 s0 y pc L (zL w :: zL x :: st) M := by
  intro H locs ls h1 h2 h3 h4 h5 h6
  obtain ⟨hx, hb, hml, hown, hts, hK, hS, hnm, hfr, hlo, hbs⟩ := C
  refine lv_lmul hx hb hd ?_
  rw [← Int64.ofInt_mul]
  exact h H locs ls h1 h2 h3 h4 h5 h6

theorem zs_land (C : zCtx p R s m args meth c base t b D dA zx Ln y) {x w : Int} (hd : decode (zbytes y) pc = .ok (.land, 1)) (h : zGo p l e R s m args below meth c Q base t b D dA zx Ln n0 s0 y (pc + 1) L (zL (Int64.ofInt x &&& Int64.ofInt w).toInt :: st) M) : zGo p l e R s m args below meth c Q base t b D dA zx Ln n0 s0 y pc L (zL w :: zL x :: st) M := by
  intro H locs ls h1 h2 h3 h4 h5 h6
  obtain ⟨hx, hb, hml, hown, hts, hK, hS, hnm, hfr, hlo, hbs⟩ := C
  refine lv_land hx hb hd ?_
  rw [← Int64.ofInt_toInt (Int64.ofInt x &&& Int64.ofInt w)]
  exact h H locs ls h1 h2 h3 h4 h5 h6

theorem zs_lor (C : zCtx p R s m args meth c base t b D dA zx Ln y) {x w : Int} (hd : decode (zbytes y) pc = .ok (.lor, 1)) (h : zGo p l e R s m args below meth c Q base t b D dA zx Ln n0 s0 y (pc + 1) L (zL (Int64.ofInt x ||| Int64.ofInt w).toInt :: st) M) : zGo p l e R s m args below meth c Q base t b D dA zx Ln n0 s0 y pc L (zL w :: zL x :: st) M := by
  intro H locs ls h1 h2 h3 h4 h5 h6
  obtain ⟨hx, hb, hml, hown, hts, hK, hS, hnm, hfr, hlo, hbs⟩ := C
  refine lv_lor hx hb hd ?_
  rw [← Int64.ofInt_toInt (Int64.ofInt x ||| Int64.ofInt w)]
  exact h H locs ls h1 h2 h3 h4 h5 h6

theorem zs_lshl (C : zCtx p R s m args meth c base t b D dA zx Ln y) {x w : Int} (hd : decode (zbytes y) pc = .ok (.lshl, 1)) (h : zGo p l e R s m args below meth c Q base t b D dA zx Ln n0 s0 y (pc + 1) L (zL (Int64.ofInt x <<< ((Int32.ofInt w).toInt64 &&& 63)).toInt :: st) M) : zGo p l e R s m args below meth c Q base t b D dA zx Ln n0 s0 y pc L (zI w :: zL x :: st) M := by
  intro H locs ls h1 h2 h3 h4 h5 h6
  obtain ⟨hx, hb, hml, hown, hts, hK, hS, hnm, hfr, hlo, hbs⟩ := C
  exact lv_lshl hx hb hd (v := Int64.ofInt (Int64.ofInt x <<< ((Int32.ofInt w).toInt64 &&& 63)).toInt) (Int64.ofInt_toInt _).symm (h H locs ls h1 h2 h3 h4 h5 h6)

theorem zs_lushr (C : zCtx p R s m args meth c base t b D dA zx Ln y) {x w : Int} (hd : decode (zbytes y) pc = .ok (.lushr, 1)) (h : zGo p l e R s m args below meth c Q base t b D dA zx Ln n0 s0 y (pc + 1) L (zL (((Int64.ofInt x).toUInt64 >>> ((Int32.ofInt w).toInt64.toUInt64 &&& Int64.toUInt64 63)).toInt64).toInt :: st) M) : zGo p l e R s m args below meth c Q base t b D dA zx Ln n0 s0 y pc L (zI w :: zL x :: st) M := by
  intro H locs ls h1 h2 h3 h4 h5 h6
  obtain ⟨hx, hb, hml, hown, hts, hK, hS, hnm, hfr, hlo, hbs⟩ := C
  exact lv_lushr hx hb hd (v := Int64.ofInt (((Int64.ofInt x).toUInt64 >>> ((Int32.ofInt w).toInt64.toUInt64 &&& Int64.toUInt64 63)).toInt64).toInt) (Int64.ofInt_toInt _).symm (h H locs ls h1 h2 h3 h4 h5 h6)

theorem zs_ldiv (C : zCtx p R s m args meth c base t b D dA zx Ln y) {x w : Int} (hr : 0 < w ∧ w ≤ 9223372036854775807 ∧ -9223372036854775808 ≤ x ∧ x ≤ 9223372036854775807) (hd : decode (zbytes y) pc = .ok (.ldiv, 1)) (h : zGo p l e R s m args below meth c Q base t b D dA zx Ln n0 s0 y (pc + 1) L (zL (x.tdiv w) :: st) M) : zGo p l e R s m args below meth c Q base t b D dA zx Ln n0 s0 y pc L (zL w :: zL x :: st) M := by
  intro H locs ls h1 h2 h3 h4 h5 h6
  obtain ⟨hx, hb, hml, hown, hts, hK, hS, hnm, hfr, hlo, hbs⟩ := C
  obtain ⟨g1, g2, g3⟩ := z64_div hr
  refine lv_ldiv hx hb hd g1 ?_
  rw [g2]
  exact h H locs ls h1 h2 h3 h4 h5 h6

theorem zs_lrem (C : zCtx p R s m args meth c base t b D dA zx Ln y) {x w : Int} (hr : 0 < w ∧ w ≤ 9223372036854775807 ∧ -9223372036854775808 ≤ x ∧ x ≤ 9223372036854775807) (hd : decode (zbytes y) pc = .ok (.lrem, 1)) (h : zGo p l e R s m args below meth c Q base t b D dA zx Ln n0 s0 y (pc + 1) L (zL (x.tmod w) :: st) M) : zGo p l e R s m args below meth c Q base t b D dA zx Ln n0 s0 y pc L (zL w :: zL x :: st) M := by
  intro H locs ls h1 h2 h3 h4 h5 h6
  obtain ⟨hx, hb, hml, hown, hts, hK, hS, hnm, hfr, hlo, hbs⟩ := C
  obtain ⟨g1, g2, g3⟩ := z64_div hr
  refine lv_lrem hx hb hd g1 ?_
  rw [g3]
  exact h H locs ls h1 h2 h3 h4 h5 h6

theorem zs_lneg (C : zCtx p R s m args meth c base t b D dA zx Ln y) {x : Int} (hd : decode (zbytes y) pc = .ok (.lneg, 1)) (h : zGo p l e R s m args below meth c Q base t b D dA zx Ln n0 s0 y (pc + 1) L (zL (-x) :: st) M) : zGo p l e R s m args below meth c Q base t b D dA zx Ln n0 s0 y pc L (zL x :: st) M := by
  intro H locs ls h1 h2 h3 h4 h5 h6
  obtain ⟨hx, hb, hml, hown, hts, hK, hS, hnm, hfr, hlo, hbs⟩ := C
  refine lv_lneg hx hb hd ?_
  rw [← Int64.ofInt_neg]
  exact h H locs ls h1 h2 h3 h4 h5 h6

theorem zs_i2l (C : zCtx p R s m args meth c base t b D dA zx Ln y) {x : Int} (hr : -2147483648 ≤ x ∧ x ≤ 2147483647) (hd : decode (zbytes y) pc = .ok (.i2l, 1)) (h : zGo p l e R s m args below meth c Q base t b D dA zx Ln n0 s0 y (pc + 1) L (zL x :: st) M) : zGo p l e R s m args below meth c Q base t b D dA zx Ln n0 s0 y pc L (zI x :: st) M := by
  intro H locs ls h1 h2 h3 h4 h5 h6
  obtain ⟨hx, hb, hml, hown, hts, hK, hS, hnm, hfr, hlo, hbs⟩ := C
  have hm : Int32.minValue.toInt = -2147483648 := by decide
  have hM : Int32.maxValue.toInt = 2147483647 := by decide
  exact lv_i2l hx hb hd (v := Int64.ofInt x) (Int32.toInt64_ofInt (by omega) (by omega)) (h H locs ls h1 h2 h3 h4 h5 h6)

theorem zs_l2i (C : zCtx p R s m args meth c base t b D dA zx Ln y) {x : Int} (hd : decode (zbytes y) pc = .ok (.l2i, 1)) (h : zGo p l e R s m args below meth c Q base t b D dA zx Ln n0 s0 y (pc + 1) L (zI x :: st) M) : zGo p l e R s m args below meth c Q base t b D dA zx Ln n0 s0 y pc L (zL x :: st) M := by
  intro H locs ls h1 h2 h3 h4 h5 h6
  obtain ⟨hx, hb, hml, hown, hts, hK, hS, hnm, hfr, hlo, hbs⟩ := C
  exact lv_l2i hx hb hd (v := Int32.ofInt x) Int64.toInt32_ofInt (h H locs ls h1 h2 h3 h4 h5 h6)

theorem zs_i2b (C : zCtx p R s m args meth c base t b D dA zx Ln y) {x : Int} (hd : decode (zbytes y) pc = .ok (.i2b, 1)) (h : zGo p l e R s m args below meth c Q base t b D dA zx Ln n0 s0 y (pc + 1) L (zI ((Int32.ofInt x).toInt8.toInt) :: st) M) : zGo p l e R s m args below meth c Q base t b D dA zx Ln n0 s0 y pc L (zI x :: st) M := by
  intro H locs ls h1 h2 h3 h4 h5 h6
  obtain ⟨hx, hb, hml, hown, hts, hK, hS, hnm, hfr, hlo, hbs⟩ := C
  exact lv_i2b hx hb hd (v := Int32.ofInt (Int32.ofInt x).toInt8.toInt) rfl (h H locs ls h1 h2 h3 h4 h5 h6)

theorem zs_i2s (C : zCtx p R s m args meth c base t b D dA zx Ln y) {x : Int} (hd : decode (zbytes y) pc = .ok (.i2s, 1)) (h : zGo p l e R s m args below meth c Q base t b D dA zx Ln n0 s0 y (pc + 1) L (zI ((Int32.ofInt x).toInt16.toInt) :: st) M) : zGo p l e R s m args below meth c Q base t b D dA zx Ln n0 s0 y pc L (zI x :: st) M := by
  intro H locs ls h1 h2 h3 h4 h5 h6
  obtain ⟨hx, hb, hml, hown, hts, hK, hS, hnm, hfr, hlo, hbs⟩ := C
  exact lv_i2s hx hb hd (v := Int32.ofInt (Int32.ofInt x).toInt16.toInt) rfl (h H locs ls h1 h2 h3 h4 h5 h6)

theorem zs_i2f (C : zCtx p R s m args meth c base t b D dA zx Ln y) {x : Int} (hd : decode (zbytes y) pc = .ok (.i2f, 1)) (h : zGo p l e R s m args below meth c Q base t b D dA zx Ln n0 s0 y (pc + 1) L (zF (FP.i2f (Int32.ofInt x)) :: st) M) : zGo p l e R s m args below meth c Q base t b D dA zx Ln n0 s0 y pc L (zI x :: st) M := by
  intro H locs ls h1 h2 h3 h4 h5 h6
  obtain ⟨hx, hb, hml, hown, hts, hK, hS, hnm, hfr, hlo, hbs⟩ := C
  exact lv_i2f hx hb hd (h H locs ls h1 h2 h3 h4 h5 h6)

theorem zs_l2d (C : zCtx p R s m args meth c base t b D dA zx Ln y) {x : Int} (hd : decode (zbytes y) pc = .ok (.l2d, 1)) (h : zGo p l e R s m args below meth c Q base t b D dA zx Ln n0 s0 y (pc + 1) L (zD (FP.l2d (Int64.ofInt x)) :: st) M) : zGo p l e R s m args below meth c Q base t b D dA zx Ln n0 s0 y pc L (zL x :: st) M := by
  intro H locs ls h1 h2 h3 h4 h5 h6
  obtain ⟨hx, hb, hml, hown, hts, hK, hS, hnm, hfr, hlo, hbs⟩ := C
  exact lv_l2d hx hb hd (h H locs ls h1 h2 h3 h4 h5 h6)

theorem zs_d2l (C : zCtx p R s m args meth c base t b D dA zx Ln y) {x : UInt64} (hd : decode (zbytes y) pc = .ok (.d2l, 1)) (h : zGo p l e R s m args below meth c Q base t b D dA zx Ln n0 s0 y (pc + 1) L (zL (FP.d2l x).toInt :: st) M) : zGo p l e R s m args below meth c Q base t b D dA zx Ln n0 s0 y pc L (zD x :: st) M := by
  intro H locs ls h1 h2 h3 h4 h5 h6
  obtain ⟨hx, hb, hml, hown, hts, hK, hS, hnm, hfr, hlo, hbs⟩ := C
  refine lv_d2l hx hb hd ?_
  rw [← Int64.ofInt_toInt (FP.d2l x)]
  exact h H locs ls h1 h2 h3 h4 h5 h6

theorem zs_f2d (C : zCtx p R s m args meth c base t b D dA zx Ln y) {x : UInt32} (hr : FP.f2d x &&& 0x7fffffffffffffff ≤ 0x7ff0000000000000) (hd : decode (zbytes y) pc = .ok (.f2d, 1)) (h : zGo p l e R s m args below meth c Q base t b D dA zx Ln n0 s0 y (pc + 1) L (zD (FP.f2d x) :: st) M) : zGo p l e R s m args below meth c Q base t b D dA zx Ln n0 s0 y pc L (zF x :: st) M := by
  intro H locs ls h1 h2 h3 h4 h5 h6
  obtain ⟨hx, hb, hml, hown, hts, hK, hS, hnm, hfr, hlo, hbs⟩ := C
  exact lv_f2d hx hb hd hr (h H locs ls h1 h2 h3 h4 h5 h6)

theorem zs_dneg (C : zCtx p R s m args meth c base t b D dA zx Ln y) {x : UInt64} (hd : decode (zbytes y) pc = .ok (.dneg, 1)) (h : zGo p l e R s m args below meth c Q base t b D dA zx Ln n0 s0 y (pc + 1) L (zD (FP.dneg x) :: st) M) : zGo p l e R s m args below meth c Q base t b D dA zx Ln n0 s0 y pc L (zD x :: st) M := by
  intro H locs ls h1 h2 h3 h4 h5 h6
  obtain ⟨hx, hb, hml, hown, hts, hK, hS, hnm, hfr, hlo, hbs⟩ := C
  exact lv_dneg hx hb hd (h H locs ls h1 h2 h3 h4 h5 h6)

theorem zs_fadd (C : zCtx p R s m args meth c base t b D dA zx Ln y) {x w : UInt32} (hr : FP.fadd x w &&& 0x7fffffff ≤ 0x7f800000) (hd : decode (zbytes y) pc = .ok (.fadd, 1)) (h : zGo p l e R s m args below meth c Q base t b D dA zx Ln n0 s0 y (pc + 1) L (zF (FP.fadd x w) :: st) M) : zGo p l e R s m args below meth c Q base t b D dA zx Ln n0 s0 y pc L (zF w :: zF x :: st) M := by
  intro H locs ls h1 h2 h3 h4 h5 h6
  obtain ⟨hx, hb, hml, hown, hts, hK, hS, hnm, hfr, hlo, hbs⟩ := C
  exact lv_fadd hx hb hd hr (h H locs ls h1 h2 h3 h4 h5 h6)

theorem zs_fsub (C : zCtx p R s m args meth c base t b D dA zx Ln y) {x w : UInt32} (hr : FP.fsub x w &&& 0x7fffffff ≤ 0x7f800000) (hd : decode (zbytes y) pc = .ok (.fsub, 1)) (h : zGo p l e R s m args below meth c Q base t b D dA zx Ln n0 s0 y (pc + 1) L (zF (FP.fsub x w) :: st) M) : zGo p l e R s m args below meth c Q base t b D dA zx Ln n0 s0 y pc L (zF w :: zF x :: st) M := by
  intro H locs ls h1 h2 h3 h4 h5 h6
  obtain ⟨hx, hb, hml, hown, hts, hK, hS, hnm, hfr, hlo, hbs⟩ := C
  exact lv_fsub hx hb hd hr (h H locs ls h1 h2 h3 h4 h5 h6)

theorem zs_fmul (C : zCtx p R s m args meth c base t b D dA zx Ln y) {x w : UInt32} (hr : FP.fmul x w &&& 0x7fffffff ≤ 0x7f800000) (hd : decode (zbytes y) pc = .ok (.fmul, 1)) (h : zGo p l e R s m args below meth c Q base t b D dA zx Ln n0 s0 y (pc + 1) L (zF (FP.fmul x w) :: st) M) : zGo p l e R s m args below meth c Q base t b D dA zx Ln n0 s0 y pc L (zF w :: zF x :: st) M := by
  intro H locs ls h1 h2 h3 h4 h5 h6
  obtain ⟨hx, hb, hml, hown, hts, hK, hS, hnm, hfr, hlo, hbs⟩ := C
  exact lv_fmul hx hb hd hr (h H locs ls h1 h2 h3 h4 h5 h6)

theorem zs_fdiv (C : zCtx p R s m args meth c base t b D dA zx Ln y) {x w : UInt32} (hr : FP.fdiv x w &&& 0x7fffffff ≤ 0x7f800000) (hd : decode (zbytes y) pc = .ok (.fdiv, 1)) (h : zGo p l e R s m args below meth c Q base t b D dA zx Ln n0 s0 y (pc + 1) L (zF (FP.fdiv x w) :: st) M) : zGo p l e R s m args below meth c Q base t b D dA zx Ln n0 s0 y pc L (zF w :: zF x :: st) M := by
  intro H locs ls h1 h2 h3 h4 h5 h6
  obtain ⟨hx, hb, hml, hown, hts, hK, hS, hnm, hfr, hlo, hbs⟩ := C
  exact lv_fdiv hx hb hd hr (h H locs ls h1 h2 h3 h4 h5 h6)

theorem zs_dadd (C : zCtx p R s m args meth c base t b D dA zx Ln y) {x w : UInt64} (hr : FP.dadd x w &&& 0x7fffffffffffffff ≤ 0x7ff0000000000000) (hd : decode (zbytes y) pc = .ok (.dadd, 1)) (h : zGo p l e R s m args below meth c Q base t b D dA zx Ln n0 s0 y (pc + 1) L (zD (FP.dadd x w) :: st) M) : zGo p l e R s m args below meth c Q base t b D dA zx Ln n0 s0 y pc L (zD w :: zD x :: st) M := by
  intro H locs ls h1 h2 h3 h4 h5 h6
  obtain ⟨hx, hb, hml, hown, hts, hK, hS, hnm, hfr, hlo, hbs⟩ := C
  exact lv_dadd hx hb hd hr (h H locs ls h1 h2 h3 h4 h5 h6)

theorem zs_dsub (C : zCtx p R s m args meth c base t b D dA zx Ln y) {x w : UInt64} (hr : FP.dsub x w &&& 0x7fffffffffffffff ≤ 0x7ff0000000000000) (hd : decode (zbytes y) pc = .ok (.dsub, 1)) (h : zGo p l e R s m args below meth c Q base t b D dA zx Ln n0 s0 y (pc + 1) L (zD (FP.dsub x w) :: st) M) : zGo p l e R s m args below meth c Q base t b D dA zx Ln n0 s0 y pc L (zD w :: zD x :: st) M := by
  intro H locs ls h1 h2 h3 h4 h5 h6
  obtain ⟨hx, hb, hml, hown, hts, hK, hS, hnm, hfr, hlo, hbs⟩ := C
  exact lv_dsub hx hb hd hr (h H locs ls h1 h2 h3 h4 h5 h6)

theorem zs_dmul (C : zCtx p R s m args meth c base t b D dA zx Ln y) {x w : UInt64} (hr : FP.dmul x w &&& 0x7fffffffffffffff ≤ 0x7ff0000000000000) (hd : decode (zbytes y) pc = .ok (.dmul, 1)) (h : zGo p l e R s m args below meth c Q base t b D dA zx Ln n0 s0 y (pc + 1) L (zD (FP.dmul x w) :: st) M) : zGo p l e R s m args below meth c Q base t b D dA zx Ln n0 s0 y pc L (zD w :: zD x :: st) M := by
  intro H locs ls h1 h2 h3 h4 h5 h6
  obtain ⟨hx, hb, hml, hown, hts, hK, hS, hnm, hfr, hlo, hbs⟩ := C
  exact lv_dmul hx hb hd hr (h H locs ls h1 h2 h3 h4 h5 h6)

theorem zs_ddiv (C : zCtx p R s m args meth c base t b D dA zx Ln y) {x w : UInt64} (hr : FP.ddiv x w &&& 0x7fffffffffffffff ≤ 0x7ff0000000000000) (hd : decode (zbytes y) pc = .ok (.ddiv, 1)) (h : zGo p l e R s m args below meth c Q base t b D dA zx Ln n0 s0 y (pc + 1) L (zD (FP.ddiv x w) :: st) M) : zGo p l e R s m args below meth c Q base t b D dA zx Ln n0 s0 y pc L (zD w :: zD x :: st) M := by
  intro H locs ls h1 h2 h3 h4 h5 h6
  obtain ⟨hx, hb, hml, hown, hts, hK, hS, hnm, hfr, hlo, hbs⟩ := C
  exact lv_ddiv hx hb hd hr (h H locs ls h1 h2 h3 h4 h5 h6)

theorem zs_fcmp (C : zCtx p R s m args meth c base t b D dA zx Ln y) {x w : UInt32} {op : CmpOp} (hd : decode (zbytes y) pc = .ok (.fcmp op, 1)) (h : zGo p l e R s m args below meth c Q base t b D dA zx Ln n0 s0 y (pc + 1) L (zI (Op.cmpValue (FP.fcmp x w) op).toInt :: st) M) : zGo p l e R s m args below meth c Q base t b D dA zx Ln n0 s0 y pc L (zF w :: zF x :: st) M := by
  intro H locs ls h1 h2 h3 h4 h5 h6
  obtain ⟨hx, hb, hml, hown, hts, hK, hS, hnm, hfr, hlo, hbs⟩ := C
  refine lv_fcmp hx hb hd ?_
  rw [← Int32.ofInt_toInt (Op.cmpValue (FP.fcmp x w) op)]
  exact h H locs ls h1 h2 h3 h4 h5 h6

theorem zs_dcmp (C : zCtx p R s m args meth c base t b D dA zx Ln y) {x w : UInt64} {op : CmpOp} (hd : decode (zbytes y) pc = .ok (.dcmp op, 1)) (h : zGo p l e R s m args below meth c Q base t b D dA zx Ln n0 s0 y (pc + 1) L (zI (Op.cmpValue (FP.dcmp x w) op).toInt :: st) M) : zGo p l e R s m args below meth c Q base t b D dA zx Ln n0 s0 y pc L (zD w :: zD x :: st) M := by
  intro H locs ls h1 h2 h3 h4 h5 h6
  obtain ⟨hx, hb, hml, hown, hts, hK, hS, hnm, hfr, hlo, hbs⟩ := C
  refine lv_dcmp hx hb hd ?_
  rw [← Int32.ofInt_toInt (Op.cmpValue (FP.dcmp x w) op)]
  exact h H locs ls h1 h2 h3 h4 h5 h6

theorem zs_lcmp (C : zCtx p R s m args meth c base t b D dA zx Ln y) {x w : Int} (hr : -9223372036854775808 ≤ x ∧ x ≤ 9223372036854775807) (hw : -9223372036854775808 ≤ w ∧ w ≤ 9223372036854775807) (hd : decode (zbytes y) pc = .ok (.lcmp, 1)) (h : zGo p l e R s m args below meth c Q base t b D dA zx Ln n0 s0 y (pc + 1) L (zI (zcmp x w) :: st) M) : zGo p l e R s m args below meth c Q base t b D dA zx Ln n0 s0 y pc L (zL w :: zL x :: st) M := by
  intro H locs ls h1 h2 h3 h4 h5 h6
  obtain ⟨hx, hb, hml, hown, hts, hK, hS, hnm, hfr, hlo, hbs⟩ := C
  refine W.lcmp hx hb hd ?_
  rw [z64_cmp hr hw]
  exact h H locs ls h1 h2 h3 h4 h5 h6

theorem zs_dup (C : zCtx p R s m args meth c base t b D dA zx Ln y) {v : zAV} (hv : zcat v = 1) (hd : decode (zbytes y) pc = .ok (.dup, 1)) (h : zGo p l e R s m args below meth c Q base t b D dA zx Ln n0 s0 y (pc + 1) L (v :: v :: st) M) : zGo p l e R s m args below meth c Q base t b D dA zx Ln n0 s0 y pc L (v :: st) M := by
  intro H locs ls h1 h2 h3 h4 h5 h6
  obtain ⟨hx, hb, hml, hown, hts, hK, hS, hnm, hfr, hlo, hbs⟩ := C
  exact lv_dup hx hb hd ((zC_cat _ v).trans hv) (h H locs ls h1 h2 h3 h4 h5 h6)

theorem zs_pop (C : zCtx p R s m args meth c base t b D dA zx Ln y) {v : zAV} (hv : zcat v = 1) (hd : decode (zbytes y) pc = .ok (.pop, 1)) (h : zGo p l e R s m args below meth c Q base t b D dA zx Ln n0 s0 y (pc + 1) L st M) : zGo p l e R s m args below meth c Q base t b D dA zx Ln n0 s0 y pc L (v :: st) M := by
  intro H locs ls h1 h2 h3 h4 h5 h6
  obtain ⟨hx, hb, hml, hown, hts, hK, hS, hnm, hfr, hlo, hbs⟩ := C
  exact lv_pop hx hb hd ((zC_cat _ v).trans hv) (h H locs ls h1 h2 h3 h4 h5 h6)

theorem zs_goto (C : zCtx p R s m args meth c base t b D dA zx Ln y) {o : Int} {tg : Nat} (ht : (pc : Int) + o = (tg : Int)) (hd : decode (zbytes y) pc = .ok (.goto o, 3)) (h : zGo p l e R s m args below meth c Q base t b D dA zx Ln n0 s0 y tg L st M) : zGo p l e R s m args below meth c Q base t b D dA zx Ln n0 s0 y pc L st M := by
  intro H locs ls h1 h2 h3 h4 h5 h6
  obtain ⟨hx, hb, hml, hown, hts, hK, hS, hnm, hfr, hlo, hbs⟩ := C
  exact lv_goto hx hb hd ht (h H locs ls h1 h2 h3 h4 h5 h6)

theorem zs_icmp_eq (C : zCtx p R s m args meth c base t b D dA zx Ln y) {x w o : Int} {tg : Nat} (hr : -2147483648 ≤ x ∧ x ≤ 2147483647) (hw : -2147483648 ≤ w ∧ w ≤ 2147483647) (hd : decode (zbytes y) pc = .ok (.if_icmp .eq o, 3)) (ht : (pc : Int) + o = (tg : Int)) (h : zGo p l e R s m args below meth c Q base t b D dA zx Ln n0 s0 y (if zcond .eq x w = true then tg else pc + 3) L st M) : zGo p l e R s m args below meth c Q base t b D dA zx Ln n0 s0 y pc L (zI w :: zI x :: st) M := by
  intro H locs ls h1 h2 h3 h4 h5 h6
  obtain ⟨hx, hb, hml, hown, hts, hK, hS, hnm, hfr, hlo, hbs⟩ := C
  have g := h H locs ls h1 h2 h3 h4 h5 h6
  have q := z32_eq hr hw
  refine lv_icmp_eq hx hb hd ht (fun k => ?_) (fun k => ?_)
  · rwa [if_pos (show zcond .eq x w = true from decide_eq_true (q.mp k))] at g
  · rwa [if_neg (by simp only [zcond, decide_eq_true_eq]; exact fun z => k (q.mpr z))] at g

theorem zs_if_eq (C : zCtx p R s m args meth c base t b D dA zx Ln y) {x o : Int} {tg : Nat} (hr : -2147483648 ≤ x ∧ x ≤ 2147483647) (hd : decode (zbytes y) pc = .ok (.ifCond .eq o, 3)) (ht : (pc : Int) + o = (tg : Int)) (h : zGo p l e R s m args below meth c Q base t b D dA zx Ln n0 s0 y (if zcond .eq x 0 = true then tg else pc + 3) L st M) : zGo p l e R s m args below meth c Q base t b D dA zx Ln n0 s0 y pc L (zI x :: st) M := by
  intro H locs ls h1 h2 h3 h4 h5 h6
  obtain ⟨hx, hb, hml, hown, hts, hK, hS, hnm, hfr, hlo, hbs⟩ := C
  have g := h H locs ls h1 h2 h3 h4 h5 h6
  have h00 : -2147483648 ≤ (0 : Int) ∧ (0 : Int) ≤ 2147483647 := by omega
  have q := z32_eq hr h00
  rw [← z32_0] at q
  refine lv_if_eq hx hb hd ht (fun k => ?_) (fun k => ?_)
  · rwa [if_pos (show zcond .eq x 0 = true from decide_eq_true (q.mp k))] at g
  · rwa [if_neg (by simp only [zcond, decide_eq_true_eq]; exact fun z => k (q.mpr z))] at g

theorem zs_icmp_ne (C : zCtx p R s m args meth c base t b D dA zx Ln y) {x w o : Int} {tg : Nat} (hr : -2147483648 ≤ x ∧ x ≤ 2147483647) (hw : -2147483648 ≤ w ∧ w ≤ 2147483647) (hd : decode (zbytes y) pc = .ok (.if_icmp .ne o, 3)) (ht : (pc : Int) + o = (tg : Int)) (h : zGo p l e R s m args below meth c Q base t b D dA zx Ln n0 s0 y (if zcond .ne x w = true then tg else pc + 3) L st M) : zGo p l e R s m args below meth c Q base t b D dA zx Ln n0 s0 y pc L (zI w :: zI x :: st) M := by
  intro H locs ls h1 h2 h3 h4 h5 h6
  obtain ⟨hx, hb, hml, hown, hts, hK, hS, hnm, hfr, hlo, hbs⟩ := C
  have g := h H locs ls h1 h2 h3 h4 h5 h6
  have q := not_congr (z32_eq hr hw)
  refine lv_icmp_ne hx hb hd ht (fun k => ?_) (fun k => ?_)
  · rwa [if_pos (show zcond .ne x w = true from decide_eq_true (q.mp k))] at g
  · rwa [if_neg (by simp only [zcond, decide_eq_true_eq]; exact fun z => z ((z32_eq hr hw).mp k))] at g

theorem zs_if_ne (C : zCtx p R s m args meth c base t b D dA zx Ln y) {x o : Int} {tg : Nat} (hr : -2147483648 ≤ x ∧ x ≤ 2147483647) (hd : decode (zbytes y) pc = .ok (.ifCond .ne o, 3)) (ht : (pc : Int) + o = (tg : Int)) (h : zGo p l e R s m args below meth c Q base t b D dA zx Ln n0 s0 y (if zcond .ne x 0 = true then tg else pc + 3) L st M) : zGo p l e R s m args below meth c Q base t b D dA zx Ln n0 s0 y pc L (zI x :: st) M := by
  intro H locs ls h1 h2 h3 h4 h5 h6
  obtain ⟨hx, hb, hml, hown, hts, hK, hS, hnm, hfr, hlo, hbs⟩ := C
  have g := h H locs ls h1 h2 h3 h4 h5 h6
  have h00 : -2147483648 ≤ (0 : Int) ∧ (0 : Int) ≤ 2147483647 := by omega
  have q := not_congr (z32_eq hr h00)
  rw [← z32_0] at q
  refine lv_if_ne hx hb hd ht (fun k => ?_) (fun k => ?_)
  · rwa [if_pos (show zcond .ne x 0 = true from decide_eq_true (q.mp k))] at g
  · rwa [if_neg (by simp only [zcond, decide_eq_true_eq]; exact fun z => z ((z32_eq hr h00).mp (k.trans z32_0)))] at g

theorem zs_icmp_lt (C : zCtx p R s m args meth c base t b D dA zx Ln y) {x w o : Int} {tg : Nat} (hr : -2147483648 ≤ x ∧ x ≤ 2147483647) (hw : -2147483648 ≤ w ∧ w ≤ 2147483647) (hd : decode (zbytes y) pc = .ok (.if_icmp .lt o, 3)) (ht : (pc : Int) + o = (tg : Int)) (h : zGo p l e R s m args below meth c Q base t b D dA zx Ln n0 s0 y (if zcond .lt x w = true then tg else pc + 3) L st M) : zGo p l e R s m args below meth c Q base t b D dA zx Ln n0 s0 y pc L (zI w :: zI x :: st) M := by
  intro H locs ls h1 h2 h3 h4 h5 h6
  obtain ⟨hx, hb, hml, hown, hts, hK, hS, hnm, hfr, hlo, hbs⟩ := C
  have g := h H locs ls h1 h2 h3 h4 h5 h6
  have q := z32_lt hr hw
  refine lv_icmp_lt hx hb hd ht (fun k => ?_) (fun k => ?_)
  · rwa [if_pos (show zcond .lt x w = true from decide_eq_true (q.mp k))] at g
  · rwa [if_neg (by simp only [zcond, decide_eq_true_eq]; exact fun z => k (q.mpr z))] at g

theorem zs_if_lt (C : zCtx p R s m args meth c base t b D dA zx Ln y) {x o : Int} {tg : Nat} (hr : -2147483648 ≤ x ∧ x ≤ 2147483647) (hd : decode (zbytes y) pc = .ok (.ifCond .lt o, 3)) (ht : (pc : Int) + o = (tg : Int)) (h : zGo p l e R s m args below meth c Q base t b D dA zx Ln n0 s0 y (if zcond .lt x 0 = true then tg else pc + 3) L st M) : zGo p l e R s m args below meth c Q base t b D dA zx Ln n0 s0 y pc L (zI x :: st) M := by
  intro H locs ls h1 h2 h3 h4 h5 h6
  obtain ⟨hx, hb, hml, hown, hts, hK, hS, hnm, hfr, hlo, hbs⟩ := C
  have g := h H locs ls h1 h2 h3 h4 h5 h6
  have h00 : -2147483648 ≤ (0 : Int) ∧ (0 : Int) ≤ 2147483647 := by omega
  have q := z32_lt hr h00
  rw [← z32_0] at q
  refine lv_if_lt hx hb hd ht (fun k => ?_) (fun k => ?_)
  · rwa [if_pos (show zcond .lt x 0 = true from decide_eq_true (q.mp k))] at g
  · rwa [if_neg (by simp only [zcond, decide_eq_true_eq]; exact fun z => k (q.mpr z))] at g

theorem zs_icmp_ge (C : zCtx p R s m args meth c base t b D dA zx Ln y) {x w o : Int} {tg : Nat} (hr : -2147483648 ≤ x ∧ x ≤ 2147483647) (hw : -2147483648 ≤ w ∧ w ≤ 2147483647) (hd : decode (zbytes y) pc = .ok (.if_icmp .ge o, 3)) (ht : (pc : Int) + o = (tg : Int)) (h : zGo p l e R s m args below meth c Q base t b D dA zx Ln n0 s0 y (if zcond .ge x w = true then tg else pc + 3) L st M) : zGo p l e R s m args below meth c Q base t b D dA zx Ln n0 s0 y pc L (zI w :: zI x :: st) M := by
  intro H locs ls h1 h2 h3 h4 h5 h6
  obtain ⟨hx, hb, hml, hown, hts, hK, hS, hnm, hfr, hlo, hbs⟩ := C
  have g := h H locs ls h1 h2 h3 h4 h5 h6
  have q := z32_le hw hr
  refine lv_icmp_ge hx hb hd ht (fun k => ?_) (fun k => ?_)
  · rwa [if_pos (show zcond .ge x w = true from decide_eq_true (q.mp k))] at g
  · rwa [if_neg (by simp only [zcond, decide_eq_true_eq]; exact fun z => k (q.mpr z))] at g

theorem zs_if_ge (C : zCtx p R s m args meth c base t b D dA zx Ln y) {x o : Int} {tg : Nat} (hr : -2147483648 ≤ x ∧ x ≤ 2147483647) (hd : decode (zbytes y) pc = .ok (.ifCond .ge o, 3)) (ht : (pc : Int) + o = (tg : Int)) (h : zGo p l e R s m args below meth c Q base t b D dA zx Ln n0 s0 y (if zcond .ge x 0 = true then tg else pc + 3) L st M) : zGo p l e R s m args below meth c Q base t b D dA zx Ln n0 s0 y pc L (zI x :: st) M := by
  intro H locs ls h1 h2 h3 h4 h5 h6
  obtain ⟨hx, hb, hml, hown, hts, hK, hS, hnm, hfr, hlo, hbs⟩ := C
  have g := h H locs ls h1 h2 h3 h4 h5 h6
  have h00 : -2147483648 ≤ (0 : Int) ∧ (0 : Int) ≤ 2147483647 := by omega
  have q := z32_le h00 hr
  rw [← z32_0] at q
  refine lv_if_ge hx hb hd ht (fun k => ?_) (fun k => ?_)
  · rwa [if_pos (show zcond .ge x 0 = true from decide_eq_true (q.mp k))] at g
  · rwa [if_neg (by simp only [zcond, decide_eq_true_eq]; exact fun z => k (q.mpr z))] at g

theorem zs_icmp_gt (C : zCtx p R s m args meth c base t b D dA zx Ln y) {x w o : Int} {tg : Nat} (hr : -2147483648 ≤ x ∧ x ≤ 2147483647) (hw : -2147483648 ≤ w ∧ w ≤ 2147483647) (hd : decode (zbytes y) pc = .ok (.if_icmp .gt o, 3)) (ht : (pc : Int) + o = (tg : Int)) (h : zGo p l e R s m args below meth c Q base t b D dA zx Ln n0 s0 y (if zcond .gt x w = true then tg else pc + 3) L st M) : zGo p l e R s m args below meth c Q base t b D dA zx Ln n0 s0 y pc L (zI w :: zI x :: st) M := by
  intro H locs ls h1 h2 h3 h4 h5 h6
  obtain ⟨hx, hb, hml, hown, hts, hK, hS, hnm, hfr, hlo, hbs⟩ := C
  have g := h H locs ls h1 h2 h3 h4 h5 h6
  have q := z32_lt hw hr
  refine lv_icmp_gt hx hb hd ht (fun k => ?_) (fun k => ?_)
  · rwa [if_pos (show zcond .gt x w = true from decide_eq_true (q.mp k))] at g
  · rwa [if_neg (by simp only [zcond, decide_eq_true_eq]; exact fun z => k (q.mpr z))] at g

theorem zs_if_gt (C : zCtx p R s m args meth c base t b D dA zx Ln y) {x o : Int} {tg : Nat} (hr : -2147483648 ≤ x ∧ x ≤ 2147483647) (hd : decode (zbytes y) pc = .ok (.ifCond .gt o, 3)) (ht : (pc : Int) + o = (tg : Int)) (h : zGo p l e R s m args below meth c Q base t b D dA zx Ln n0 s0 y (if zcond .gt x 0 = true then tg else pc + 3) L st M) : zGo p l e R s m args below meth c Q base t b D dA zx Ln n0 s0 y pc L (zI x :: st) M := by
  intro H locs ls h1 h2 h3 h4 h5 h6
  obtain ⟨hx, hb, hml, hown, hts, hK, hS, hnm, hfr, hlo, hbs⟩ := C
  have g := h H locs ls h1 h2 h3 h4 h5 h6
  have h00 : -2147483648 ≤ (0 : Int) ∧ (0 : Int) ≤ 2147483647 := by omega
  have q := z32_lt h00 hr
  rw [← z32_0] at q
  refine lv_if_gt hx hb hd ht (fun k => ?_) (fun k => ?_)
  · rwa [if_pos (show zcond .gt x 0 = true from decide_eq_true (q.mp k))] at g
  · rwa [if_neg (by simp only [zcond, decide_eq_true_eq]; exact fun z => k (q.mpr z))] at g

theorem zs_icmp_le (C : zCtx p R s m args meth c base t b D dA zx Ln y) {x w o : Int} {tg : Nat} (hr : -2147483648 ≤ x ∧ x ≤ 2147483647) (hw : -2147483648 ≤ w ∧ w ≤ 2147483647) (hd : decode (zbytes y) pc = .ok (.if_icmp .le o, 3)) (ht : (pc : Int) + o = (tg : Int)) (h : zGo p l e R s m args below meth c Q base t b D dA zx Ln n0 s0 y (if zcond .le x w = true then tg else pc + 3) L st M) : zGo p l e R s m args below meth c Q base t b D dA zx Ln n0 s0 y pc L (zI w :: zI x :: st) M := by
  intro H locs ls h1 h2 h3 h4 h5 h6
  obtain ⟨hx, hb, hml, hown, hts, hK, hS, hnm, hfr, hlo, hbs⟩ := C
  have g := h H locs ls h1 h2 h3 h4 h5 h6
  have q := z32_le hr hw
  refine lv_icmp_le hx hb hd ht (fun k => ?_) (fun k => ?_)
  · rwa [if_pos (show zcond .le x w = true from decide_eq_true (q.mp k))] at g
  · rwa [if_neg (by simp only [zcond, decide_eq_true_eq]; exact fun z => k (q.mpr z))] at g

theorem zs_if_le (C : zCtx p R s m args meth c base t b D dA zx Ln y) {x o : Int} {tg : Nat} (hr : -2147483648 ≤ x ∧ x ≤ 2147483647) (hd : decode (zbytes y) pc = .ok (.ifCond .le o, 3)) (ht : (pc : Int) + o = (tg : Int)) (h : zGo p l e R s m args below meth c Q base t b D dA zx Ln n0 s0 y (if zcond .le x 0 = true then tg else pc + 3) L st M) : zGo p l e R s m args below meth c Q base t b D dA zx Ln n0 s0 y pc L (zI x :: st) M := by
  intro H locs ls h1 h2 h3 h4 h5 h6
  obtain ⟨hx, hb, hml, hown, hts, hK, hS, hnm, hfr, hlo, hbs⟩ := C
  have g := h H locs ls h1 h2 h3 h4 h5 h6
  have h00 : -2147483648 ≤ (0 : Int) ∧ (0 : Int) ≤ 2147483647 := by omega
  have q := z32_le hr h00
  rw [← z32_0] at q
  refine lv_if_le hx hb hd ht (fun k => ?_) (fun k => ?_)
  · rwa [if_pos (show zcond .le x 0 = true from decide_eq_true (q.mp k))] at g
  · rwa [if_neg (by simp only [zcond, decide_eq_true_eq]; exact fun z => k (q.mpr z))] at g

theorem zs_tableOut (C : zCtx p R s m args meth c base t b D dA zx Ln y) {x d lo hi : Int} {os : Array Int} {n : Nat} (hr : -2147483648 ≤ x ∧ x ≤ 2147483647) (hd : decode (zbytes y) pc = .ok (.tableswitch d lo hi os, n)) (ht : 0 ≤ (pc : Int) + d) (hc : x < lo ∨ hi < x) (h : zGo p l e R s m args below meth c Q base t b D dA zx Ln n0 s0 y ((pc : Int) + d).toNat L st M) : zGo p l e R s m args below meth c Q base t b D dA zx Ln n0 s0 y pc L (zI x :: st) M := by
  intro H locs ls h1 h2 h3 h4 h5 h6
  obtain ⟨hx, hb, hml, hown, hts, hK, hS, hnm, hfr, hlo, hbs⟩ := C
  have q : (Int32.ofInt x).toInt = x := Int32.toInt_ofInt_of_le (by omega) (by omega)
  exact lv_tableOut hx hb hd (by rw [q]; exact hc) (by omega) (h H locs ls h1 h2 h3 h4 h5 h6)

theorem zs_tableIn (C : zCtx p R s m args meth c base t b D dA zx Ln y) {x d lo hi o : Int} {os : Array Int} {n : Nat} (hr : -2147483648 ≤ x ∧ x ≤ 2147483647) (hd : decode (zbytes y) pc = .ok (.tableswitch d lo hi os, n)) (ht : 0 ≤ (pc : Int) + o) (hc : ¬ (x < lo ∨ hi < x)) (ho : os[(x - lo).toNat]? = some o) (h : zGo p l e R s m args below meth c Q base t b D dA zx Ln n0 s0 y ((pc : Int) + o).toNat L st M) : zGo p l e R s m args below meth c Q base t b D dA zx Ln n0 s0 y pc L (zI x :: st) M := by
  intro H locs ls h1 h2 h3 h4 h5 h6
  obtain ⟨hx, hb, hml, hown, hts, hK, hS, hnm, hfr, hlo, hbs⟩ := C
  have q : (Int32.ofInt x).toInt = x := Int32.toInt_ofInt_of_le (by omega) (by omega)
  exact lv_tableIn hx hb hd (by rw [q]; omega) (by rw [q]; omega) (by rw [q]; exact ho) (by omega) (h H locs ls h1 h2 h3 h4 h5 h6)

theorem zs_lookup (C : zCtx p R s m args meth c base t b D dA zx Ln y) {x d : Int} {ps : Array (Int × Int)} {n : Nat} (hr : -2147483648 ≤ x ∧ x ≤ 2147483647) (hd : decode (zbytes y) pc = .ok (.lookupswitch d ps, n)) (hp : (ps.toList.zip (ps.toList.drop 1)).all (fun (a, next) => a.1 < next.1) = true) (ht : 0 ≤ (pc : Int) + Op.lookupswitch.offset ps.toList d x) (h : zGo p l e R s m args below meth c Q base t b D dA zx Ln n0 s0 y ((pc : Int) + Op.lookupswitch.offset ps.toList d x).toNat L st M) : zGo p l e R s m args below meth c Q base t b D dA zx Ln n0 s0 y pc L (zI x :: st) M := by
  intro H locs ls h1 h2 h3 h4 h5 h6
  obtain ⟨hx, hb, hml, hown, hts, hK, hS, hnm, hfr, hlo, hbs⟩ := C
  have q : (Int32.ofInt x).toInt = x := Int32.toInt_ofInt_of_le (by omega) (by omega)
  exact lv_lookup hx hb hd hp (by rw [q]) (by omega) (h H locs ls h1 h2 h3 h4 h5 h6)

end ZSIM
end
section
/-! the classes' own facts -/
theorem zcl_at : ∀ a, a < 9 → zcl[a]? = some (zcls a) := by
  intro a h
  have hl : a < zcl.length := h
  unfold zcls
  rw [List.getD_eq_getElem?_getD, List.getElem?_eq_getElem hl]
  rfl
def zclin (a : Nat) : Bool := (u_ws (zcls a).1 (zcls a).2.1 (zcls a).2.2).all (fun w => decide (w ∈ lw_tbl) && goodWord w)
theorem zcl_in_b : (List.range 9).all zclin = true := by decide +kernel
theorem zcl_in {a : Nat} (h : a < 9) : ∀ w ∈ u_ws (zcls a).1 (zcls a).2.1 (zcls a).2.2, w ∈ zall := by
  intro w hw
  have h1 := List.all_eq_true.mp (List.all_eq_true.mp zcl_in_b a (List.mem_range.mpr h)) w hw
  simp only [Bool.and_eq_true, decide_eq_true_eq] at h1
  exact List.mem_filter.mpr h1
def zfty (a k : Nat) : FieldType := (parseFieldDescriptor ((zcls a).2.1 k).2.2.1).getD .int
theorem zfty_b : (List.range 9).all (fun a => (List.range (zcls a).2.2).all (fun k => decide (parseFieldDescriptor ((zcls a).2.1 k).2.2.1 = some (zfty a k)) && (match (zfk.getD a []).getD k 9 with
  | 0 => decide (zfty a k = .int) | 1 => decide (zfty a k = .long) | 2 => decide (zfty a k = .float) | 4 => decide (zfty a k = .boolean)
  | 5 => (match zfty a k with | .object _ => true | .array _ => true | _ => false)
  | _ => false))) = true := by decide +kernel
theorem zfty_ok {a k : Nat} (ha : a < 9) (hk : k < (zcls a).2.2) : parseFieldDescriptor ((zcls a).2.1 k).2.2.1 = some (zfty a k) := by
  have h := List.all_eq_true.mp (List.all_eq_true.mp zfty_b a (List.mem_range.mpr ha)) k (List.mem_range.mpr hk)
  simp only [Bool.and_eq_true, decide_eq_true_eq] at h
  exact h.1
theorem zfty_kd {a k : Nat} (ha : a < 9) (hk : k < (zcls a).2.2) : (match (zfk.getD a []).getD k 9 with
  | 0 => decide (zfty a k = .int) | 1 => decide (zfty a k = .long) | 2 => decide (zfty a k = .float) | 4 => decide (zfty a k = .boolean)
  | 5 => (match zfty a k with | .object _ => true | .array _ => true | _ => false)
  | _ => false) = true := by
  have h := List.all_eq_true.mp (List.all_eq_true.mp zfty_b a (List.mem_range.mpr ha)) k (List.mem_range.mpr hk)
  simp only [Bool.and_eq_true] at h
  exact h.2
theorem znames_b : (List.range 9).all (fun a => (List.range (zcls a).2.2).all (fun i => (List.range (zcls a).2.2).all (fun j => decide (i = j) || decide (((zcls a).2.1 i).2.1 ≠ ((zcls a).2.1 j).2.1)))) = true := by decide +kernel
theorem znames {a : Nat} (ha : a < 9) : ∀ i, i < (zcls a).2.2 → ∀ j, j < (zcls a).2.2 → i ≠ j → ((zcls a).2.1 i).2.1 ≠ ((zcls a).2.1 j).2.1 := by
  intro i hi j hj hne
  have h := List.all_eq_true.mp (List.all_eq_true.mp (List.all_eq_true.mp znames_b a (List.mem_range.mpr ha)) i (List.mem_range.mpr hi)) j (List.mem_range.mpr hj)
  simp only [Bool.or_eq_true, decide_eq_true_eq] at h
  exact h.resolve_left hne
/-! the world's rows -/
theorem zAD_lo {base t b k : Nat} (h : k < 900) : zAD base t b k = base + k := by
  unfold zAD
  rw [if_neg (by omega), if_neg (by omega)]
theorem zflds_at {AD : Nat → Nat} {a : Nat} {R : List (List (Option Nat))} {Z : zMem} {k i : Nat} (hi : i < (zcls a).2.2) : (zflds AD a R Z k)[i]? = some (zval AD ((zfk.getD a []).getD i 9) R Z k i) := by
  unfold zflds
  rw [List.getElem?_map, List.getElem?_range hi]
  rfl
theorem zel_obj {AD : Nat → Nat} {dA : Nat → ClassId} {a n k : Nat} {R : List (List (Option Nat))} {Z : zMem} (ha : a < 9) : zel AD dA (a, n) k R Z = .inr (a, zflds AD a R Z k) := by
  unfold zel
  rw [if_pos (by show a < 10; omega)]
theorem zel_congr {AD : Nat → Nat} {dA : Nat → ClassId} {d : Nat × Nat} {k : Nat} {R R' : List (List (Option Nat))} {Z Z' : zMem} (hR : ∀ i, zrd R' k i = zrd R k i) (hZ : ∀ i, Z' k i = Z k i) : zel AD dA d k R' Z' = zel AD dA d k R Z := by
  unfold zel zflds zval zrow
  simp only [hR, hZ]
theorem zH_in {base t b : Nat} {D : va_G} {dA : Nat → ClassId} {zx : Nat → Int} {Ln : Nat} {M : zM} {H : Heap} (h : zH base t b D dA zx Ln M H) {k : Nat} {d : Nat × Nat} (hk : M.1[k]? = some d) :
    k < 900 ∧ va_P D zcl [(base + k, zel (zAD base t b) dA d k M.2.1 M.2.2)] H := by
  obtain ⟨h1, h2, h3, h4⟩ := h
  have hl : k < M.1.length := (List.getElem?_eq_some_iff.mp hk).1
  refine ⟨by omega, fun j q hq => ?_⟩
  have hz : j < 1 := (List.getElem?_eq_some_iff.mp hq).1
  rw [show j = 0 by omega] at hq
  cases hq
  exact h3 k d hk
theorem zH_store {base t b : Nat} {D : va_G} {dA : Nat → ClassId} {zx : Nat → Int} {Ln : Nat} {M : zM} {H H' : Heap} (h : zH base t b D dA zx Ln M H) {k : Nat} {d : Nat × Nat} (hk : M.1[k]? = some d) {R' : List (List (Option Nat))} {Z' : zMem}
    (hz : H'.size = H.size) (ho : ∀ q, q ≠ base + k → H'[q]? = H[q]?) (hn : va_at D zcl (base + k, zel (zAD base t b) dA d k R' Z') H') (hR : ∀ j, j ≠ k → ∀ i, zrd R' j i = zrd M.2.1 j i) (hZ : ∀ j, j ≠ k → ∀ i, Z' j i = M.2.2 j i) : zH base t b D dA zx Ln (M.1, R', Z') H' := by
  obtain ⟨h1, h2, h3, h4, h5⟩ := h
  have hl : k < M.1.length := (List.getElem?_eq_some_iff.mp hk).1
  refine ⟨hz.trans h1, h2, fun j d' hj => ?_, fun j => ?_, ?_⟩
  · by_cases e : j = k
    · subst e
      have e2 : d' = d := Option.some.inj (hj.symm.trans hk)
      subst e2
      exact hn
    · show va_at D zcl (base + j, zel (zAD base t b) dA d' j R' Z') H'
      rw [zel_congr (hR j e) (hZ j e)]
      exact (h3 j d' hj).kept (ho _ (by show base + j ≠ base + k; omega))
  · show Z' 1001 j = zx j
    rw [hZ 1001 (by omega)]; exact h4 j
  · show Z' 1002 0 = (Ln : Int)
    rw [hZ 1002 (by omega)]; exact h5
theorem zup_ne {Z : zMem} {k i : Nat} {v : Int} : ∀ j, j ≠ k → ∀ x, zup Z k i v j x = Z j x := by
  intro j h x
  unfold zup
  rw [if_neg h]
theorem zup_self (Z : zMem) (k i : Nat) (v : Int) (x : Nat) : zup Z k i v k x = if x = i then v else Z k x := by
  unfold zup
  rw [if_pos rfl]
theorem zrd_set_ne {R : List (List (Option Nat))} {k : Nat} {r : List (Option Nat)} {j : Nat} (h : j ≠ k) (i : Nat) : zrd (R.set k r) j i = zrd R j i := by
  unfold zrd
  simp only [List.getD_eq_getElem?_getD]
  rw [List.getElem?_set_ne (Ne.symm h)]
theorem zrd_rw {R : List (List (Option Nat))} {k i v : Nat} (hi : i < (R.getD k []).length) (x : Nat) : zrd (zrw R k i v) k x = if x = i then some v else zrd R k x := by
  have hk : k < R.length := by
    rcases Nat.lt_or_ge k R.length with h | h
    · exact h
    · rw [List.getD_eq_getElem?_getD, List.getElem?_eq_none h] at hi
      cases hi
  unfold zrd zrw
  have e : (R.set k ((R.getD k []).set i (some v))).getD k [] = (R.getD k []).set i (some v) := by
    rw [List.getD_eq_getElem?_getD, List.getElem?_set_self hk]
    rfl
  rw [e, List.getD_eq_getElem?_getD, List.getElem?_set]
  by_cases q : i = x
  · rw [if_pos q, if_pos (by omega), if_pos q.symm]; rfl
  · rw [if_neg q, if_neg (Ne.symm q), ← List.getD_eq_getElem?_getD]
section ZMEM
variable {p : Program} {l : Launch} {e : Env} {R : Room} {s : State} {m : MethodId} {args : Array Value} {below : List Frame} {meth : Method} {c : Code} {Q : State → Prop} {base t b : Nat} {D : va_G} {dA : Nat → ClassId} {zx : Nat → Int} {Ln n0 s0 y : Nat} {pc : Nat} {L : zLs} {st : List zAV} {M : zM}
theorem zs_getfield (C : zCtx p R s m args meth c base t b D dA zx Ln y) {i a f k : Nat} {v : zAV} (ha : a < 9) (hf : f < (zcls a).2.2) (hw : Cond.fieldLink (zname y).cls i ((zcls a).2.1 f).1 ((zcls a).2.1 f).2.1 ((zcls a).2.1 f).2.2.1 ∈ zall) (hT : M.1[k]? = some (a, 0))
    (hv : zval (zAD base t b) ((zfk.getD a []).getD f 9) M.2.1 M.2.2 k f = zC (zAD base t b) v) (hd : decode (zbytes y) pc = .ok (.getfield i, 3)) (h : zGo p l e R s m args below meth c Q base t b D dA zx Ln n0 s0 y (pc + 3) L (v :: st) M) : zGo p l e R s m args below meth c Q base t b D dA zx Ln n0 s0 y pc L (zR k :: st) M := by
  intro H locs ls h1 h2 h3 h4 h5 h6
  obtain ⟨hx, hb, hml, hown, hts, hK, hS, hnm, hfr, hlo, hbs⟩ := C
  obtain ⟨hk9, hP⟩ := zH_in h1 hT
  have g := h H locs ls h1 h2 h3 h4 h5 h6
  show W p l e R s m args below meth c H locs _ _ Q (F0 m pc ls (.ref (zAD base t b k) :: st.map (zC (zAD base t b))))
  rw [zAD_lo hk9]
  exact va_get hx hb hts (zcl_in ha) hown hK.1 hP 0 (by rw [zel_obj ha]; rfl) (zcl_at a ha) f hf (hts _ hw) (fun _ q => q) ((zflds_at hf).trans (congrArg some hv)) hd g
theorem zs_putfield (C : zCtx p R s m args meth c base t b D dA zx Ln y) {i a f k : Nat} {v : zAV} (ha : a < 9) (hf : f < (zcls a).2.2) (hw : Cond.fieldLink (zname y).cls i ((zcls a).2.1 f).1 ((zcls a).2.1 f).2.1 ((zcls a).2.1 f).2.2.1 ∈ zall) (hT : M.1[k]? = some (a, 0))
    (hfin : ((zcls a).2.1 f).2.2.2 = false ∨ ((zname y).name = "<init>" ∧ ((zcls a).2.1 f).1 = (zname y).cls)) {R' : List (List (Option Nat))} {Z' : zMem}
    (hn : narrow (zfty a f) (zC (zAD base t b) v) = zC (zAD base t b) v) (hfit : fits (zfty a f) (zC (zAD base t b) v) = true)
    (hv : ∀ j, j < (zcls a).2.2 → zval (zAD base t b) ((zfk.getD a []).getD j 9) R' Z' k j = if j = f then zC (zAD base t b) v else zval (zAD base t b) ((zfk.getD a []).getD j 9) M.2.1 M.2.2 k j)
    (hR : ∀ j, j ≠ k → ∀ i, zrd R' j i = zrd M.2.1 j i) (hZ : ∀ j, j ≠ k → ∀ i, Z' j i = M.2.2 j i)
    (hd : decode (zbytes y) pc = .ok (.putfield i, 3)) (h : zGo p l e R s m args below meth c Q base t b D dA zx Ln n0 s0 y (pc + 3) L st (M.1, R', Z')) : zGo p l e R s m args below meth c Q base t b D dA zx Ln n0 s0 y pc L (v :: zR k :: st) M := by
  intro H locs ls h1 h2 h3 h4 h5 h6
  obtain ⟨hx, hb, hml, hown, hts, hK, hS, hnm, hfr, hlo, hbs⟩ := C
  obtain ⟨hk9, hP⟩ := zH_in h1 hT
  show W p l e R s m args below meth c H locs _ _ Q (F0 m pc ls (zC (zAD base t b) v :: .ref (zAD base t b k) :: st.map (zC (zAD base t b))))
  rw [zAD_lo hk9]
  have hap := va_apart (own := (zname y).cls) hts (zcl_in ha) (zfty a) (fun j hj => zfty_ok ha hj) (znames ha) hK.1 (zcl_at a ha)
  have hat : va_at D zcl (base + k, .inr (a, zflds (zAD base t b) a M.2.1 M.2.2 k)) H := by
    have q := hP 0 _ rfl
    rwa [zel_obj ha] at q
  obtain ⟨r, hr1, cell, q1, q2, q3, q4⟩ := hat
  have hr : r = zcls a := Option.some.inj (hr1.symm.trans (zcl_at a ha))
  subst hr
  obtain ⟨hSl, hfc, kC, hkC, hkind⟩ := hK.1.1 a _ (zcl_at a ha)
  obtain ⟨cf, kf, fi, fd, hi, hsl⟩ := hSl f hf
  have hst := (u_facts hfc hkC (u_lays hts (zcl_in ha) hf) hi).1
  have hend : ∀ H' : Heap, H'[base + k]? = some (cell.setSlot (D.2 a f) (zC (zAD base t b) v)) → H'.size = H.size → (∀ q, q ≠ base + k → H'[q]? = H[q]?) → W p l e R s m args below meth c H' (locs ++ [⟨base + k, D.2 a f⟩]) (M.1.length - n0) (zslots M.1 - s0) Q (F0 m (pc + 3) ls (st.map (zC (zAD base t b)))) := by
    intro H' e1 e2 e3
    refine h H' _ ls (zH_store h1 hT e2 e3 ?_ hR hZ) (h2.put e2 e3 (by show base ≤ base + k; omega)) h3 h4 h5 h6
    rw [zel_obj ha]
    refine ⟨_, zcl_at a ha, t_OB.to (V := updV (vp_V (zflds (zAD base t b) a M.2.1 M.2.2 k)) f (zC (zAD base t b) v)) ⟨_, e1, q2, q3, t_set q4 hap hf _⟩ (fun j hj => ?_)⟩
    unfold updV vp_V
    rw [List.getD_eq_getElem?_getD, List.getD_eq_getElem?_getD, zflds_at hj, zflds_at hj, Option.getD_some, Option.getD_some, hv j hj]
  have hlay := hts _ (zcl_in ha _ (u_in_lay hf))
  unfold u_lay at hlay
  by_cases hF : ((zcls a).2.1 f).2.2.2 = true
  · rw [if_pos hF] at hlay
    obtain ⟨hn1, hn2⟩ := hfin.resolve_left (by rw [hF]; decide)
    have hcf : m.cls = cf := by
      obtain ⟨_, _, c', _, _, _, -, -, hf', -, -, -, hown2, -⟩ := Cond.laysFinal_spec hlay
      have e1 : c' = cf := by have := hi.symm.trans hf'; simp at this; exact this.1.symm
      rw [hn2] at hown2
      rw [← e1]; exact Option.some.inj (hown.symm.trans hown2)
    have h6' := u_fits hfc hkC hkind (Or.inr hlay) hi (zfty_ok ha hf) hn hfit
    refine W.putFinK hx hb hown (hts _ hw) hi hst hcf (hnm hn1) (by rw [q2]; exact h6') q1 q3 (by rw [hsl]; exact k2_hasslot (q4 f hf)) rfl rfl hd fun H' e1 e2 e3 => ?_
    rw [hsl] at e1 ⊢
    exact hend H' e1 e2 e3
  · rw [if_neg hF] at hlay
    have h6' := u_store hfc hkC hkind hlay hi (zfty_ok ha hf) hn hfit
    refine W.putK hx hb (f := fd) ⟨hown, hts _ hw, ⟨_, _, _, hi⟩, hst⟩ (by rw [q2]; exact h6') q1 q3 (by rw [hsl]; exact k2_hasslot (q4 f hf)) rfl rfl hd fun H' e1 e2 e3 => ?_
    rw [hsl] at e1 ⊢
    exact hend H' e1 e2 e3
theorem zs_getorders (C : zCtx p R s m args meth c base t b D dA zx Ln y) {i : Nat} (hw : Cond.fieldLink (zname y).cls i "EstateVessels$Group" "ORDERS" "[I" ∈ zall) (hd : decode (zbytes y) pc = .ok (.getstatic i, 3)) (h : zGo p l e R s m args below meth c Q base t b D dA zx Ln n0 s0 y (pc + 3) L (zR 1000 :: st) M) : zGo p l e R s m args below meth c Q base t b D dA zx Ln n0 s0 y pc L st M := by
  intro H locs ls h1 h2 h3 h4 h5 h6
  obtain ⟨hx, hb, hml, hown, hts, hK, hS, hnm, hfr, hlo, hbs⟩ := C
  exact va_gets hx hb hS.1 h2 hown (hts _ hw) (fun _ q => q) hd (h H locs ls h1 h2 h3 h4 h5 h6)
theorem zs_getneg (C : zCtx p R s m args meth c base t b D dA zx Ln y) {i : Nat} (hw : Cond.fieldLink (zname y).cls i "java/lang/Math" "negativeZeroDoubleBits" "J" ∈ zall) (hd : decode (zbytes y) pc = .ok (.getstatic i, 3)) (h : zGo p l e R s m args below meth c Q base t b D dA zx Ln n0 s0 y (pc + 3) L (zL (-9223372036854775808) :: st) M) : zGo p l e R s m args below meth c Q base t b D dA zx Ln n0 s0 y pc L st M := by
  intro H locs ls h1 h2 h3 h4 h5 h6
  obtain ⟨hx, hb, hml, hown, hts, hK, hS, hnm, hfr, hlo, hbs⟩ := C
  exact va_gets hx hb hS.2.1 h2 hown (hts _ hw) (fun _ q => q) hd (h H locs ls h1 h2 h3 h4 h5 h6)
theorem zs_iald0 (C : zCtx p R s m args meth c base t b D dA zx Ln y) {i : Int} (hi : 0 ≤ i ∧ i < 7) (hd : decode (zbytes y) pc = .ok (.iaload, 1)) (h : zGo p l e R s m args below meth c Q base t b D dA zx Ln n0 s0 y (pc + 1) L (zI (([1, 1, 2, 6, 24, 120, 720] : List Int).getD i.toNat 0) :: st) M) : zGo p l e R s m args below meth c Q base t b D dA zx Ln n0 s0 y pc L (zI i :: zR 1000 :: st) M := by
  intro H locs ls h1 h2 h3 h4 h5 h6
  obtain ⟨hx, hb, hml, hown, hts, hK, hS, hnm, hfr, hlo, hbs⟩ := C
  obtain ⟨g1, g2⟩ := z32_in (i := i) (n := 7) ⟨hi.1, by omega, by omega⟩
  exact va_ti hx hb hS.2.2.1 h2 g1 (by rw [g2]; rfl) hd (h H locs ls h1 h2 h3 h4 h5 h6)
theorem zs_iald1 (C : zCtx p R s m args meth c base t b D dA zx Ln y) {i : Int} (hi : 0 ≤ i ∧ i < M.2.2 1002 0 ∧ i < 2147483648) (hd : decode (zbytes y) pc = .ok (.iaload, 1)) (h : zGo p l e R s m args below meth c Q base t b D dA zx Ln n0 s0 y (pc + 1) L (zI (M.2.2 1001 i.toNat) :: st) M) : zGo p l e R s m args below meth c Q base t b D dA zx Ln n0 s0 y pc L (zI i :: zR 1001 :: st) M := by
  intro H locs ls h1 h2 h3 h4 h5 h6
  obtain ⟨hx, hb, hml, hown, hts, hK, hS, hnm, hfr, hlo, hbs⟩ := C
  obtain ⟨-, -, -, e4, e5⟩ := id h1
  rw [e5] at hi
  obtain ⟨g1, g2⟩ := z32_in (i := i) (n := Ln) hi
  have g := h H locs ls h1 h2 h3 h4 h5 h6
  rw [e4] at g
  obtain ⟨-, -, -, hX, hbb, -⟩ := hS
  refine va_sld hx hb hX (by omega) (by show ¬ base ≤ b; omega) h2 g1 hd ?_
  rw [g2]
  exact g
theorem zs_alen1 (C : zCtx p R s m args meth c base t b D dA zx Ln y) (hd : decode (zbytes y) pc = .ok (.arraylength, 1)) (h : zGo p l e R s m args below meth c Q base t b D dA zx Ln n0 s0 y (pc + 1) L (zI (M.2.2 1002 0) :: st) M) : zGo p l e R s m args below meth c Q base t b D dA zx Ln n0 s0 y pc L (zR 1001 :: st) M := by
  intro H locs ls h1 h2 h3 h4 h5 h6
  obtain ⟨hx, hb, hml, hown, hts, hK, hS, hnm, hfr, hlo, hbs⟩ := C
  obtain ⟨-, -, -, e4, e5⟩ := id h1
  have g := h H locs ls h1 h2 h3 h4 h5 h6
  rw [e5] at g
  obtain ⟨-, -, -, hX, hbb, -⟩ := hS
  exact va_slen (b := b) hx hb hX (by omega) (by show ¬ base ≤ b; omega) h2 hd g
theorem zs_alen (C : zCtx p R s m args meth c base t b D dA zx Ln y) {k a n : Nat} (ha : 10 ≤ a) (hT : M.1[k]? = some (a, n)) (hq : ∃ q : Nat, (zty dA)[q]? = some (dA a, zkt a)) (hd : decode (zbytes y) pc = .ok (.arraylength, 1)) (h : zGo p l e R s m args below meth c Q base t b D dA zx Ln n0 s0 y (pc + 1) L (zI (n : Int) :: st) M) : zGo p l e R s m args below meth c Q base t b D dA zx Ln n0 s0 y pc L (zR k :: st) M := by
  intro H locs ls h1 h2 h3 h4 h5 h6
  obtain ⟨hx, hb, hml, hown, hts, hK, hS, hnm, hfr, hlo, hbs⟩ := C
  obtain ⟨hk9, hP⟩ := zH_in h1 hT
  obtain ⟨q, hq⟩ := hq
  have g := h H locs ls h1 h2 h3 h4 h5 h6
  show W p l e R s m args below meth c H locs _ _ Q (F0 m pc ls (.ref (zAD base t b k) :: st.map (zC (zAD base t b))))
  rw [zAD_lo hk9]
  refine va_alen hx hb hK.1 hP 0 q (x := (n, zrow (zAD base t b) a M.2.1 M.2.2 k)) (by unfold zel; rw [if_neg (by show ¬ a < 10; omega)]; rfl) hq (v := Int32.ofInt (n : Int)) ?_ hd g
  exact Int32.ofInt_eq_ofNat.symm
theorem zs_iald (C : zCtx p R s m args meth c base t b D dA zx Ln y) {k n : Nat} {i : Int} (hT : M.1[k]? = some (10, n)) (hi : 0 ≤ i ∧ i < (n : Int) ∧ i < 2147483648) (hd : decode (zbytes y) pc = .ok (.iaload, 1)) (h : zGo p l e R s m args below meth c Q base t b D dA zx Ln n0 s0 y (pc + 1) L (zI (M.2.2 k i.toNat) :: st) M) : zGo p l e R s m args below meth c Q base t b D dA zx Ln n0 s0 y pc L (zI i :: zR k :: st) M := by
  intro H locs ls h1 h2 h3 h4 h5 h6
  obtain ⟨hx, hb, hml, hown, hts, hK, hS, hnm, hfr, hlo, hbs⟩ := C
  obtain ⟨hk9, hP⟩ := zH_in h1 hT
  obtain ⟨g1, g2⟩ := z32_in (i := i) (n := n) hi
  have g := h H locs ls h1 h2 h3 h4 h5 h6
  show W p l e R s m args below meth c H locs _ _ Q (F0 m pc ls (.int (Int32.ofInt i) :: .ref (zAD base t b k) :: st.map (zC (zAD base t b))))
  rw [zAD_lo hk9]
  refine va_iald hx hb hK.1 hP 0 0 (cA := dA 10) (n := n) (f := fun q => Int32.ofInt (M.2.2 k q)) rfl rfl g1 hd ?_
  rw [g2]
  exact g
theorem zs_bald (C : zCtx p R s m args meth c base t b D dA zx Ln y) {k n : Nat} {i : Int} (hT : M.1[k]? = some (13, n)) (hi : 0 ≤ i ∧ i < (n : Int) ∧ i < 2147483648) (hd : decode (zbytes y) pc = .ok (.baload, 1)) (h : zGo p l e R s m args below meth c Q base t b D dA zx Ln n0 s0 y (pc + 1) L (zI (M.2.2 k i.toNat) :: st) M) : zGo p l e R s m args below meth c Q base t b D dA zx Ln n0 s0 y pc L (zI i :: zR k :: st) M := by
  intro H locs ls h1 h2 h3 h4 h5 h6
  obtain ⟨hx, hb, hml, hown, hts, hK, hS, hnm, hfr, hlo, hbs⟩ := C
  obtain ⟨hk9, hP⟩ := zH_in h1 hT
  obtain ⟨g1, g2⟩ := z32_in (i := i) (n := n) hi
  have g := h H locs ls h1 h2 h3 h4 h5 h6
  show W p l e R s m args below meth c H locs _ _ Q (F0 m pc ls (.int (Int32.ofInt i) :: .ref (zAD base t b k) :: st.map (zC (zAD base t b))))
  rw [zAD_lo hk9]
  refine va_bald hx hb hK.1 hP 0 3 (cA := dA 13) (n := n) (f := fun q => Int32.ofInt (M.2.2 k q)) rfl rfl g1 hd ?_
  rw [g2]
  exact g
theorem zs_zald (C : zCtx p R s m args meth c base t b D dA zx Ln y) {k n : Nat} {i : Int} (hT : M.1[k]? = some (14, n)) (hi : 0 ≤ i ∧ i < (n : Int) ∧ i < 2147483648) (hd : decode (zbytes y) pc = .ok (.baload, 1)) (h : zGo p l e R s m args below meth c Q base t b D dA zx Ln n0 s0 y (pc + 1) L (zI (M.2.2 k i.toNat) :: st) M) : zGo p l e R s m args below meth c Q base t b D dA zx Ln n0 s0 y pc L (zI i :: zR k :: st) M := by
  intro H locs ls h1 h2 h3 h4 h5 h6
  obtain ⟨hx, hb, hml, hown, hts, hK, hS, hnm, hfr, hlo, hbs⟩ := C
  obtain ⟨hk9, hP⟩ := zH_in h1 hT
  obtain ⟨g1, g2⟩ := z32_in (i := i) (n := n) hi
  have g := h H locs ls h1 h2 h3 h4 h5 h6
  show W p l e R s m args below meth c H locs _ _ Q (F0 m pc ls (.int (Int32.ofInt i) :: .ref (zAD base t b k) :: st.map (zC (zAD base t b))))
  rw [zAD_lo hk9]
  refine va_zald hx hb hK.1 hP 0 4 (cA := dA 14) (n := n) (f := fun q => Int32.ofInt (M.2.2 k q)) rfl rfl g1 hd ?_
  rw [g2]
  exact g
theorem zs_lald (C : zCtx p R s m args meth c base t b D dA zx Ln y) {k n : Nat} {i : Int} (hT : M.1[k]? = some (11, n)) (hi : 0 ≤ i ∧ i < (n : Int) ∧ i < 2147483648) (hd : decode (zbytes y) pc = .ok (.laload, 1)) (h : zGo p l e R s m args below meth c Q base t b D dA zx Ln n0 s0 y (pc + 1) L (zL (M.2.2 k i.toNat) :: st) M) : zGo p l e R s m args below meth c Q base t b D dA zx Ln n0 s0 y pc L (zI i :: zR k :: st) M := by
  intro H locs ls h1 h2 h3 h4 h5 h6
  obtain ⟨hx, hb, hml, hown, hts, hK, hS, hnm, hfr, hlo, hbs⟩ := C
  obtain ⟨hk9, hP⟩ := zH_in h1 hT
  obtain ⟨g1, g2⟩ := z32_in (i := i) (n := n) hi
  have g := h H locs ls h1 h2 h3 h4 h5 h6
  show W p l e R s m args below meth c H locs _ _ Q (F0 m pc ls (.int (Int32.ofInt i) :: .ref (zAD base t b k) :: st.map (zC (zAD base t b))))
  rw [zAD_lo hk9]
  refine va_lald hx hb hK.1 hP 0 1 (cA := dA 11) (n := n) (f := fun q => Int64.ofInt (M.2.2 k q)) rfl rfl g1 hd ?_
  rw [g2]
  exact g
theorem zs_fald (C : zCtx p R s m args meth c base t b D dA zx Ln y) {k n : Nat} {i : Int} (hT : M.1[k]? = some (12, n)) (hi : 0 ≤ i ∧ i < (n : Int) ∧ i < 2147483648) (hd : decode (zbytes y) pc = .ok (.faload, 1)) (h : zGo p l e R s m args below meth c Q base t b D dA zx Ln n0 s0 y (pc + 1) L (zF (UInt32.ofNat (M.2.2 k i.toNat).toNat) :: st) M) : zGo p l e R s m args below meth c Q base t b D dA zx Ln n0 s0 y pc L (zI i :: zR k :: st) M := by
  intro H locs ls h1 h2 h3 h4 h5 h6
  obtain ⟨hx, hb, hml, hown, hts, hK, hS, hnm, hfr, hlo, hbs⟩ := C
  obtain ⟨hk9, hP⟩ := zH_in h1 hT
  obtain ⟨g1, g2⟩ := z32_in (i := i) (n := n) hi
  have g := h H locs ls h1 h2 h3 h4 h5 h6
  show W p l e R s m args below meth c H locs _ _ Q (F0 m pc ls (.int (Int32.ofInt i) :: .ref (zAD base t b k) :: st.map (zC (zAD base t b))))
  rw [zAD_lo hk9]
  refine va_fald hx hb hK.1 hP 0 2 (cA := dA 12) (n := n) (f := fun q => UInt32.ofNat (M.2.2 k q).toNat) rfl rfl g1 hd ?_
  rw [g2]
  exact g
theorem zs_aald (C : zCtx p R s m args meth c base t b D dA zx Ln y) {k n j : Nat} {i : Int} (hT : M.1[k]? = some (15, n)) (hi : 0 ≤ i ∧ i < (n : Int) ∧ i < 2147483648) (hj : zrd M.2.1 k i.toNat = some j) (hd : decode (zbytes y) pc = .ok (.aaload, 1)) (h : zGo p l e R s m args below meth c Q base t b D dA zx Ln n0 s0 y (pc + 1) L (zR j :: st) M) : zGo p l e R s m args below meth c Q base t b D dA zx Ln n0 s0 y pc L (zI i :: zR k :: st) M := by
  intro H locs ls h1 h2 h3 h4 h5 h6
  obtain ⟨hx, hb, hml, hown, hts, hK, hS, hnm, hfr, hlo, hbs⟩ := C
  obtain ⟨hk9, hP⟩ := zH_in h1 hT
  obtain ⟨g1, g2⟩ := z32_in (i := i) (n := n) hi
  have g := h H locs ls h1 h2 h3 h4 h5 h6
  show W p l e R s m args below meth c H locs _ _ Q (F0 m pc ls (.int (Int32.ofInt i) :: .ref (zAD base t b k) :: st.map (zC (zAD base t b))))
  rw [zAD_lo hk9]
  refine va_aldq hx hb hK.1 hP 0 5 (cA := dA 15) (C := "EstateVessels$Tape") (n := n) (f := fun q => (zrd M.2.1 k q).map (zAD base t b)) rfl rfl g1 hd ?_
  rw [g2]
  show W p l e R s m args below meth c H locs _ _ Q (F0 m (pc + 1) ls (va_rf ((zrd M.2.1 k i.toNat).map (zAD base t b)) :: _))
  rw [hj]
  exact g
theorem zrow_i (cA : ClassId) (n : Nat) (Z : zMem) (k j : Nat) (x : Int) : (vp_cell cA (n, .inl (fun q => Int32.ofInt (Z k q)))).setSlot j (.int (Int32.ofInt x)) = vp_cell cA (n, .inl (fun q => Int32.ofInt (zup Z k j x k q))) := by
  rw [vp_cell_i, vp_cell_i, arrV_store]
  congr 1
  funext q
  rw [zup_self]
  unfold updV
  by_cases hq : q = j
  · rw [if_pos hq, if_pos hq]
  · rw [if_neg hq, if_neg hq]
theorem zrow_l (cA : ClassId) (n : Nat) (Z : zMem) (k j : Nat) (x : Int) : (vp_cell cA (n, .inr (.inl (fun q => Int64.ofInt (Z k q))))).setSlot j (.long (Int64.ofInt x)) = vp_cell cA (n, .inr (.inl (fun q => Int64.ofInt (zup Z k j x k q)))) := by
  rw [vp_cell_l, vp_cell_l, arrV_store]
  congr 1
  funext q
  rw [zup_self]
  unfold updV
  by_cases hq : q = j
  · rw [if_pos hq, if_pos hq]
  · rw [if_neg hq, if_neg hq]
theorem zrow_f (cA : ClassId) (n : Nat) (Z : zMem) (k j : Nat) (x : UInt32) : (vp_cell cA (n, .inr (.inr (.inl (fun q => UInt32.ofNat (Z k q).toNat))))).setSlot j (.float x) = vp_cell cA (n, .inr (.inr (.inl (fun q => UInt32.ofNat (zup Z k j x.toNat k q).toNat)))) := by
  rw [vp_cell_f, vp_cell_f, arrV_store]
  congr 1
  funext q
  rw [zup_self]
  unfold updV
  by_cases hq : q = j
  · rw [if_pos hq, if_pos hq, Int.toNat_natCast, UInt32.ofNat_toNat]
  · rw [if_neg hq, if_neg hq]
theorem zrow_q (cA : ClassId) (n : Nat) (R : List (List (Option Nat))) (AD : Nat → Nat) (k j v : Nat) (hj : j < (R.getD k []).length) : (vp_cell cA (n, .inr (.inr (.inr (.inr (fun q => (zrd R k q).map AD)))))).setSlot j (.ref (AD v)) = vp_cell cA (n, .inr (.inr (.inr (.inr (fun q => (zrd (zrw R k j v) k q).map AD))))) := by
  rw [vp_cell_q, vp_cell_q, arrV_store]
  congr 1
  funext q
  rw [zrd_rw hj]
  unfold updV
  by_cases hq : q = j
  · rw [if_pos hq, if_pos hq]; rfl
  · rw [if_neg hq, if_neg hq]
theorem z8_nar {x : Int} (h : -128 ≤ x ∧ x < 128) : narrow .byte (.int (Int32.ofInt x)) = .int (Int32.ofInt x) := by
  rw [narrow_byte, Int32.toInt8_ofInt, ← Int32.ofInt_int8ToInt, Int8.toInt_ofInt_of_le (by omega) (by omega)]
theorem z1_nar {x : Int} (h : x = 0 ∨ x = 1) : narrow .boolean (.int (Int32.ofInt x)) = .int (Int32.ofInt x) ∧ fits .boolean (.int (Int32.ofInt x)) = true := by
  rcases h with rfl | rfl <;> exact ⟨by decide, by decide⟩
theorem zs_iast (C : zCtx p R s m args meth c base t b D dA zx Ln y) {k n : Nat} {i : Int} {x : Int} (hT : M.1[k]? = some (10, n)) (hi : 0 ≤ i ∧ i < (n : Int) ∧ i < 2147483648) (hd : decode (zbytes y) pc = .ok (.iastore, 1)) (h : zGo p l e R s m args below meth c Q base t b D dA zx Ln n0 s0 y (pc + 1) L st (M.1, M.2.1, zup M.2.2 k i.toNat x)) : zGo p l e R s m args below meth c Q base t b D dA zx Ln n0 s0 y pc L (zI x :: zI i :: zR k :: st) M := by
  intro H locs ls h1 h2 h3 h4 h5 h6
  obtain ⟨hx, hb, hml, hown, hts, hK, hS, hnm, hfr, hlo, hbs⟩ := C
  obtain ⟨hk9, hP⟩ := zH_in h1 hT
  obtain ⟨g1, g2⟩ := z32_in (i := i) (n := n) hi
  show W p l e R s m args below meth c H locs _ _ Q (F0 m pc ls (zC (zAD base t b) (zI x) :: .int (Int32.ofInt i) :: .ref (zAD base t b k) :: st.map (zC (zAD base t b))))
  rw [zAD_lo hk9]
  refine W.iast hx hb (hP 0 _ rfl) ((hK.1.2 0 _ rfl).1 n (fun q => .int (Int32.ofInt (M.2.2 k q)))) (fun q => by cases q) (by show ¬ (_ ∨ (arrV _ _ _).slots.size ≤ _); rw [arrV_size]; exact g1) rfl rfl hd fun H' e1 e2 e3 => ?_
  refine h H' _ ls (zH_store h1 hT e2 e3 ?_ (fun j _ i => rfl) zup_ne) (h2.put e2 e3 (by show base ≤ base + k; omega)) h3 h4 h5 h6
  rw [g2] at e1
  exact e1.trans (congrArg some (zrow_i _ _ _ _ _ _))
theorem zs_bast (C : zCtx p R s m args meth c base t b D dA zx Ln y) {k n : Nat} {i : Int} {x : Int} (hT : M.1[k]? = some (13, n)) (hi : 0 ≤ i ∧ i < (n : Int) ∧ i < 2147483648) (hv : -128 ≤ x ∧ x < 128) (hd : decode (zbytes y) pc = .ok (.bastore, 1)) (h : zGo p l e R s m args below meth c Q base t b D dA zx Ln n0 s0 y (pc + 1) L st (M.1, M.2.1, zup M.2.2 k i.toNat x)) : zGo p l e R s m args below meth c Q base t b D dA zx Ln n0 s0 y pc L (zI x :: zI i :: zR k :: st) M := by
  intro H locs ls h1 h2 h3 h4 h5 h6
  obtain ⟨hx, hb, hml, hown, hts, hK, hS, hnm, hfr, hlo, hbs⟩ := C
  obtain ⟨hk9, hP⟩ := zH_in h1 hT
  obtain ⟨g1, g2⟩ := z32_in (i := i) (n := n) hi
  show W p l e R s m args below meth c H locs _ _ Q (F0 m pc ls (zC (zAD base t b) (zI x) :: .int (Int32.ofInt i) :: .ref (zAD base t b k) :: st.map (zC (zAD base t b))))
  rw [zAD_lo hk9]
  refine W.bast hx hb (hP 0 _ rfl) ((hK.1.2 3 _ rfl).1 n (fun q => .int (Int32.ofInt (M.2.2 k q)))) (fun q => by cases q) (by show ¬ (_ ∨ (arrV _ _ _).slots.size ≤ _); rw [arrV_size]; exact g1) rfl rfl hd fun H' e1 e2 e3 => ?_
  refine h H' _ ls (zH_store h1 hT e2 e3 ?_ (fun j _ i => rfl) zup_ne) (h2.put e2 e3 (by show base ≤ base + k; omega)) h3 h4 h5 h6
  rw [g2, z8_nar hv] at e1
  exact e1.trans (congrArg some (zrow_i _ _ _ _ _ _))
theorem zs_zast (C : zCtx p R s m args meth c base t b D dA zx Ln y) {k n : Nat} {i : Int} {x : Int} (hT : M.1[k]? = some (14, n)) (hi : 0 ≤ i ∧ i < (n : Int) ∧ i < 2147483648) (hv : x = 0 ∨ x = 1) (hd : decode (zbytes y) pc = .ok (.bastore, 1)) (h : zGo p l e R s m args below meth c Q base t b D dA zx Ln n0 s0 y (pc + 1) L st (M.1, M.2.1, zup M.2.2 k i.toNat x)) : zGo p l e R s m args below meth c Q base t b D dA zx Ln n0 s0 y pc L (zI x :: zI i :: zR k :: st) M := by
  intro H locs ls h1 h2 h3 h4 h5 h6
  obtain ⟨hx, hb, hml, hown, hts, hK, hS, hnm, hfr, hlo, hbs⟩ := C
  obtain ⟨hk9, hP⟩ := zH_in h1 hT
  obtain ⟨g1, g2⟩ := z32_in (i := i) (n := n) hi
  show W p l e R s m args below meth c H locs _ _ Q (F0 m pc ls (zC (zAD base t b) (zI x) :: .int (Int32.ofInt i) :: .ref (zAD base t b k) :: st.map (zC (zAD base t b))))
  rw [zAD_lo hk9]
  refine W.zast hx hb (hP 0 _ rfl) ((hK.1.2 4 _ rfl).1 n (fun q => .int (Int32.ofInt (M.2.2 k q)))) (fun q => by cases q) (by show ¬ (_ ∨ (arrV _ _ _).slots.size ≤ _); rw [arrV_size]; exact g1) rfl rfl hd fun H' e1 e2 e3 => ?_
  refine h H' _ ls (zH_store h1 hT e2 e3 ?_ (fun j _ i => rfl) zup_ne) (h2.put e2 e3 (by show base ≤ base + k; omega)) h3 h4 h5 h6
  rw [g2, (z1_nar hv).1] at e1
  exact e1.trans (congrArg some (zrow_i _ _ _ _ _ _))
theorem zs_last (C : zCtx p R s m args meth c base t b D dA zx Ln y) {k n : Nat} {i : Int} {x : Int} (hT : M.1[k]? = some (11, n)) (hi : 0 ≤ i ∧ i < (n : Int) ∧ i < 2147483648) (hd : decode (zbytes y) pc = .ok (.lastore, 1)) (h : zGo p l e R s m args below meth c Q base t b D dA zx Ln n0 s0 y (pc + 1) L st (M.1, M.2.1, zup M.2.2 k i.toNat x)) : zGo p l e R s m args below meth c Q base t b D dA zx Ln n0 s0 y pc L (zL x :: zI i :: zR k :: st) M := by
  intro H locs ls h1 h2 h3 h4 h5 h6
  obtain ⟨hx, hb, hml, hown, hts, hK, hS, hnm, hfr, hlo, hbs⟩ := C
  obtain ⟨hk9, hP⟩ := zH_in h1 hT
  obtain ⟨g1, g2⟩ := z32_in (i := i) (n := n) hi
  show W p l e R s m args below meth c H locs _ _ Q (F0 m pc ls (zC (zAD base t b) (zL x) :: .int (Int32.ofInt i) :: .ref (zAD base t b k) :: st.map (zC (zAD base t b))))
  rw [zAD_lo hk9]
  refine W.last hx hb (hP 0 _ rfl) ((hK.1.2 1 _ rfl).1 n (fun q => .long (Int64.ofInt (M.2.2 k q)))) (fun q => by cases q) (by show ¬ (_ ∨ (arrV _ _ _).slots.size ≤ _); rw [arrV_size]; exact g1) rfl rfl hd fun H' e1 e2 e3 => ?_
  refine h H' _ ls (zH_store h1 hT e2 e3 ?_ (fun j _ i => rfl) zup_ne) (h2.put e2 e3 (by show base ≤ base + k; omega)) h3 h4 h5 h6
  rw [g2] at e1
  exact e1.trans (congrArg some (zrow_l _ _ _ _ _ _))
theorem zs_fast (C : zCtx p R s m args meth c base t b D dA zx Ln y) {k n : Nat} {i : Int} {x : UInt32} (hT : M.1[k]? = some (12, n)) (hi : 0 ≤ i ∧ i < (n : Int) ∧ i < 2147483648) (hd : decode (zbytes y) pc = .ok (.fastore, 1)) (h : zGo p l e R s m args below meth c Q base t b D dA zx Ln n0 s0 y (pc + 1) L st (M.1, M.2.1, zup M.2.2 k i.toNat x.toNat)) : zGo p l e R s m args below meth c Q base t b D dA zx Ln n0 s0 y pc L (zF x :: zI i :: zR k :: st) M := by
  intro H locs ls h1 h2 h3 h4 h5 h6
  obtain ⟨hx, hb, hml, hown, hts, hK, hS, hnm, hfr, hlo, hbs⟩ := C
  obtain ⟨hk9, hP⟩ := zH_in h1 hT
  obtain ⟨g1, g2⟩ := z32_in (i := i) (n := n) hi
  show W p l e R s m args below meth c H locs _ _ Q (F0 m pc ls (zC (zAD base t b) (zF x) :: .int (Int32.ofInt i) :: .ref (zAD base t b k) :: st.map (zC (zAD base t b))))
  rw [zAD_lo hk9]
  refine W.fast hx hb (hP 0 _ rfl) ((hK.1.2 2 _ rfl).1 n (fun q => .float (UInt32.ofNat (M.2.2 k q).toNat))) (fun q => by cases q) (by show ¬ (_ ∨ (arrV _ _ _).slots.size ≤ _); rw [arrV_size]; exact g1) rfl rfl hd fun H' e1 e2 e3 => ?_
  refine h H' _ ls (zH_store h1 hT e2 e3 ?_ (fun j _ i => rfl) zup_ne) (h2.put e2 e3 (by show base ≤ base + k; omega)) h3 h4 h5 h6
  rw [g2] at e1
  exact e1.trans (congrArg some (zrow_f _ _ _ _ _ _))
theorem zs_aast (C : zCtx p R s m args meth c base t b D dA zx Ln y) {k n v : Nat} {i : Int} (hT : M.1[k]? = some (15, n)) (hi : 0 ≤ i ∧ i < (n : Int) ∧ i < 2147483648) (hv : M.1[v]? = some (4, 0)) (hl : i.toNat < (M.2.1.getD k []).length) (hd : decode (zbytes y) pc = .ok (.aastore, 1)) (h : zGo p l e R s m args below meth c Q base t b D dA zx Ln n0 s0 y (pc + 1) L st (M.1, zrw M.2.1 k i.toNat v, M.2.2)) : zGo p l e R s m args below meth c Q base t b D dA zx Ln n0 s0 y pc L (zR v :: zI i :: zR k :: st) M := by
  intro H locs ls h1 h2 h3 h4 h5 h6
  obtain ⟨hx, hb, hml, hown, hts, hK, hS, hnm, hfr, hlo, hbs⟩ := C
  obtain ⟨hk9, hP⟩ := zH_in h1 hT
  obtain ⟨hv9, hPv⟩ := zH_in h1 hv
  obtain ⟨g1, g2⟩ := z32_in (i := i) (n := n) hi
  have hlt : (Int32.ofInt i).toNatClampNeg < n := Nat.not_le.mp fun q => g1 (Or.inr q)
  have h0 : ¬ Int32.ofInt i < 0 := fun q => g1 (Or.inl q)
  show W p l e R s m args below meth c H locs _ _ Q (F0 m pc ls (.ref (zAD base t b v) :: .int (Int32.ofInt i) :: .ref (zAD base t b k) :: st.map (zC (zAD base t b))))
  rw [zAD_lo hk9, zAD_lo hv9]
  obtain ⟨r', hr', cellV, q1, q2, q3, -⟩ := (show va_at D zcl (base + v, .inr (4, zflds (zAD base t b) 4 M.2.1 M.2.2 v)) H from hPv 0 _ rfl)
  have hcls := (hK.1.1 4 _ (zcl_at 4 (by omega))).2
  obtain ⟨kA, comp, k1, k2, k3, -⟩ := (hK.1.2 5 _ rfl).2
  have hcomp : comp = D.1 4 := Option.some.inj (k3.symm.trans hcls.1)
  subst hcomp
  obtain ⟨kC, hkC, -⟩ := id hcls.2
  refine W.aast hx hb (hP 0 _ rfl) (fun q h => by cases h) (fun h => by cases h) k1 k2 rfl hkC ⟨h0, by show _ < (arrV _ _ _).slots.size; rw [arrV_size]; exact hlt⟩ q1 (fun q h => by rw [q3] at h; cases h) (by rw [q2]; exact hkC) (by rw [q2]; exact va_assign hcls) rfl rfl hd fun H' e1 e2 e3 => ?_
  refine h H' _ ls (zH_store h1 hT e2 e3 ?_ (fun j hj i => zrd_set_ne hj i) (fun j _ i => rfl)) (h2.put e2 e3 (by show base ≤ base + k; omega)) h3 h4 h5 h6
  rw [g2, ← zAD_lo (base := base) (t := t) (b := b) hv9] at e1
  exact e1.trans (congrArg some (zrow_q _ _ _ _ _ _ _ hl))
theorem zclr_ne {Z : zMem} {k : Nat} : ∀ j, j ≠ k → ∀ x, zclr Z k j x = Z j x := by
  intro j h x
  unfold zclr
  rw [if_neg h]
theorem zclr_self (Z : zMem) (k x : Nat) : zclr Z k k x = 0 := by
  unfold zclr
  rw [if_pos rfl]
theorem zrd_app {R : List (List (Option Nat))} {r : List (Option Nat)} {j : Nat} (h : j < R.length) (i : Nat) : zrd (R ++ [r]) j i = zrd R j i := by
  unfold zrd
  simp only [List.getD_eq_getElem?_getD]
  rw [List.getElem?_append_left h]
theorem zrd_new {R : List (List (Option Nat))} {n : Nat} (i : Nat) : zrd (R ++ [List.replicate n none]) R.length i = none := by
  unfold zrd
  have e : (R ++ [List.replicate n none]).getD R.length [] = List.replicate n none := by simp [List.getD_eq_getElem?_getD]
  rw [e, List.getD_eq_getElem?_getD, List.getElem?_replicate]
  split <;> rfl
theorem zrd_new0 {R : List (List (Option Nat))} (i : Nat) : zrd (R ++ [[]]) R.length i = none := zrd_new (n := 0) i
theorem zslots_app (T : List (Nat × Nat)) (d : Nat × Nat) : zslots (T ++ [d]) = zslots T + zdsl d := by
  unfold zslots
  rw [List.map_append, List.sum_append]
  simp
theorem zH_push {base t b : Nat} {D : va_G} {dA : Nat → ClassId} {zx : Nat → Int} {Ln : Nat} {M : zM} {H H' : Heap} (h : zH base t b D dA zx Ln M H) (hl : M.1.length < 900 ∧ M.2.1.length = M.1.length) {d : Nat × Nat} {r : List (Option Nat)}
    (hz : H'.size = H.size + 1) (ho : ∀ q, q < H.size → H'[q]? = H[q]?) (hn : va_at D zcl (base + M.1.length, zel (zAD base t b) dA d M.1.length (M.2.1 ++ [r]) (zclr M.2.2 M.1.length)) H') : zH base t b D dA zx Ln (M.1 ++ [d], M.2.1 ++ [r], zclr M.2.2 M.1.length) H' := by
  obtain ⟨h1, h2, h3, h4, h5⟩ := h
  refine ⟨by rw [hz, h1, List.length_append]; rfl, by rw [List.length_append]; exact hl.1, fun j d' hj => ?_, fun j => ?_, ?_⟩
  · by_cases e : j < M.1.length
    · have e1 : M.1[j]? = some d' := by
        have hj' : (M.1 ++ [d])[j]? = some d' := hj
        rwa [List.getElem?_append_left e] at hj'
      show va_at D zcl (base + j, zel (zAD base t b) dA d' j (M.2.1 ++ [r]) (zclr M.2.2 M.1.length)) H'
      rw [zel_congr (zrd_app (by omega)) (zclr_ne j (by omega))]
      exact (h3 j d' e1).kept (ho _ (by show base + j < H.size; omega))
    · have hj' : (M.1 ++ [d])[j]? = some d' := hj
      rw [List.getElem?_append_right (by omega)] at hj'
      have hz' : j - M.1.length < 1 := (List.getElem?_eq_some_iff.mp hj').1
      have e2 : j = M.1.length := by omega
      subst e2
      rw [Nat.sub_self] at hj'
      cases hj'
      exact hn
  · show zclr M.2.2 M.1.length 1001 j = zx j
    rw [zclr_ne 1001 (by omega)]; exact h4 j
  · show zclr M.2.2 M.1.length 1002 0 = (Ln : Int)
    rw [zclr_ne 1002 (by omega)]; exact h5
theorem zH_grow {base : Nat} {H0 H H' : Heap} {locs : List Loc} (h : va_S (fun q => base ≤ q) H0 H locs) (hz : H'.size = H.size + 1) (ho : ∀ q, q < H.size → H'[q]? = H[q]?) : va_S (fun q => base ≤ q) H0 H' locs :=
  ⟨Nat.le_trans h.1 (by omega), fun x g1 g2 => (ho x (Nat.lt_of_lt_of_le g1 h.1)).trans (h.2.1 x g1 g2), h.2.2⟩
theorem zs_new (C : zCtx p R s m args meth c base t b D dA zx Ln y) {i a : Nat} (ha : a < 9) (hl : M.1.length < 900 ∧ M.2.1.length = M.1.length) (hc1 : n0 ≤ M.1.length) (hc2 : s0 ≤ zslots M.1) (hcells : M.1.length - n0 + 1 ≤ R.cells) (hslots : zslots M.1 - s0 + (zcls a).2.2 ≤ R.slots)
    (w1 : Cond.classLink (zname y).cls i (zcls a).1 ∈ zall) (w2 : Cond.instantiable (zcls a).1 (zcls a).2.2 ∈ zall) (w3 : Cond.initialized (zcls a).1 ∈ zall) (hd : decode (zbytes y) pc = .ok (.new i, 3)) (h : zGo p l e R s m args below meth c Q base t b D dA zx Ln n0 s0 y (pc + 3) L (zR M.1.length :: st) (M.1 ++ [(a, 0)], M.2.1 ++ [List.replicate (zcls a).2.2 none], zclr M.2.2 M.1.length)) : zGo p l e R s m args below meth c Q base t b D dA zx Ln n0 s0 y pc L st M := by
  intro H locs ls h1 h2 h3 h4 h5 h6
  obtain ⟨hx, hb, hml, hown, hts, hK, hS, hnm, hfr, hlo, hbs⟩ := C
  have hKn := hK.1.1 a _ (zcl_at a ha)
  refine W.newcK hx hb hown (hts _ w1) (hts _ w2) (hts _ w3) rfl hd hcells hslots hKn.2.1 rfl fun H1 kC hkC e1 z1 o1 => ?_
  have hsz : H.size = base + M.1.length := h1.1
  have g := h H1 locs ls (zH_push h1 hl z1 o1 ?_) (zH_grow h2 z1 o1) h3 h4 (by rw [List.length_append]; exact Nat.le_trans h5 (Nat.le_add_right _ _)) (by rw [zslots_app]; exact Nat.le_trans h6 (Nat.le_add_right _ _))
  · rw [List.length_append, zslots_app, show zdsl (a, 0) = (zcls a).2.2 from if_pos (by show a < 10; omega), show ([(a, 0)] : List (Nat × Nat)).length = 1 from rfl, show M.1.length + 1 - n0 = M.1.length - n0 + 1 by omega, show zslots M.1 + (zcls a).2.2 - s0 = zslots M.1 - s0 + (zcls a).2.2 by omega] at g
    show W p l e R s m args below meth c H1 locs _ _ Q (F0 m (pc + 3) ls (.ref H.size :: st.map (zC (zAD base t b))))
    rw [hsz, ← zAD_lo (base := base) (t := t) (b := b) hl.1]
    exact g
  · rw [zel_obj ha]
    rw [hsz] at e1
    refine ⟨_, zcl_at a ha, (u_born (zfty a) hts (zcl_in ha) hKn hkC e1 (fun j hj => zfty_ok ha hj)).to (fun j hj => ?_)⟩
    unfold vp_V
    rw [List.getD_eq_getElem?_getD, zflds_at hj, Option.getD_some]
    have q := zfty_kd ha hj
    unfold zval
    rw [zclr_self, ← hl.2, zrd_new]
    revert q
    split
    · intro q; rename_i h0; rw [h0, of_decide_eq_true q]; rfl
    · intro q; rename_i h0; rw [h0, of_decide_eq_true q]; rfl
    · intro q; rename_i h0; rw [h0, of_decide_eq_true q]; rfl
    · intro q; rename_i h0; rw [h0, of_decide_eq_true q]; rfl
    · intro q
      rename_i h0
      rw [h0]
      revert q
      split
      · intro q2; rename_i h9; rw [h9]; rfl
      · intro q2; rename_i h9; rw [h9]; rfl
      · intro q; cases q
    · intro q; cases q
theorem zs_newarray (C : zCtx p R s m args meth c base t b D dA zx Ln y) {at0 : ArrayType} {n : Int} (hk : (at0 = .int ∨ at0 = .long ∨ at0 = .float) ∨ at0 = .byte ∨ at0 = .boolean) (hl : M.1.length < 900 ∧ M.2.1.length = M.1.length) (hn : 0 ≤ n ∧ n ≤ 1000) (hc1 : n0 ≤ M.1.length) (hc2 : s0 ≤ zslots M.1) (hcells : M.1.length - n0 + 1 ≤ R.cells) (hslots : zslots M.1 - s0 + n.toNat ≤ R.slots)
    (w1 : Cond.arrayClass (zkt (zkd at0)) ∈ zall) (hd : decode (zbytes y) pc = .ok (.newarray at0, 2)) (h : zGo p l e R s m args below meth c Q base t b D dA zx Ln n0 s0 y (pc + 2) L (zR M.1.length :: st) (M.1 ++ [(zkd at0, n.toNat)], M.2.1 ++ [[]], zclr M.2.2 M.1.length)) : zGo p l e R s m args below meth c Q base t b D dA zx Ln n0 s0 y pc L (zI n :: st) M := by
  intro H locs ls h1 h2 h3 h4 h5 h6
  obtain ⟨hx, hb, hml, hown, hts, hK, hS, hnm, hfr, hlo, hbs⟩ := C
  have hty : newarray.typeOf at0 = zkt (zkd at0) := by rcases hk with (rfl | rfl | rfl) | rfl | rfl <;> rfl
  have hkd : ¬ zkd at0 < 10 := by rcases hk with (rfl | rfl | rfl) | rfl | rfl <;> decide
  have hq : ∃ q : Nat, (zty dA)[q]? = some (dA (zkd at0), zkt (zkd at0)) := by
    rcases hk with (rfl | rfl | rfl) | rfl | rfl
    · exact ⟨0, rfl⟩
    · exact ⟨1, rfl⟩
    · exact ⟨2, rfl⟩
    · exact ⟨3, rfl⟩
    · exact ⟨4, rfl⟩
  obtain ⟨q, hq⟩ := hq
  have hN : (Int32.ofInt n).toNatClampNeg = n.toNat := Int32.toNatClampNeg_ofInt_of_le (by omega) (by omega)
  have hby : n.toNat * componentBytes (newarray.typeOf at0) ≤ 536870912 := by
    have : componentBytes (newarray.typeOf at0) ≤ 8 := by rcases hk with (rfl | rfl | rfl) | rfl | rfl <;> decide
    exact Nat.le_trans (Nat.mul_le_mul (show n.toNat ≤ 1000 by omega) this) (by decide)
  refine va_newaK hx hb (by rw [hty]; exact hts _ w1) rfl hd rfl (by rw [z32_0, z32_lt (by omega) (by omega)]; omega) hN hby hcells hslots rfl fun H1 cA e1 z1 o1 hAr hNm => ?_
  have hsz : H.size = base + M.1.length := h1.1
  have hcA : cA = dA (zkd at0) := by
    have g := (hK.1.2 q _ hq).2
    rw [← hty] at g
    have g2 : s.vm.findClass ("[" ++ (newarray.typeOf at0).toString) = some (dA (zkd at0)) := by
      revert g
      rcases hk with (rfl | rfl | rfl) | rfl | rfl <;> exact id
    exact Option.some.inj (hNm.symm.trans g2)
  subst hcA
  have g := h H1 locs ls (zH_push h1 hl z1 o1 ?_) (zH_grow h2 z1 o1) h3 h4 (by rw [List.length_append]; exact Nat.le_trans h5 (Nat.le_add_right _ _)) (by rw [zslots_app]; exact Nat.le_trans h6 (Nat.le_add_right _ _))
  · rw [List.length_append, zslots_app, show zdsl (zkd at0, n.toNat) = n.toNat from if_neg hkd, show ([(zkd at0, n.toNat)] : List (Nat × Nat)).length = 1 from rfl, show M.1.length + 1 - n0 = M.1.length - n0 + 1 by omega, show zslots M.1 + n.toNat - s0 = zslots M.1 - s0 + n.toNat by omega] at g
    show W p l e R s m args below meth c H1 locs _ _ Q (F0 m (pc + 2) ls (.ref H.size :: st.map (zC (zAD base t b))))
    rw [hsz, ← zAD_lo (base := base) (t := t) (b := b) hl.1]
    exact g
  · rw [hsz] at e1
    unfold zel
    rw [if_neg hkd]
    refine e1.trans (congrArg some ?_)
    unfold zrow
    simp only [zclr_self, ← hl.2, zrd_new0]
    rcases hk with (rfl | rfl | rfl) | rfl | rfl <;> rfl
theorem zs_anewarray (C : zCtx p R s m args meth c base t b D dA zx Ln y) {i : Nat} {n : Int} (hl : M.1.length < 900 ∧ M.2.1.length = M.1.length) (hn : 0 ≤ n ∧ n ≤ 1000) (hc1 : n0 ≤ M.1.length) (hc2 : s0 ≤ zslots M.1) (hcells : M.1.length - n0 + 1 ≤ R.cells) (hslots : zslots M.1 - s0 + n.toNat ≤ R.slots)
    (w1 : Cond.classLink (zname y).cls i "EstateVessels$Tape" ∈ zall) (hd : decode (zbytes y) pc = .ok (.anewarray i, 3)) (h : zGo p l e R s m args below meth c Q base t b D dA zx Ln n0 s0 y (pc + 3) L (zR M.1.length :: st) (M.1 ++ [(15, n.toNat)], M.2.1 ++ [List.replicate n.toNat none], zclr M.2.2 M.1.length)) : zGo p l e R s m args below meth c Q base t b D dA zx Ln n0 s0 y pc L (zI n :: st) M := by
  intro H locs ls h1 h2 h3 h4 h5 h6
  obtain ⟨hx, hb, hml, hown, hts, hK, hS, hnm, hfr, hlo, hbs⟩ := C
  have hN : (Int32.ofInt n).toNatClampNeg = n.toNat := Int32.toNatClampNeg_ofInt_of_le (by omega) (by omega)
  refine W.anew hx hb hown (hts _ w1) (va_AO.use hK.2.2) rfl hd rfl (by rw [z32_0, z32_lt (by omega) (by omega)]; omega) (by rw [hN]; omega) hcells (by rw [hN]; exact hslots) fun cA kA comp f1 f2 f3 f4 => ?_
  rw [hN]
  generalize hH1 : H.push ({ cls := cA, slots := Array.replicate n.toNat .null, vm := .none } : Cell) = H1
  have z1 : H1.size = H.size + 1 := by rw [← hH1, Array.size_push]
  have e1 : H1[H.size]? = some (arrV cA n.toNat (fun _ => .null)) := by rw [← hH1, Array.getElem?_push_size, ← arrV_new]
  have o1 : ∀ q : Nat, q < H.size → H1[q]? = H[q]? := fun q hq => by rw [← hH1, Array.getElem?_push, if_neg (Nat.ne_of_lt hq)]
  have hsz : H.size = base + M.1.length := h1.1
  have hcA : cA = dA 15 := by
    obtain ⟨kA', comp', g1, g2, g3, g4⟩ := (hK.1.2 5 _ rfl).2
    exact Option.some.inj (f1.symm.trans g4)
  subst hcA
  have g := h H1 locs ls (zH_push h1 hl z1 o1 ?_) (zH_grow h2 z1 o1) h3 h4 (by rw [List.length_append]; exact Nat.le_trans h5 (Nat.le_add_right _ _)) (by rw [zslots_app]; exact Nat.le_trans h6 (Nat.le_add_right _ _))
  · rw [List.length_append, zslots_app, show zdsl (15, n.toNat) = n.toNat from rfl, show ([(15, n.toNat)] : List (Nat × Nat)).length = 1 from rfl, show M.1.length + 1 - n0 = M.1.length - n0 + 1 by omega, show zslots M.1 + n.toNat - s0 = zslots M.1 - s0 + n.toNat by omega] at g
    show W p l e R s m args below meth c H1 locs _ _ Q (F0 m (pc + 3) ls (.ref H.size :: st.map (zC (zAD base t b))))
    rw [hsz, ← zAD_lo (base := base) (t := t) (b := b) hl.1]
    exact g
  · rw [hsz] at e1
    refine e1.trans (congrArg some ?_)
    show arrV (dA 15) n.toNat _ = vp_cell (dA 15) (n.toNat, .inr (.inr (.inr (.inr (fun i => (zrd (M.2.1 ++ [List.replicate n.toNat none]) M.1.length i).map (zAD base t b))))))
    simp only [← hl.2, zrd_new]
    rfl
end ZMEM
end
section
/-! calls that the machine answers itself: two of java.lang.Math's, run by an entry of the table of natives though they have code -/
theorem zn_steps (p : Program) {e : Env} {below : List Frame} {s target : State} {g : JFrame} {c : Code} {m0 : MethodId} (hA : At s m0 c below) (hg0 : g.method = m0)
    {m : MethodId} {meth : Method} {k : Class} {cm : Code} {av : Array Value} {x : UInt64} {ml n : Nat} {row : NativeRow} (acts : List Action)
    (hk : s.vm.classes[m.cls]? = some k) (hx : k.methods[m.idx]? = some meth) (hboot : k.loader = none) (hkn : overriddenIn.contains k.name = true)
    (hrow : NativeRow.find? p.tables.natives k.name meth.name meth.desc = some row) (hst : meth.isStatic = true) (hn : meth.sig.parameters.length = n)
    (hc : meth.code = some cm) (hml : cm.maxLocals = ml) (hl : meth.locks = false) (hroom : (s.calling g m av).hasRoom e.platform {} = true)
    (hgiven : ∀ f : Slot → Option Value, (∀ v, f (.val v) = some v) → f .unset = none → f .second = none → ((entryFrame m av ml).locals.toList.filterMap f).toArray.extract 0 n = av)
    (hrun : ∀ S : State, ∃ acts, (row.sem av).run e S = .ok (some (.double x)) S acts)
    {ig : Instr} {len : Nat} (hdg : decode c.code g.pc = .ok (ig, len))
    (hrest : Steps p.tables e below (s.setTop { g with pc := g.pc + len, stack := .double x :: g.stack }) target) :
    Steps p.tables e below (doInvoke e (s.setTop g) acts m av).1 target := by
  obtain ⟨g₀, hg⟩ := Option.isSome_iff_exists.mp hA.top
  obtain ⟨r, hr⟩ := State.topJava?_eq_some.mp hg
  obtain ⟨mid, hmid⟩ := hA.above
  have hcur : s.cur < s.threads.size := State.cur_lt_of_frames hr
  have hm : s.vm.method? m = some meth := by simp [Vm.method?, hk, hx]
  have htop : s.setTop g = s.setFrames (.java g :: r) := State.setTop_of_frames _ hr
  have htail : s.frames.tail = r := by rw [hr]; rfl
  have hfull : e.platform.stackFull (s.setTop g).me (s.setTop g).frames cm.maxLocals = false := by
    have hfc := State.frames_calling hA.top g m av
    obtain ⟨-, r2, -, r4⟩ := State.hasRoom_stack hroom
    rw [State.localsInUse_invoking hfc (meth := meth) (c := cm) hm hc] at r4
    rw [hfc, htail] at r2
    rw [htail] at r4
    have hw := stackUse_le_stackWeight (.java g :: r)
    rw [State.calling_eq hA.top, State.stackLimits_setFrames] at r2 r4
    rw [htop, State.frames_setFrames _ hcur]
    refine Platform.stackFull_eq_false (by rw [State.stackLimits_setFrames]; simp only [List.length_cons] at r2 ⊢; have : ({} : Room).frames = 0 := rfl; omega) (by rw [State.stackLimits_setFrames]; have : ({} : Room).locals = 0 := rfl; omega)
  rw [(doInvoke_java (s := s.setTop g) (e := e) (acts := acts) (args := av) (meth := meth) (code := cm) hm hc hl hfull).1, hml]
  have hU : (s.setTop g).pushFrame (.java { method := m, pc := 0, locals := argsToLocals av ml, stack := [], locked := none }) = s.setFrames (.java (entryFrame m av ml) :: .java g :: r) := by
    rw [State.pushFrame, State.frames_setTop _ hr, htop, State.setFrames_setFrames]
    rfl
  rw [hU]
  have hf1 : (s.setFrames (.java (entryFrame m av ml) :: .java g :: r)).frames = .java (entryFrame m av ml) :: .java g :: r := State.frames_setFrames _ hcur
  have hov : overridden p.tables e (s.setFrames (.java (entryFrame m av ml) :: .java g :: r)) (entryFrame m av ml) = some row := by
    unfold overridden
    have h1 : s.vm.classes[(entryFrame m av ml).method.cls]? = some k := hk
    have h2 : k.methods[(entryFrame m av ml).method.idx]? = some meth := hx
    have h0 : (entryFrame m av ml).pc = 0 := rfl
    have hkn' : k.name ∈ overriddenIn := by simpa using hkn
    simp [h0, h1, h2, hkn', hboot, hrow]
  have hb2 : argCount (s.setFrames (.java (entryFrame m av ml) :: .java g :: r)) m = n := by
    unfold argCount
    have h1 : (s.setFrames (.java (entryFrame m av ml) :: .java g :: r)).vm.classes[m.cls]? = some k := hk
    rw [h1]
    simp [hx, hn, hst]
  obtain ⟨acts₂, hr2⟩ := hrun (s.setFrames (.native { method := m, args := av, locked := none } :: .java g :: r))
  have hcode : ∀ F : List Frame, (s.setFrames F).code? g.method = some c := by
    intro F
    have h := hA.code
    rw [← hg0] at h
    rw [State.code?_eq] at h ⊢
    simpa [State.setFrames] using h
  have hfs : handOver (s.setFrames (.native { method := m, args := av, locked := none } :: .java g :: r)) (some (.double x)) (.java g :: r)
      = some (.java { g with pc := g.pc + len, stack := .double x :: g.stack } :: r) := by
    simp [handOver, hcode, hdg, Except.toOption]
  have hstep2 : (stepThread p.tables e (s.setFrames (.java (entryFrame m av ml) :: .java g :: r))).1 = s.setTop { g with pc := g.pc + len, stack := .double x :: g.stack } := by
    unfold stepThread
    simp only [hf1, hov]
    have hm2 : (entryFrame m av ml).method = m := rfl
    have hk2 : (entryFrame m av ml).locked = none := rfl
    rw [hm2, hk2, hb2, hgiven _ (fun _ => rfl) rfl rfl, State.setFrames_setFrames]
    simp only [hr2, afterNative]
    rw [doReturn_native (f := { method := m, args := av, locked := none }) (below := .java g :: r) (State.frames_setFrames _ hcur) rfl hfs, State.setFrames_setFrames, ← State.setTop_of_frames _ hr]
  refine Steps.head ⟨hA.running, by simpa using hA.runnable, by simpa using hA.alone⟩ ⟨.java (entryFrame m av ml) :: .java g :: mid, by rw [hf1]; rw [hr] at hmid; simp at hmid; simp [hmid], by simp, by simp⟩ ?_
  rw [hstep2]
  exact hrest
theorem zn_back {l : Launch} {R : Room} {p : Program} {e : Env} {below : List Frame} {s : State} {sargs : Array Value} {len W : Nat} {y : MethodName} {bytes : ByteArray} {ml n : Nat} {ret : Option FieldType} {av : Array Value} {x : UInt64} {row : NativeRow}
    (hcode : (Cond.code y bytes ml ret).before sargs s = true) (hstat : (Cond.static y).before sargs s = true) (hov : overriddenIn.contains y.cls = true) (hrow : NativeRow.find? p.tables.natives y.cls y.name y.desc = some row)
    (hn : (parseMethodDescriptor y.desc).map (fun d => d.parameters.length) = some n) (hgiven : ∀ (m : MethodId) (f : Slot → Option Value), (∀ v, f (.val v) = some v) → f .unset = none → f .second = none → ((entryFrame m av ml).locals.toList.filterMap f).toArray.extract 0 n = av)
    (hrun : ∀ S : State, ∃ acts, (row.sem av).run e S = .ok (some (.double x)) S acts) (hfr : 1 ≤ R.frames) (hlo : W + (ml + 11) ≤ R.locals) :
    Back l R p e below s sargs y len W (fun A a' => A.cells ≤ R.cells ∧ A.slots ≤ R.slots ∧ a' = av) (fun A _ v B => v = some (.double x) ∧ B = A) := by
  intro m meth c A g ig mk a' X hg hsize hdg hW hnamed ⟨hc, hs, ha'⟩
  subst ha'
  have hcodeU : (Cond.code y bytes ml ret).before sargs A.U = true := Cond.tabsOnly_warm (args' := sargs) (T := A.U) X.warmed _ rfl hcode
  have hstatU : (Cond.static y).before sargs A.U = true := Cond.tabsOnly_warm (args' := sargs) (T := A.U) X.warmed _ rfl hstat
  obtain ⟨methM, cM, hmethM, hcodeM', -, hlocalsM, -, hlocksM, -, hsigM⟩ := Cond.code_spec hnamed hcodeU
  have hstM : methM.isStatic = true := Cond.static_spec hnamed hmethM hstatU
  obtain ⟨kP, hkP, hkname⟩ := className_of_methodNamed hnamed
  obtain ⟨hmnM, hmdM⟩ := name_of_methodNamed hnamed hmethM
  have hxP : kP.methods[mk.idx]? = some methM := by simpa [Vm.method?, hkP] using hmethM
  have hbootP : kP.loader = none := Vm.bootOf_findClass (findClass_of_methodNamed hnamed) hkP
  have hpar : methM.sig.parameters.length = n := by
    rw [hsigM] at hn
    exact Option.some.inj hn
  refine ⟨some (.double x), A, X, ⟨rfl, rfl⟩, ?_⟩
  exact zn_steps p X.here hg [] hkP hxP hbootP (by rw [hkname]; exact hov) (by rw [hkname, hmnM, hmdM]; exact hrow) hstM hpar hcodeM' hlocalsM hlocksM
    (X.room_calling hsize hmethM hcodeM' (R' := {}) (by show 0 + 1 ≤ R.frames; omega) (by rw [hlocalsM]; show _ + (ml + 11) + 0 ≤ R.locals; omega) (by show A.cells + 0 ≤ R.cells; omega) (by show A.slots + 0 ≤ R.slots; omega)) (hgiven mk) hrun hdg (Steps.refl _)
def zn_absRow : NativeRow := (NativeRow.find? Native.java_lang_Math.nans.rows "java/lang/Math" "abs" "(D)D").get (by decide +kernel)
def zn_maxRow : NativeRow := (NativeRow.find? Native.java_lang_Math.nans.rows "java/lang/Math" "max" "(DD)D").get (by decide +kernel)
set_option maxRecDepth 100000 in
theorem zn_absFind (p : Program) : NativeRow.find? p.tables.natives "java/lang/Math" "abs" "(D)D" = some zn_absRow := by
  cases p <;> rfl
set_option maxRecDepth 100000 in
theorem zn_maxFind (p : Program) : NativeRow.find? p.tables.natives "java/lang/Math" "max" "(DD)D" = some zn_maxRow := by
  cases p <;> rfl
theorem zn_ok {r : NativeRow} {av : Array Value} {v : Value} {e : Env} {S : State} (hw : wpRun (r.sem av) (fun w s₂ _ => w = some v ∧ s₂ = S) (fun _ _ _ => False) e S) : ∃ acts, (r.sem av).run e S = .ok (some v) S acts := by
  have hw' := (wpRun_iff_run _ _ _ _ _).mp hw
  cases hr : (r.sem av).run e S with
  | ok w s₂ a₂ => rw [hr] at hw'; obtain ⟨rfl, rfl⟩ := hw'; exact ⟨_, rfl⟩
  | ctl w s₂ a₂ => rw [hr] at hw'; cases w <;> exact hw'.elim
theorem zn_absRun {a : UInt64} (ha : a &&& 0x7fffffffffffffff ≤ 0x7ff0000000000000) (e : Env) (S : State) : ∃ acts, (zn_absRow.sem #[.double a]).run e S = .ok (some (.double (a &&& 0x7fffffffffffffff))) S acts := by
  have hs : zn_absRow.sem #[.double a] = (do
      let r ← anyNaN64 (a &&& 0x7fffffffffffffff)
      mark "nat.java_lang_Math.abs"
      Pure.pure (some (.double r))) := rfl
  have hn : (a &&& 0x7fffffffffffffff) &&& 0x7fffffffffffffff ≤ 0x7ff0000000000000 := by rw [UInt64.and_assoc, UInt64.and_self]; exact ha
  refine zn_ok ?_
  rw [hs]
  simp [jvm, wpRun, anyNaN64, hn]
theorem zn_and {a : UInt64} : (a &&& 0x7fffffffffffffff).toNat = a.toNat % 2 ^ 63 := by
  rw [UInt64.toNat_and]
  exact Nat.and_two_pow_sub_one_eq_mod a.toNat 63
theorem zn_notNaN {a : UInt64} (ha : a &&& 0x7fffffffffffffff ≤ 0x7ff0000000000000) : FP.dIsNaN a = false := by
  have h1 : a.toNat % 2 ^ 63 ≤ 0x7ff0000000000000 := by
    rw [← zn_and]
    exact UInt64.le_iff_toNat_le.mp ha
  show decide (FP.Core.decode FP.Core.b64 a.toNat = .nan) = false
  rw [decide_eq_false_iff_not]
  intro h
  unfold FP.Core.decode at h
  split at h
  · rename_i he
    split at h
    · cases h
    · rename_i ht
      have e1 : FP.Core.fieldE FP.Core.b64 a.toNat = a.toNat / 2 ^ 52 % 2 ^ 11 := rfl
      have e2 : FP.Core.fieldT FP.Core.b64 a.toNat = a.toNat % 2 ^ 52 := rfl
      have e3 : FP.Core.b64.exps - 1 = 2047 := by decide
      rw [e1, e3] at he
      rw [e2] at ht
      omega
  · split at h <;> cases h
theorem zn_maxRun {a b : UInt64} (ha : a &&& 0x7fffffffffffffff ≤ 0x7ff0000000000000) (hb : b &&& 0x7fffffffffffffff ≤ 0x7ff0000000000000) (e : Env) (S : State) : ∃ acts, (zn_maxRow.sem #[.double a, .double b]).run e S = .ok (some (.double (Native.java_lang_Math.nans.pick64 true a b))) S acts := by
  have hs : zn_maxRow.sem #[.double a, .double b] = (do
      let r ← if FP.dIsNaN a then anyNaN64 a else if FP.dIsNaN b then anyNaN64 b else Pure.pure (Native.java_lang_Math.nans.pick64 true a b)
      mark "nat.java_lang_Math.max"
      Pure.pure (some (.double r))) := rfl
  refine zn_ok ?_
  rw [hs, zn_notNaN ha, zn_notNaN hb]
  simp [jvm, wpRun]
theorem zn_call {p : Program} {l : Launch} {e : Env} {R : Room} {s : State} {m : MethodId} {args : Array Value} {below : List Frame} {meth : Method} {c : Code} {H : Heap} {locs : List Loc} {cells slots : Nat} {Q : State → Prop} {pc : Nat} {ls : Array Slot} {rest : List Value} {cc : ByteArray}
    {own : String} {index : Nat} {y : MethodName} {bytes : ByteArray} {ml n : Nat} {ret : Option FieldType} {As : List Value} {x : UInt64} {row : NativeRow} (hx : p.tables.exec = Jvm.exec) (hb : c.code = cc) (hml : c.maxLocals = ls.size) (hown : s.vm.findClass own = some m.cls)
    (hl : (Cond.methodLink own index y).before args s = true) (hst : (Cond.static y).before args s = true) (hini : (Cond.initialized y.cls).before args s = true) (hcode : (Cond.code y bytes ml ret).before args s = true) (hy : y.cls ≠ "java/lang/invoke/MethodHandle" ∧ y.cls ≠ "java/lang/invoke/VarHandle")
    (hov : overriddenIn.contains y.cls = true) (hrow : NativeRow.find? p.tables.natives y.cls y.name y.desc = some row) (hn : (parseMethodDescriptor y.desc).map (fun d => d.parameters.length) = some n) (hAs : As.length = n)
    (hgiven : ∀ (m : MethodId) (f : Slot → Option Value), (∀ v, f (.val v) = some v) → f .unset = none → f .second = none → ((entryFrame m As.toArray ml).locals.toList.filterMap f).toArray.extract 0 n = As.toArray) (hrun : ∀ S : State, ∃ acts, (row.sem As.toArray).run e S = .ok (some (.double x)) S acts)
    (hfr : 1 ≤ R.frames) (hlo : 8 + (ml + 11) ≤ R.locals) (hW : (rest.map fun v => v.category).sum ≤ 8) (hf : cells ≤ R.cells ∧ slots ≤ R.slots) (hdg : decode cc pc = .ok (.invokestatic index, 3))
    (kk : W p l e R s m args below meth c H locs cells slots Q (F0 m (pc + 3) ls (.double x :: rest))) : W p l e R s m args below meth c H locs cells slots Q (F0 m pc ls (As.reverse ++ rest)) := by
  intro T hT X
  obtain ⟨v, vm₁, B, hW₁, X', ⟨e1, e2⟩, st⟩ := callS X hx (bytes := bytes) (maxL := ml) (ret := ret) hown hl hst hini hcode hy (zn_back (len := 3) (W := 8) hcode hst hov hrow hn hgiven hrun hfr hlo) (g := F0 m pc ls (As.reverse ++ rest)) rfl (by rw [hml]) (argsL := As) (rest := rest)
    (fun sig h => by rw [h] at hn; exact hAs.trans (Option.some.inj hn).symm) rfl (by show 2 * 0 + _ ≤ _; omega) (by rw [hb]; exact hdg) (fun vm₁ hW₁ => ⟨hf.1, hf.2, rfl⟩)
  subst e2
  cases e1
  obtain ⟨t, a1, b1⟩ := kk (T.setVm vm₁) hT X'
  exact ⟨t, st t a1, b1⟩
end
section
section ZNAT
variable {p : Program} {l : Launch} {e : Env} {R : Room} {s : State} {m : MethodId} {args : Array Value} {below : List Frame} {meth : Method} {c : Code} {Q : State → Prop} {base t b : Nat} {D : va_G} {dA : Nat → ClassId} {zx : Nat → Int} {Ln n0 s0 y : Nat} {pc : Nat} {L : zLs} {st : List zAV} {M : zM}
theorem zw_obj1 : Cond.instanceMethod objectInit ∈ zall := zw_in (p := 73) (by decide +kernel)
theorem zw_obj2 : Cond.code objectInit ⟨#[0xb1]⟩ 1 none ∈ zall := zw_in (p := 74) (by decide +kernel)
theorem zs_objInit (C : zCtx p R s m args meth c base t b D dA zx Ln y) {i k : Nat} (hw : Cond.methodLink (zname y).cls i objectInit ∈ zall) (hr : 1 ≤ (zrm y).1 ∧ 40 ≤ (zrm y).2) (hs : (st.map zcat).sum ≤ 8) (hd : decode (zbytes y) pc = .ok (.invokespecial i, 3)) (h : zGo p l e R s m args below meth c Q base t b D dA zx Ln n0 s0 y (pc + 3) L st M) : zGo p l e R s m args below meth c Q base t b D dA zx Ln n0 s0 y pc L (zR k :: st) M := by
  intro H locs ls h1 h2 h3 h4 h5 h6
  obtain ⟨hx, hb, hml, hown, hts, hK, hS, hnm, hfr, hlo, hbs⟩ := C
  have hq := zC_sum (zAD base t b) st
  exact W.objInit hx hb hown (hts _ hw) (hts _ zw_obj1) (hts _ zw_obj2) rfl (by rw [hml]; exact h3.1) rfl hd (by omega) (by show 2 * 0 + _ + 12 ≤ _; omega) (h H locs ls h1 h2 h3 h4 h5 h6)
theorem zs_f2i (C : zCtx p R s m args meth c base t b D dA zx Ln y) {i : Nat} {x : UInt32} (hw : Cond.methodLink (zname y).cls i (znat 1001) ∈ zall) (hr : 1 ≤ (zrm y).1 ∧ 40 ≤ (zrm y).2) (hs : (st.map zcat).sum ≤ 8) (hd : decode (zbytes y) pc = .ok (.invokestatic i, 3)) (h : zGo p l e R s m args below meth c Q base t b D dA zx Ln n0 s0 y (pc + 3) L (zI x.toInt32.toInt :: st) M) : zGo p l e R s m args below meth c Q base t b D dA zx Ln n0 s0 y pc L (zF x :: st) M := by
  intro H locs ls h1 h2 h3 h4 h5 h6
  obtain ⟨hx, hb, hml, hown, hts, hK, hS, hnm, hfr, hlo, hbs⟩ := C
  have hq := zC_sum (zAD base t b) st
  refine vn_f2i hx hb (by rw [hml]; exact h3.1.symm) hown (hts _ hw) (hts _ (zw_in (p := 1011) (by decide +kernel))) (hts _ (zw_in (p := 1010) (by decide +kernel))) (hts _ (zw_in (p := 63) (by decide +kernel))) (by omega) (by omega) hd ?_
  rw [← Int32.ofInt_toInt x.toInt32]
  exact h H locs ls h1 h2 h3 h4 h5 h6
theorem zs_d2raw (C : zCtx p R s m args meth c base t b D dA zx Ln y) {i : Nat} {x : UInt64} (hw : Cond.methodLink (zname y).cls i (znat 1002) ∈ zall) (hr : 1 ≤ (zrm y).1 ∧ 40 ≤ (zrm y).2) (hs : (st.map zcat).sum ≤ 8) (hd : decode (zbytes y) pc = .ok (.invokestatic i, 3)) (h : zGo p l e R s m args below meth c Q base t b D dA zx Ln n0 s0 y (pc + 3) L (zL x.toInt64.toInt :: st) M) : zGo p l e R s m args below meth c Q base t b D dA zx Ln n0 s0 y pc L (zD x :: st) M := by
  intro H locs ls h1 h2 h3 h4 h5 h6
  obtain ⟨hx, hb, hml, hown, hts, hK, hS, hnm, hfr, hlo, hbs⟩ := C
  have hq := zC_sum (zAD base t b) st
  refine vn_d2l hx hb (by rw [hml]; exact h3.1.symm) hown (hts _ hw) (hts _ (zw_in (p := 1022) (by decide +kernel))) (hts _ (zw_in (p := 1021) (by decide +kernel))) (hts _ (zw_in (p := 64) (by decide +kernel))) (by omega) (by omega) hd ?_
  rw [← Int64.ofInt_toInt x.toInt64]
  exact h H locs ls h1 h2 h3 h4 h5 h6
theorem zs_l2raw (C : zCtx p R s m args meth c base t b D dA zx Ln y) {i : Nat} {x : Int} (hv : vn_snl2d (Int64.ofInt x) = false) (hw : Cond.methodLink (zname y).cls i (znat 1003) ∈ zall) (hr : 1 ≤ (zrm y).1 ∧ 40 ≤ (zrm y).2) (hs : (st.map zcat).sum ≤ 8) (hd : decode (zbytes y) pc = .ok (.invokestatic i, 3)) (h : zGo p l e R s m args below meth c Q base t b D dA zx Ln n0 s0 y (pc + 3) L (zD (Int64.ofInt x).toUInt64 :: st) M) : zGo p l e R s m args below meth c Q base t b D dA zx Ln n0 s0 y pc L (zL x :: st) M := by
  intro H locs ls h1 h2 h3 h4 h5 h6
  obtain ⟨hx, hb, hml, hown, hts, hK, hS, hnm, hfr, hlo, hbs⟩ := C
  have hq := zC_sum (zAD base t b) st
  exact vn_l2d hx hb (by rw [hml]; exact h3.1.symm) hown (hts _ hw) (hts _ (zw_in (p := 1026) (by decide +kernel))) (hts _ (zw_in (p := 1025) (by decide +kernel))) (hts _ (zw_in (p := 64) (by decide +kernel))) hv (by omega) (by omega) hd (h H locs ls h1 h2 h3 h4 h5 h6)
theorem zs_dabs (C : zCtx p R s m args meth c base t b D dA zx Ln y) {i : Nat} {x : UInt64} (hv : x &&& 0x7fffffffffffffff ≤ 0x7ff0000000000000) (hw : Cond.methodLink (zname y).cls i (znat 1005) ∈ zall) (hr : 1 ≤ (zrm y).1 ∧ 40 ≤ (zrm y).2) (hs : (st.map zcat).sum ≤ 8) (hd : decode (zbytes y) pc = .ok (.invokestatic i, 3)) (hc : M.1.length - n0 ≤ R.cells ∧ zslots M.1 - s0 ≤ R.slots) (h : zGo p l e R s m args below meth c Q base t b D dA zx Ln n0 s0 y (pc + 3) L (zD (x &&& 0x7fffffffffffffff) :: st) M) : zGo p l e R s m args below meth c Q base t b D dA zx Ln n0 s0 y pc L (zD x :: st) M := by
  intro H locs ls h1 h2 h3 h4 h5 h6
  obtain ⟨hx, hb, hml, hown, hts, hK, hS, hnm, hfr, hlo, hbs⟩ := C
  have hq := zC_sum (zAD base t b) st
  exact zn_call (y := znat 1005) (bytes := prog_14_method_64_code) (ml := 2) (n := 1) (ret := some .double) (As := [.double x]) hx hb (by rw [hml]; exact h3.1.symm) hown (hts _ hw) (hts _ (zw_in (p := 1018) (by decide +kernel))) (hts _ (zw_in (p := 60) (by decide +kernel))) (hts _ (zw_in (p := 1019) (by decide +kernel))) (by decide) (by decide) (zn_absFind p) (by decide +kernel) rfl
    (fun mk f h1 h2 h3 => by simp [entryFrame, argsToLocals, Value.category, h1, h3]) (zn_absRun hv e) (by omega) (by omega) (by omega) hc hd (h H locs ls h1 h2 h3 h4 h5 h6)
theorem zs_dmax (C : zCtx p R s m args meth c base t b D dA zx Ln y) {i : Nat} {x w : UInt64} (hv : x &&& 0x7fffffffffffffff ≤ 0x7ff0000000000000) (hv2 : w &&& 0x7fffffffffffffff ≤ 0x7ff0000000000000) (hw : Cond.methodLink (zname y).cls i (znat 1006) ∈ zall) (hr : 1 ≤ (zrm y).1 ∧ 40 ≤ (zrm y).2) (hs : (st.map zcat).sum ≤ 8) (hd : decode (zbytes y) pc = .ok (.invokestatic i, 3)) (hc : M.1.length - n0 ≤ R.cells ∧ zslots M.1 - s0 ≤ R.slots) (h : zGo p l e R s m args below meth c Q base t b D dA zx Ln n0 s0 y (pc + 3) L (zD (Native.java_lang_Math.nans.pick64 true x w) :: st) M) : zGo p l e R s m args below meth c Q base t b D dA zx Ln n0 s0 y pc L (zD w :: zD x :: st) M := by
  intro H locs ls h1 h2 h3 h4 h5 h6
  obtain ⟨hx, hb, hml, hown, hts, hK, hS, hnm, hfr, hlo, hbs⟩ := C
  have hq := zC_sum (zAD base t b) st
  exact zn_call (y := znat 1006) (bytes := prog_14_method_68_code) (ml := 4) (n := 2) (ret := some .double) (As := [.double x, .double w]) hx hb (by rw [hml]; exact h3.1.symm) hown (hts _ hw) (hts _ (zw_in (p := 1028) (by decide +kernel))) (hts _ (zw_in (p := 60) (by decide +kernel))) (hts _ (zw_in (p := 1029) (by decide +kernel))) (by decide) (by decide) (zn_maxFind p) (by decide +kernel) rfl
    (fun mk f h1 h2 h3 => by simp [entryFrame, argsToLocals, Value.category, h1, h3]) (zn_maxRun hv hv2 e) (by omega) (by omega) (by omega) hc hd (h H locs ls h1 h2 h3 h4 h5 h6)
theorem zs_copy (C : zCtx p R s m args meth c base t b D dA zx Ln y) {i ks kd na nb : Nat} {n dp sp : Int} (hw : Cond.methodLink (zname y).cls i arraycopyName ∈ zall) (hr : 1 ≤ (zrm y).1 ∧ 40 ≤ (zrm y).2) (hs : (st.map zcat).sum ≤ 8) (hTs : M.1[ks]? = some (11, na)) (hTd : M.1[kd]? = some (11, nb))
    (h0 : 0 ≤ n ∧ 0 ≤ dp ∧ 0 ≤ sp) (ha : sp + n ≤ (na : Int)) (hbn : dp + n ≤ (nb : Int)) (ha3 : (na : Int) < 2147483648) (hb3 : (nb : Int) < 2147483648) (hd : decode (zbytes y) pc = .ok (.invokestatic i, 3)) (h : zGo p l e R s m args below meth c Q base t b D dA zx Ln n0 s0 y (pc + 3) L st (M.1, M.2.1, zcpy M.2.2 ks sp.toNat kd dp.toNat n.toNat)) : zGo p l e R s m args below meth c Q base t b D dA zx Ln n0 s0 y pc L (zI n :: zI dp :: zR kd :: zI sp :: zR ks :: st) M := by
  intro H locs ls h1 h2 h3 h4 h5 h6
  obtain ⟨hx, hb, hml, hown, hts, hK, hS, hnm, hfr, hlo, hbs⟩ := C
  have hq := zC_sum (zAD base t b) st
  obtain ⟨hks9, hPs⟩ := zH_in h1 hTs
  obtain ⟨hkd9, hPd⟩ := zH_in h1 hTd
  have en : (Int32.ofInt n).toNatClampNeg = n.toNat := Int32.toNatClampNeg_ofInt_of_le (by omega) (by omega)
  have ed : (Int32.ofInt dp).toNatClampNeg = dp.toNat := Int32.toNatClampNeg_ofInt_of_le (by omega) (by omega)
  have es : (Int32.ofInt sp).toNatClampNeg = sp.toNat := Int32.toNatClampNeg_ofInt_of_le (by omega) (by omega)
  have in_ : (Int32.ofInt n).toInt = n := Int32.toInt_ofInt_of_le (by omega) (by omega)
  have id_ : (Int32.ofInt dp).toInt = dp := Int32.toInt_ofInt_of_le (by omega) (by omega)
  have is_ : (Int32.ofInt sp).toInt = sp := Int32.toInt_ofInt_of_le (by omega) (by omega)
  show W p l e R s m args below meth c H locs _ _ Q (F0 m pc ls (.int (Int32.ofInt n) :: .int (Int32.ofInt dp) :: .ref (zAD base t b kd) :: .int (Int32.ofInt sp) :: .ref (zAD base t b ks) :: st.map (zC (zAD base t b))))
  rw [zAD_lo hks9, zAD_lo hkd9]
  have hc0 : H[base + ks]? = some (vp_cell (dA 11) (na, .inr (.inl fun q => Int64.ofInt (M.2.2 ks q)))) := hPs 0 _ rfl
  have hc1 : H[base + kd]? = some (vp_cell (dA 11) (nb, .inr (.inl fun q => Int64.ofInt (M.2.2 kd q)))) := hPd 0 _ rfl
  have hAr : ArrOfT s (dA 11) .long := (hK.1.2 1 (dA 11, .long) rfl).1
  obtain ⟨-, k0, hk0, cm0, hkk0⟩ := hAr na (fun j => .long (Int64.ofInt (M.2.2 ks j)))
  obtain ⟨-, k1, hk1, cm1, hkk1⟩ := hAr nb (fun j => .long (Int64.ofInt (M.2.2 kd j)))
  intro T hT X
  obtain ⟨vm', X', step⟩ := X.arraycopy hx hown (hts _ hw) (hts _ (zw_in (p := 669) (by decide +kernel))) (hts _ (zw_in (p := 668) (by decide +kernel))) (hts _ (zw_in (p := 66) (by decide +kernel))) (src := base + ks) (dst := base + kd) (cs := vp_cell (dA 11) (na, .inr (.inl fun q => Int64.ofInt (M.2.2 ks q)))) (cd := vp_cell (dA 11) (nb, .inr (.inl fun q => Int64.ofInt (M.2.2 kd q)))) (srcPos := Int32.ofInt sp) (destPos := Int32.ofInt dp) (n := Int32.ofInt n) (by rw [hT]; exact hc0) (by rw [hT]; exact hc1)
    (fun _ h => by cases h) (fun _ h => by cases h) (fun h => by cases h) (fun h => by cases h) hk0 hk1 hkk0 hkk1 (by simp) (by rw [z32_0, z32_lt (by omega) (by omega)]; omega) (by rw [z32_0, z32_lt (by omega) (by omega)]; omega) (by rw [z32_0, z32_lt (by omega) (by omega)]; omega)
    (by rw [is_, in_]; show ¬ _ > ((arrV _ na _).slots.size : Int); rw [arrV_size]; omega)
    (by rw [id_, in_]; show ¬ _ > ((arrV _ nb _).slots.size : Int); rw [arrV_size]; omega)
    (fun vm₁ _ j hj => by
      rw [en] at hj
      have e0 : (vp_cell (dA 11) (na, .inr (.inl fun q => Int64.ofInt (M.2.2 ks q)))).slots.getD ((Int32.ofInt sp).toNatClampNeg + j) .null = .long (Int64.ofInt (M.2.2 ks (sp.toNat + j))) := by
        rw [es]
        show (arrV (dA 11) na (fun q => .long (Int64.ofInt (M.2.2 ks q)))).slots.getD _ _ = _
        rw [Array.getD_eq_getD_getElem?, arrV_read _ _ (by omega)]
        rfl
      rw [e0]
      exact ⟨rfl, trivial⟩)
    (g := F0 m pc ls (.int (Int32.ofInt n) :: .int (Int32.ofInt dp) :: .ref (base + kd) :: .int (Int32.ofInt sp) :: .ref (base + ks) :: st.map (zC (zAD base t b)))) rfl (by rw [hml]; exact h3.1) (rest := st.map (zC (zAD base t b))) rfl (by rw [hb]; exact hd) (by omega) (by show 2 * 0 + _ + (nativeFrameWords "java/lang/System" "arraycopy" 5 + 11) ≤ _; have hw9 : nativeFrameWords "java/lang/System" "arraycopy" 5 ≤ 20 := (by decide); omega)
  have e1 : copied (vp_cell (dA 11) (na, .inr (.inl fun q => Int64.ofInt (M.2.2 ks q)))) (vp_cell (dA 11) (nb, .inr (.inl fun q => Int64.ofInt (M.2.2 kd q)))) (Int32.ofInt sp) (Int32.ofInt dp) (Int32.ofInt n) = vp_cell (dA 11) (nb, .inr (.inl (va_cpy (fun q => Int64.ofInt (M.2.2 ks q)) (fun q => Int64.ofInt (M.2.2 kd q)) (Int32.ofInt sp).toNatClampNeg (Int32.ofInt dp).toNatClampNeg (Int32.ofInt n).toNatClampNeg))) := va_copied (n0 := na) (n1 := nb) (sp := (Int32.ofInt sp).toNatClampNeg) (dp := (Int32.ofInt dp).toNatClampNeg) (n := (Int32.ofInt n).toNatClampNeg) (fun z => .long z) (dA 11) (dA 11) (fun q => Int64.ofInt (M.2.2 ks q)) (fun q => Int64.ofInt (M.2.2 kd q)) (by omega)
  rw [e1, en, ed, es] at X' step
  have e2 : (va_cpy (fun q => Int64.ofInt (M.2.2 ks q)) (fun q => Int64.ofInt (M.2.2 kd q)) sp.toNat dp.toNat n.toNat) = fun q => Int64.ofInt (zcpy M.2.2 ks sp.toNat kd dp.toNat n.toNat kd q) := by
    funext q
    unfold va_cpy zcpy
    rw [if_pos rfl]
    by_cases g : dp.toNat ≤ q ∧ q < dp.toNat + n.toNat
    · rw [if_pos g, if_pos g]
    · rw [if_neg g, if_neg g]
  rw [e2] at X' step
  have hl : base + kd < H.size := (Array.getElem?_eq_some_iff.mp hc1).1
  generalize hcell : vp_cell (dA 11) (nb, .inr (.inl fun q => Int64.ofInt (zcpy M.2.2 ks sp.toNat kd dp.toNat n.toNat kd q))) = cell at X' step
  have hheap : ((T.setVm vm').setCell (base + kd) cell).heap = H.setIfInBounds (base + kd) cell := by rw [← hT]; rfl
  have oq : ∀ q : Nat, q ≠ base + kd → (H.setIfInBounds (base + kd) cell)[q]? = H[q]? := fun q hq => by simp [Array.getElem?_setIfInBounds, Ne.symm hq]
  obtain ⟨t9, a1, b1⟩ := h (H.setIfInBounds (base + kd) cell) _ ls (zH_store h1 hTd (by simp) oq (by
      show (H.setIfInBounds (base + kd) cell)[base + kd]? = some (vp_cell (dA 11) (nb, .inr (.inl fun q => Int64.ofInt (zcpy M.2.2 ks sp.toNat kd dp.toNat n.toNat kd q))))
      rw [hcell]
      simp [Array.getElem?_setIfInBounds, hl]) (fun j _ i => rfl) (fun j hj i => by unfold zcpy; rw [if_neg hj])) ⟨by simp; exact h2.1, fun q g1 g2 => by
      rw [oq q (fun e => g2 (by show base ≤ q; omega))]
      exact h2.2.1 q g1 g2, fun q hq => by
      rcases List.mem_append.mp hq with g | g
      · exact h2.2.2 q g
      · obtain ⟨z, -, hz⟩ := List.mem_map.mp g
        rw [← hz]
        show base ≤ base + kd
        omega⟩ h3 h4 h5 h6 _ hheap X'
  exact ⟨t9, step t9 a1, b1⟩
end ZNAT
end
section
section ZSTEP
theorem zalen_ty {dA : Nat → ClassId} {a : Nat} (h : 10 ≤ a) (h2 : a ≤ 15) : ∃ q : Nat, (zty dA)[q]? = some (dA a, zkt a) := by
  rcases (show a = 10 ∨ a = 11 ∨ a = 12 ∨ a = 13 ∨ a = 14 ∨ a = 15 by omega) with rfl | rfl | rfl | rfl | rfl | rfl
  · exact ⟨0, rfl⟩
  · exact ⟨1, rfl⟩
  · exact ⟨2, rfl⟩
  · exact ⟨3, rfl⟩
  · exact ⟨4, rfl⟩
  · exact ⟨5, rfl⟩
variable {p : Program} {l : Launch} {e : Env} {R : Room} {s : State} {m : MethodId} {args : Array Value} {below : List Frame} {meth : Method} {c : Code} {Q : State → Prop} {base t b : Nat} {D : va_G} {dA : Nat → ClassId} {zx : Nat → Int} {Ln n0 s0 y : Nat} {pc : Nat} {L : zLs} {st : List zAV} {M : zM}
theorem zoff_in {ps : List (Int × Int)} {d x : Int} {P : Int → Prop} (h0 : P d) (h : ∀ o ∈ ps, P o.2) : P (Op.lookupswitch.offset ps d x) := by
  induction ps with
  | nil => exact h0
  | cons q r ih =>
    obtain ⟨a, o⟩ := q
    show P (if a = x then o else Op.lookupswitch.offset r d x)
    split
    · exact h (a, o) List.mem_cons_self
    · exact ih (fun o ho => h o (List.mem_cons_of_mem _ ho))
set_option maxHeartbeats 4000000 in
theorem zsim_step (C : zCtx p R s m args meth c base t b D dA zx Ln y) {I : Instr} {n : Nat} {r : zRes} {pc' : Nat} {L' : zLs} {st' : List zAV} {M' : zM} (hok : zokI y (pc, I, n, r) = true) (hk : zkind I r = 0) (hs : zstep I n r pc L st M = some (pc', L', st', M'))
    (hc1 : n0 ≤ M.1.length) (hc2 : s0 ≤ zslots M.1) (hr1 : M'.1.length - n0 ≤ R.cells) (hr2 : zslots M'.1 - s0 ≤ R.slots) (hr3 : M.1.length - n0 ≤ R.cells) (hr4 : zslots M.1 - s0 ≤ R.slots) (h : zGo p l e R s m args below meth c Q base t b D dA zx Ln n0 s0 y pc' L' st' M') : zGo p l e R s m args below meth c Q base t b D dA zx Ln n0 s0 y pc L st M := by
  obtain ⟨a, f, w, v⟩ := r
  unfold zokI at hok
  rw [Bool.and_eq_true, decide_eq_true_eq] at hok
  obtain ⟨hd, hok⟩ := hok
  cases I with
  | iconst k =>
    have hn : n = 1 := of_decide_eq_true hok
    subst hn
    unfold zstep at hs
    dsimp only at hs
    cases hs
    exact zs_iconst C hd h
  | bipush k =>
    obtain ⟨g1, g2, hn⟩ := of_decide_eq_true hok
    subst hn
    unfold zstep at hs
    dsimp only at hs
    cases hs
    exact zs_bipush C ⟨g1, g2⟩ hd h
  | sipush k =>
    obtain ⟨g1, g2, hn⟩ := of_decide_eq_true hok
    subst hn
    unfold zstep at hs
    dsimp only at hs
    cases hs
    exact zs_sipush C ⟨g1, g2⟩ hd h
  | lconst k =>
    have hn : n = 1 := of_decide_eq_true hok
    subst hn
    unfold zstep at hs
    dsimp only at hs
    cases hs
    exact zs_lconst C hd h
  | fconst k =>
    have hn : n = 1 := of_decide_eq_true hok
    subst hn
    unfold zstep at hs
    dsimp only at hs
    cases hs
    match k, hd, h with
    | 0, hd, h => exact zs_fconst0 C hd h
    | 1, hd, h => exact zs_fconst1 C hd h
    | 2, hd, h => exact zs_fconst2 C hd h
  | dconst k =>
    have hn : n = 1 := of_decide_eq_true hok
    subst hn
    unfold zstep at hs
    dsimp only at hs
    cases hs
    match k, hd, h with
    | 0, hd, h => exact zs_dconst0 C hd h
    | 1, hd, h => exact zs_dconst1 C hd h
  | ldc i =>
    rw [Bool.and_eq_true, decide_eq_true_eq] at hok
    obtain ⟨hn, hok⟩ := hok
    subst hn
    unfold zstep at hs
    dsimp only at hs
    cases hs
    by_cases ha : a = 0
    · rw [if_pos ha] at hok
      rw [if_pos ha] at h
      exact zs_ldcI C (zw_in hok) hd h
    · rw [if_neg ha] at hok
      rw [if_neg ha] at h
      exact zs_ldcF C (zw_in hok) hd h
  | ldc_w i =>
    rw [Bool.and_eq_true, decide_eq_true_eq] at hok
    obtain ⟨hn, hok⟩ := hok
    subst hn
    unfold zstep at hs
    dsimp only at hs
    cases hs
    exact zs_ldcW C (zw_in hok) hd h
  | ldc2_w i =>
    rw [Bool.and_eq_true, decide_eq_true_eq] at hok
    obtain ⟨hn, hok⟩ := hok
    subst hn
    unfold zstep at hs
    dsimp only at hs
    cases hs
    by_cases ha : a = 0
    · rw [if_pos ha] at hok
      rw [if_pos ha] at h
      exact zs_ldc2L C (zw_in hok) hd h
    · rw [if_neg ha] at hok
      rw [if_neg ha] at h
      exact zs_ldc2D C (zw_in hok) hd h
  | iload i =>
    have hn : n = 2 := of_decide_eq_true hok
    subst hn
    unfold zstep at hs
    dsimp only at hs
    split at hs
    · rename_i hl
      cases hs
      exact zs_iload C hl hd h
    · cases hs
  | istore i =>
    have hn : n = 2 := of_decide_eq_true hok
    subst hn
    unfold zstep at hs
    dsimp only at hs
    split at hs
    · split at hs
      · rename_i hi
        cases hs
        exact zs_istore C hi hd h
      · cases hs
    · cases hs
  | iload_n i =>
    have hn : n = 1 := of_decide_eq_true hok
    subst hn
    unfold zstep at hs
    dsimp only at hs
    split at hs
    · rename_i hl
      cases hs
      exact zs_iload_n C hl hd h
    · cases hs
  | istore_n i =>
    have hn : n = 1 := of_decide_eq_true hok
    subst hn
    unfold zstep at hs
    dsimp only at hs
    split at hs
    · split at hs
      · rename_i hi
        cases hs
        exact zs_istore_n C hi hd h
      · cases hs
    · cases hs
  | lload i =>
    have hn : n = 2 := of_decide_eq_true hok
    subst hn
    unfold zstep at hs
    dsimp only at hs
    split at hs
    · rename_i hl
      cases hs
      exact zs_lload C hl hd h
    · cases hs
  | lstore i =>
    have hn : n = 2 := of_decide_eq_true hok
    subst hn
    unfold zstep at hs
    dsimp only at hs
    split at hs
    · split at hs
      · rename_i hi
        cases hs
        exact zs_lstore C hi hd h
      · cases hs
    · cases hs
  | lload_n i =>
    have hn : n = 1 := of_decide_eq_true hok
    subst hn
    unfold zstep at hs
    dsimp only at hs
    split at hs
    · rename_i hl
      cases hs
      exact zs_lload_n C hl hd h
    · cases hs
  | lstore_n i =>
    have hn : n = 1 := of_decide_eq_true hok
    subst hn
    unfold zstep at hs
    dsimp only at hs
    split at hs
    · split at hs
      · rename_i hi
        cases hs
        exact zs_lstore_n C hi hd h
      · cases hs
    · cases hs
  | fload i =>
    have hn : n = 2 := of_decide_eq_true hok
    subst hn
    unfold zstep at hs
    dsimp only at hs
    split at hs
    · rename_i hl
      cases hs
      exact zs_fload C hl hd h
    · cases hs
  | fstore i =>
    have hn : n = 2 := of_decide_eq_true hok
    subst hn
    unfold zstep at hs
    dsimp only at hs
    split at hs
    · split at hs
      · rename_i hi
        cases hs
        exact zs_fstore C hi hd h
      · cases hs
    · cases hs
  | fload_n i =>
    have hn : n = 1 := of_decide_eq_true hok
    subst hn
    unfold zstep at hs
    dsimp only at hs
    split at hs
    · rename_i hl
      cases hs
      exact zs_fload_n C hl hd h
    · cases hs
  | fstore_n i =>
    have hn : n = 1 := of_decide_eq_true hok
    subst hn
    unfold zstep at hs
    dsimp only at hs
    split at hs
    · split at hs
      · rename_i hi
        cases hs
        exact zs_fstore_n C hi hd h
      · cases hs
    · cases hs
  | dload i =>
    have hn : n = 2 := of_decide_eq_true hok
    subst hn
    unfold zstep at hs
    dsimp only at hs
    split at hs
    · rename_i hl
      cases hs
      exact zs_dload C hl hd h
    · cases hs
  | dstore i =>
    have hn : n = 2 := of_decide_eq_true hok
    subst hn
    unfold zstep at hs
    dsimp only at hs
    split at hs
    · split at hs
      · rename_i hi
        cases hs
        exact zs_dstore C hi hd h
      · cases hs
    · cases hs
  | dload_n i =>
    have hn : n = 1 := of_decide_eq_true hok
    subst hn
    unfold zstep at hs
    dsimp only at hs
    split at hs
    · rename_i hl
      cases hs
      exact zs_dload_n C hl hd h
    · cases hs
  | dstore_n i =>
    have hn : n = 1 := of_decide_eq_true hok
    subst hn
    unfold zstep at hs
    dsimp only at hs
    split at hs
    · split at hs
      · rename_i hi
        cases hs
        exact zs_dstore_n C hi hd h
      · cases hs
    · cases hs
  | aload i =>
    have hn : n = 2 := of_decide_eq_true hok
    subst hn
    unfold zstep at hs
    dsimp only at hs
    split at hs
    · rename_i hl
      cases hs
      exact zs_aload C hl hd h
    · cases hs
  | astore i =>
    have hn : n = 2 := of_decide_eq_true hok
    subst hn
    unfold zstep at hs
    dsimp only at hs
    split at hs
    · split at hs
      · rename_i hi
        cases hs
        exact zs_astore C hi hd h
      · cases hs
    · cases hs
  | aload_n i =>
    have hn : n = 1 := of_decide_eq_true hok
    subst hn
    unfold zstep at hs
    dsimp only at hs
    split at hs
    · rename_i hl
      cases hs
      exact zs_aload_n C hl hd h
    · cases hs
  | astore_n i =>
    have hn : n = 1 := of_decide_eq_true hok
    subst hn
    unfold zstep at hs
    dsimp only at hs
    split at hs
    · split at hs
      · rename_i hi
        cases hs
        exact zs_astore_n C hi hd h
      · cases hs
    · cases hs
  | iinc i k =>
    have hn : n = 3 := of_decide_eq_true hok
    subst hn
    unfold zstep at hs
    dsimp only at hs
    split at hs
    · rename_i hl
      cases hs
      exact zs_iinc C hl hd h
    · cases hs
  | iadd =>
    have hn : n = 1 := of_decide_eq_true hok
    subst hn
    unfold zstep at hs
    dsimp only at hs
    split at hs
    · cases hs
      exact zs_iadd C hd h
    · cases hs
  | isub =>
    have hn : n = 1 := of_decide_eq_true hok
    subst hn
    unfold zstep at hs
    dsimp only at hs
    split at hs
    · cases hs
      exact zs_isub C hd h
    · cases hs
  | imul =>
    have hn : n = 1 := of_decide_eq_true hok
    subst hn
    unfold zstep at hs
    dsimp only at hs
    split at hs
    · cases hs
      exact zs_imul C hd h
    · cases hs
  | iand =>
    have hn : n = 1 := of_decide_eq_true hok
    subst hn
    unfold zstep at hs
    dsimp only at hs
    split at hs
    · cases hs
      exact zs_iand C hd h
    · cases hs
  | ior =>
    have hn : n = 1 := of_decide_eq_true hok
    subst hn
    unfold zstep at hs
    dsimp only at hs
    split at hs
    · cases hs
      exact zs_ior C hd h
    · cases hs
  | ixor =>
    have hn : n = 1 := of_decide_eq_true hok
    subst hn
    unfold zstep at hs
    dsimp only at hs
    split at hs
    · cases hs
      exact zs_ixor C hd h
    · cases hs
  | ishl =>
    have hn : n = 1 := of_decide_eq_true hok
    subst hn
    unfold zstep at hs
    dsimp only at hs
    split at hs
    · cases hs
      exact zs_ishl C hd h
    · cases hs
  | ishr =>
    have hn : n = 1 := of_decide_eq_true hok
    subst hn
    unfold zstep at hs
    dsimp only at hs
    split at hs
    · cases hs
      exact zs_ishr C hd h
    · cases hs
  | iushr =>
    have hn : n = 1 := of_decide_eq_true hok
    subst hn
    unfold zstep at hs
    dsimp only at hs
    split at hs
    · cases hs
      exact zs_iushr C hd h
    · cases hs
  | ladd =>
    have hn : n = 1 := of_decide_eq_true hok
    subst hn
    unfold zstep at hs
    dsimp only at hs
    split at hs
    · cases hs
      exact zs_ladd C hd h
    · cases hs
  | lsub =>
    have hn : n = 1 := of_decide_eq_true hok
    subst hn
    unfold zstep at hs
    dsimp only at hs
    split at hs
    · cases hs
      exact zs_lsub C hd h
    · cases hs
  | lmul =>
    have hn : n = 1 := of_decide_eq_true hok
    subst hn
    unfold zstep at hs
    dsimp only at hs
    split at hs
    · cases hs
      exact zs_lmul C hd h
    · cases hs
  | land =>
    have hn : n = 1 := of_decide_eq_true hok
    subst hn
    unfold zstep at hs
    dsimp only at hs
    split at hs
    · cases hs
      exact zs_land C hd h
    · cases hs
  | lor =>
    have hn : n = 1 := of_decide_eq_true hok
    subst hn
    unfold zstep at hs
    dsimp only at hs
    split at hs
    · cases hs
      exact zs_lor C hd h
    · cases hs
  | lshl =>
    have hn : n = 1 := of_decide_eq_true hok
    subst hn
    unfold zstep at hs
    dsimp only at hs
    split at hs
    · cases hs
      exact zs_lshl C hd h
    · cases hs
  | lushr =>
    have hn : n = 1 := of_decide_eq_true hok
    subst hn
    unfold zstep at hs
    dsimp only at hs
    split at hs
    · cases hs
      exact zs_lushr C hd h
    · cases hs
  | lneg =>
    have hn : n = 1 := of_decide_eq_true hok
    subst hn
    unfold zstep at hs
    dsimp only at hs
    split at hs
    · cases hs
      exact zs_lneg C hd h
    · cases hs
  | l2i =>
    have hn : n = 1 := of_decide_eq_true hok
    subst hn
    unfold zstep at hs
    dsimp only at hs
    split at hs
    · cases hs
      exact zs_l2i C hd h
    · cases hs
  | i2b =>
    have hn : n = 1 := of_decide_eq_true hok
    subst hn
    unfold zstep at hs
    dsimp only at hs
    split at hs
    · cases hs
      exact zs_i2b C hd h
    · cases hs
  | i2s =>
    have hn : n = 1 := of_decide_eq_true hok
    subst hn
    unfold zstep at hs
    dsimp only at hs
    split at hs
    · cases hs
      exact zs_i2s C hd h
    · cases hs
  | i2f =>
    have hn : n = 1 := of_decide_eq_true hok
    subst hn
    unfold zstep at hs
    dsimp only at hs
    split at hs
    · cases hs
      exact zs_i2f C hd h
    · cases hs
  | l2d =>
    have hn : n = 1 := of_decide_eq_true hok
    subst hn
    unfold zstep at hs
    dsimp only at hs
    split at hs
    · cases hs
      exact zs_l2d C hd h
    · cases hs
  | d2l =>
    have hn : n = 1 := of_decide_eq_true hok
    subst hn
    unfold zstep at hs
    dsimp only at hs
    split at hs
    · cases hs
      exact zs_d2l C hd h
    · cases hs
  | dneg =>
    have hn : n = 1 := of_decide_eq_true hok
    subst hn
    unfold zstep at hs
    dsimp only at hs
    split at hs
    · cases hs
      exact zs_dneg C hd h
    · cases hs
  | fcmp op =>
    have hn : n = 1 := of_decide_eq_true hok
    subst hn
    unfold zstep at hs
    dsimp only at hs
    split at hs
    · cases hs
      exact zs_fcmp C hd h
    · cases hs
  | dcmp op =>
    have hn : n = 1 := of_decide_eq_true hok
    subst hn
    unfold zstep at hs
    dsimp only at hs
    split at hs
    · cases hs
      exact zs_dcmp C hd h
    · cases hs
  | ldiv =>
    have hn : n = 1 := of_decide_eq_true hok
    subst hn
    unfold zstep at hs
    dsimp only at hs
    split at hs
    · split at hs
      · rename_i hr
        cases hs
        exact zs_ldiv C hr hd h
      · cases hs
    · cases hs
  | lrem =>
    have hn : n = 1 := of_decide_eq_true hok
    subst hn
    unfold zstep at hs
    dsimp only at hs
    split at hs
    · split at hs
      · rename_i hr
        cases hs
        exact zs_lrem C hr hd h
      · cases hs
    · cases hs
  | i2l =>
    have hn : n = 1 := of_decide_eq_true hok
    subst hn
    unfold zstep at hs
    dsimp only at hs
    split at hs
    · split at hs
      · rename_i hr
        cases hs
        exact zs_i2l C hr hd h
      · cases hs
    · cases hs
  | f2d =>
    have hn : n = 1 := of_decide_eq_true hok
    subst hn
    unfold zstep at hs
    dsimp only at hs
    split at hs
    · split at hs
      · rename_i hr
        cases hs
        exact zs_f2d C hr hd h
      · cases hs
    · cases hs
  | fadd =>
    have hn : n = 1 := of_decide_eq_true hok
    subst hn
    unfold zstep at hs
    dsimp only at hs
    split at hs
    · split at hs
      · rename_i hr
        cases hs
        exact zs_fadd C hr hd h
      · cases hs
    · cases hs
  | fsub =>
    have hn : n = 1 := of_decide_eq_true hok
    subst hn
    unfold zstep at hs
    dsimp only at hs
    split at hs
    · split at hs
      · rename_i hr
        cases hs
        exact zs_fsub C hr hd h
      · cases hs
    · cases hs
  | fmul =>
    have hn : n = 1 := of_decide_eq_true hok
    subst hn
    unfold zstep at hs
    dsimp only at hs
    split at hs
    · split at hs
      · rename_i hr
        cases hs
        exact zs_fmul C hr hd h
      · cases hs
    · cases hs
  | fdiv =>
    have hn : n = 1 := of_decide_eq_true hok
    subst hn
    unfold zstep at hs
    dsimp only at hs
    split at hs
    · split at hs
      · rename_i hr
        cases hs
        exact zs_fdiv C hr hd h
      · cases hs
    · cases hs
  | dadd =>
    have hn : n = 1 := of_decide_eq_true hok
    subst hn
    unfold zstep at hs
    dsimp only at hs
    split at hs
    · split at hs
      · rename_i hr
        cases hs
        exact zs_dadd C hr hd h
      · cases hs
    · cases hs
  | dsub =>
    have hn : n = 1 := of_decide_eq_true hok
    subst hn
    unfold zstep at hs
    dsimp only at hs
    split at hs
    · split at hs
      · rename_i hr
        cases hs
        exact zs_dsub C hr hd h
      · cases hs
    · cases hs
  | dmul =>
    have hn : n = 1 := of_decide_eq_true hok
    subst hn
    unfold zstep at hs
    dsimp only at hs
    split at hs
    · split at hs
      · rename_i hr
        cases hs
        exact zs_dmul C hr hd h
      · cases hs
    · cases hs
  | ddiv =>
    have hn : n = 1 := of_decide_eq_true hok
    subst hn
    unfold zstep at hs
    dsimp only at hs
    split at hs
    · split at hs
      · rename_i hr
        cases hs
        exact zs_ddiv C hr hd h
      · cases hs
    · cases hs
  | dup =>
    have hn : n = 1 := of_decide_eq_true hok
    subst hn
    unfold zstep at hs
    dsimp only at hs
    split at hs
    · split at hs
      · rename_i hr
        cases hs
        exact zs_dup C hr hd h
      · cases hs
    · cases hs
  | pop =>
    have hn : n = 1 := of_decide_eq_true hok
    subst hn
    unfold zstep at hs
    dsimp only at hs
    split at hs
    · split at hs
      · rename_i hr
        cases hs
        exact zs_pop C hr hd h
      · cases hs
    · cases hs
  | lcmp =>
    have hn : n = 1 := of_decide_eq_true hok
    subst hn
    unfold zstep at hs
    dsimp only at hs
    split at hs
    · split at hs
      · rename_i hr
        cases hs
        exact zs_lcmp C hr.1 hr.2 hd h
      · cases hs
    · cases hs
  | goto o =>
    obtain ⟨g1, hn⟩ := of_decide_eq_true hok
    subst hn
    unfold zstep at hs
    dsimp only at hs
    cases hs
    exact zs_goto C g1 hd h
  | ifCond k o =>
    obtain ⟨g1, hn⟩ := of_decide_eq_true hok
    subst hn
    unfold zstep at hs
    dsimp only at hs
    split at hs
    · split at hs
      · rename_i hr
        cases hs
        cases k with
        | eq => exact zs_if_eq C hr hd g1 h
        | ne => exact zs_if_ne C hr hd g1 h
        | lt => exact zs_if_lt C hr hd g1 h
        | ge => exact zs_if_ge C hr hd g1 h
        | gt => exact zs_if_gt C hr hd g1 h
        | le => exact zs_if_le C hr hd g1 h
      · cases hs
    · cases hs
  | if_icmp k o =>
    obtain ⟨g1, hn⟩ := of_decide_eq_true hok
    subst hn
    unfold zstep at hs
    dsimp only at hs
    split at hs
    · split at hs
      · rename_i hr
        cases hs
        cases k with
        | eq => exact zs_icmp_eq C hr.1 hr.2 hd g1 h
        | ne => exact zs_icmp_ne C hr.1 hr.2 hd g1 h
        | lt => exact zs_icmp_lt C hr.1 hr.2 hd g1 h
        | ge => exact zs_icmp_ge C hr.1 hr.2 hd g1 h
        | gt => exact zs_icmp_gt C hr.1 hr.2 hd g1 h
        | le => exact zs_icmp_le C hr.1 hr.2 hd g1 h
      · cases hs
    · cases hs
  | tableswitch d lo hi os =>
    rw [Bool.and_eq_true, decide_eq_true_eq] at hok
    obtain ⟨g1, g2⟩ := hok
    unfold zstep at hs
    dsimp only at hs
    split at hs
    · split at hs
      · rename_i hr
        split at hs
        · rename_i hc
          cases hs
          exact zs_tableOut C hr hd g1 hc h
        · rename_i hc
          split at hs
          · rename_i o ho
            cases hs
            exact zs_tableIn C hr hd (of_decide_eq_true (List.all_eq_true.mp g2 _ (Array.mem_toList_iff.mpr (Array.mem_of_getElem? ho)))) hc ho h
          · cases hs
      · cases hs
    · cases hs
  | lookupswitch d ps =>
    rw [Bool.and_eq_true, Bool.and_eq_true, decide_eq_true_eq] at hok
    obtain ⟨⟨g1, g2⟩, g3⟩ := hok
    unfold zstep at hs
    dsimp only at hs
    split at hs
    · split at hs
      · rename_i hr
        cases hs
        exact zs_lookup C hr hd g3 (zoff_in (P := fun o => 0 ≤ (pc : Int) + o) g1 (fun o ho => of_decide_eq_true (List.all_eq_true.mp g2 o ho))) h
      · cases hs
    · cases hs
  | getfield i =>
    rw [Bool.and_eq_true, decide_eq_true_eq] at hok
    obtain ⟨⟨g1, g2, hn⟩, g3⟩ := hok
    subst hn
    unfold zfl at g3
    unfold zstep at hs
    dsimp only at hs
    split at hs
    · split at hs
      · rename_i hT
        split at hs
        · rename_i hf; cases hs
          exact zs_getfield C g1 g2 (zw_in g3) hT (by rw [hf]; rfl) hd h
        · rename_i hf; cases hs
          exact zs_getfield C g1 g2 (zw_in g3) hT (by rw [hf]; rfl) hd h
        · rename_i hf; cases hs
          exact zs_getfield C g1 g2 (zw_in g3) hT (by rw [hf]; rfl) hd h
        · rename_i hf; cases hs
          exact zs_getfield C g1 g2 (zw_in g3) hT (by rw [hf]; rfl) hd h
        · rename_i hf
          split at hs
          · rename_i j hj
            cases hs
            exact zs_getfield C g1 g2 (zw_in g3) hT (by rw [hf]; unfold zval; rw [hj]; rfl) hd h
          · cases hs
        · cases hs
      · cases hs
    · cases hs
  | putfield i =>
    rw [Bool.and_eq_true, Bool.and_eq_true, decide_eq_true_eq] at hok
    obtain ⟨⟨⟨g1, g2, hn⟩, g3⟩, g4⟩ := hok
    subst hn
    unfold zfl at g3
    have hfin : ((zcls a).2.1 f).2.2.2 = false ∨ ((zname y).name = "<init>" ∧ ((zcls a).2.1 f).1 = (zname y).cls) := by
      rw [Bool.or_eq_true, Bool.not_eq_true', decide_eq_true_eq] at g4
      exact g4
    have gk := zfty_kd g1 g2
    unfold zstep at hs
    dsimp only at hs
    split at hs
    · rename_i k s9
      split at hs
      · rename_i hT
        split at hs
        · rename_i hf; cases hs
          rw [hf] at gk
          have ty := of_decide_eq_true gk
          refine zs_putfield C g1 g2 (zw_in g3) hT hfin (by rw [ty]; rfl) (by rw [ty]; rfl) (fun j hj => ?_) (fun j _ i => rfl) zup_ne hd h
          unfold zval
          rw [zup_self]
          by_cases q : j = f
          · rw [if_pos q, if_pos q, q, hf]; rfl
          · rw [if_neg q, if_neg q]
        · rename_i hf; split at hs
          · rename_i hv
            cases hs
            rw [hf] at gk
            have ty := of_decide_eq_true gk
            refine zs_putfield C g1 g2 (zw_in g3) hT hfin (by rw [ty]; exact (z1_nar hv).1) (by rw [ty]; exact (z1_nar hv).2) (fun j hj => ?_) (fun j _ i => rfl) zup_ne hd h
            unfold zval
            rw [zup_self]
            by_cases q : j = f
            · rw [if_pos q, if_pos q, q, hf]; rfl
            · rw [if_neg q, if_neg q]
          · cases hs
        · rename_i hf; cases hs
          rw [hf] at gk
          have ty := of_decide_eq_true gk
          refine zs_putfield C g1 g2 (zw_in g3) hT hfin (by rw [ty]; rfl) (by rw [ty]; rfl) (fun j hj => ?_) (fun j _ i => rfl) zup_ne hd h
          unfold zval
          rw [zup_self]
          by_cases q : j = f
          · rw [if_pos q, if_pos q, q, hf]; rfl
          · rw [if_neg q, if_neg q]
        · rename_i x hf; cases hs
          rw [hf] at gk
          have ty := of_decide_eq_true gk
          refine zs_putfield C g1 g2 (zw_in g3) hT hfin (by rw [ty]; rfl) (by rw [ty]; rfl) (fun j hj => ?_) (fun j _ i => rfl) zup_ne hd h
          unfold zval
          rw [zup_self]
          by_cases q : j = f
          · rw [if_pos q, if_pos q, q, hf, Int.toNat_natCast, UInt32.ofNat_toNat]; rfl
          · rw [if_neg q, if_neg q]
        · rename_i x hf; split at hs
          · rename_i hl
            cases hs
            rw [hf] at gk
            have ty : narrow (zfty a f) (zC (zAD base t b) (zR x)) = zC (zAD base t b) (zR x) ∧ fits (zfty a f) (zC (zAD base t b) (zR x)) = true := by
              have gk2 : (match zfty a f with | .object _ => true | .array _ => true | _ => false) = true := gk
              revert gk2
              split
              · rename_i h9; intro _; rw [h9]; exact ⟨rfl, rfl⟩
              · rename_i h9; intro _; rw [h9]; exact ⟨rfl, rfl⟩
              · intro q; cases q
            refine zs_putfield (R' := zrw M.2.1 k f x) (Z' := M.2.2) C g1 g2 (zw_in g3) hT hfin ty.1 ty.2 (fun j hj => ?_) (fun j hj i => zrd_set_ne hj i) (fun j _ i => rfl) hd h
            unfold zval
            rw [zrd_rw hl]
            by_cases q : j = f
            · rw [if_pos q, if_pos q, q, hf]; rfl
            · rw [if_neg q, if_neg q]
          · cases hs
        · cases hs
      · cases hs
    · cases hs
  | getstatic i =>
    rw [Bool.and_eq_true, decide_eq_true_eq] at hok
    obtain ⟨hn, hok⟩ := hok
    subst hn
    unfold zstep at hs
    dsimp only at hs
    cases hs
    by_cases ha : a = 0
    · rw [if_pos ha] at hok
      rw [if_pos ha] at h
      exact zs_getorders C (zw_in hok) hd h
    · rw [if_neg ha] at hok
      rw [if_neg ha] at h
      exact zs_getneg C (zw_in hok) hd h
  | iaload =>
    have hn : n = 1 := of_decide_eq_true hok
    subst hn
    unfold zstep at hs
    dsimp only at hs
    split at hs
    · split at hs
      · rename_i hk0
        subst hk0
        split at hs
        · rename_i hi
          cases hs
          exact zs_iald0 C hi hd h
        · cases hs
      · split at hs
        · rename_i hk1
          subst hk1
          split at hs
          · rename_i hi
            cases hs
            exact zs_iald1 C hi hd h
          · cases hs
        · split at hs
          · rename_i m9 hT
            split at hs
            · rename_i hi
              cases hs
              exact zs_iald C hT hi hd h
            · cases hs
          · cases hs
    · cases hs
  | baload =>
    have hn : n = 1 := of_decide_eq_true hok
    subst hn
    unfold zstep at hs
    dsimp only at hs
    split at hs
    · split at hs
      · rename_i m9 hT
        split at hs
        · rename_i hi
          cases hs
          exact zs_bald C hT hi hd h
        · cases hs
      · rename_i m9 hT
        split at hs
        · rename_i hi
          cases hs
          exact zs_zald C hT hi hd h
        · cases hs
      · cases hs
    · cases hs
  | laload =>
    have hn : n = 1 := of_decide_eq_true hok
    subst hn
    unfold zstep at hs
    dsimp only at hs
    split at hs
    · split at hs
      · rename_i m9 hT
        split at hs
        · rename_i hi
          cases hs
          exact zs_lald C hT hi hd h
        · cases hs
      · cases hs
    · cases hs
  | faload =>
    have hn : n = 1 := of_decide_eq_true hok
    subst hn
    unfold zstep at hs
    dsimp only at hs
    split at hs
    · split at hs
      · rename_i m9 hT
        split at hs
        · rename_i hi
          cases hs
          exact zs_fald C hT hi hd h
        · cases hs
      · cases hs
    · cases hs
  | aaload =>
    have hn : n = 1 := of_decide_eq_true hok
    subst hn
    unfold zstep at hs
    dsimp only at hs
    split at hs
    · split at hs
      · rename_i m9 hT
        split at hs
        · rename_i hi
          split at hs
          · rename_i j hj
            cases hs
            exact zs_aald C hT hi hj hd h
          · cases hs
        · cases hs
      · cases hs
    · cases hs
  | iastore =>
    have hn : n = 1 := of_decide_eq_true hok
    subst hn
    unfold zstep at hs
    dsimp only at hs
    split at hs
    · split at hs
      · rename_i m9 hT
        split at hs
        · rename_i hi
          cases hs
          exact zs_iast C hT hi hd h
        · cases hs
      · cases hs
    · cases hs
  | bastore =>
    have hn : n = 1 := of_decide_eq_true hok
    subst hn
    unfold zstep at hs
    dsimp only at hs
    split at hs
    · split at hs
      · rename_i m9 hT
        split at hs
        · rename_i hi
          cases hs
          exact zs_bast C hT hi.1 hi.2 hd h
        · cases hs
      · rename_i m9 hT
        split at hs
        · rename_i hi
          cases hs
          exact zs_zast C hT hi.1 hi.2 hd h
        · cases hs
      · cases hs
    · cases hs
  | lastore =>
    have hn : n = 1 := of_decide_eq_true hok
    subst hn
    unfold zstep at hs
    dsimp only at hs
    split at hs
    · split at hs
      · rename_i m9 hT
        split at hs
        · rename_i hi
          cases hs
          exact zs_last C hT hi hd h
        · cases hs
      · cases hs
    · cases hs
  | fastore =>
    have hn : n = 1 := of_decide_eq_true hok
    subst hn
    unfold zstep at hs
    dsimp only at hs
    split at hs
    · split at hs
      · rename_i m9 hT
        split at hs
        · rename_i hi
          cases hs
          exact zs_fast C hT hi hd h
        · cases hs
      · cases hs
    · cases hs
  | aastore =>
    have hn : n = 1 := of_decide_eq_true hok
    subst hn
    unfold zstep at hs
    dsimp only at hs
    split at hs
    · split at hs
      · rename_i m9 hT
        split at hs
        · rename_i hi
          cases hs
          exact zs_aast C hT hi.1 hi.2.1 hi.2.2 hd h
        · cases hs
      · cases hs
    · cases hs
  | arraylength =>
    have hn : n = 1 := of_decide_eq_true hok
    subst hn
    unfold zstep at hs
    dsimp only at hs
    split at hs
    · split at hs
      · rename_i hk1
        subst hk1
        cases hs
        exact zs_alen1 C hd h
      · split at hs
        · rename_i hT
          split at hs
          · rename_i ha
            cases hs
            exact zs_alen C ha.1 hT (zalen_ty ha.1 ha.2) hd h
          · cases hs
        · cases hs
    · cases hs
  | new i =>
    rw [Bool.and_eq_true, Bool.and_eq_true, Bool.and_eq_true, decide_eq_true_eq] at hok
    obtain ⟨⟨⟨⟨g1, hn⟩, g2⟩, g3⟩, g4⟩ := hok
    subst hn
    unfold zstep at hs
    dsimp only at hs
    split at hs
    · rename_i hl
      cases hs
      simp only [List.length_append, zslots_app] at hr1 hr2
      have e1 : zdsl (a, 0) = (zcls a).2.2 := if_pos (by show a < 10; omega)
      rw [e1] at hr2
      simp only [List.length_cons, List.length_nil] at hr1
      exact zs_new C g1 hl hc1 hc2 (by omega) (by omega) (zw_in g2) (zw_in g3) (zw_in g4) hd h
    · cases hs
  | newarray k9 =>
    rw [Bool.and_eq_true, decide_eq_true_eq] at hok
    obtain ⟨hn, hok⟩ := hok
    subst hn
    unfold zstep at hs
    dsimp only at hs
    split at hs
    · split at hs
      · rename_i hl
        cases hs
        have hk9 : (k9 = .int ∨ k9 = .long ∨ k9 = .float) ∨ k9 = .byte ∨ k9 = .boolean := by
          cases k9 <;> first | exact Or.inl (Or.inl rfl) | exact Or.inl (Or.inr (Or.inl rfl)) | exact Or.inl (Or.inr (Or.inr rfl)) | exact Or.inr (Or.inl rfl) | exact Or.inr (Or.inr rfl) | exact absurd hok (by decide +kernel)
        have hkd : ¬ zkd k9 < 10 := by rcases hk9 with (rfl | rfl | rfl) | rfl | rfl <;> decide
        simp only [List.length_append, zslots_app, List.length_cons, List.length_nil, zdsl, if_neg hkd] at hr1 hr2
        exact zs_newarray C hk9 hl.1 hl.2 hc1 hc2 (by omega) (by omega) (zw_in hok) hd h
      · cases hs
    · cases hs
  | anewarray i =>
    rw [Bool.and_eq_true, decide_eq_true_eq] at hok
    obtain ⟨⟨ha, hn⟩, hok⟩ := hok
    subst hn
    subst ha
    unfold zstep at hs
    dsimp only at hs
    split at hs
    · split at hs
      · rename_i m9 s9 hl
        cases hs
        simp only [List.length_append, zslots_app, List.length_cons, List.length_nil] at hr1 hr2
        have e1 : zdsl (15, m9.toNat) = m9.toNat := rfl
        rw [e1] at hr2
        exact zs_anewarray C hl.1 hl.2 hc1 hc2 (by omega) (by omega) (zw_in hok) hd h
      · cases hs
    · cases hs
  | invokespecial i =>
    unfold zkind at hk
    have ha : ¬ a < 1000 := fun q => by rw [if_pos q] at hk; cases hk
    unfold zstep at hs
    dsimp only at hs
    split at hs
    · rename_i h4
      have h4 : a = 1004 := h4
      dsimp only at hok
      rw [if_pos h4, Bool.and_eq_true, decide_eq_true_eq] at hok
      obtain ⟨⟨hn, g1, g2⟩, g3⟩ := hok
      subst hn
      split at hs
      · split at hs
        · rename_i hq
          cases hs
          exact zs_objInit C (zw_in g3) ⟨g1, g2⟩ hq hd h
        · cases hs
      · cases hs
    · cases hs
  | invokestatic i =>
    unfold zkind at hk
    have ha : ¬ a < 1000 := fun q => by rw [if_pos q] at hk; cases hk
    dsimp only at hok
    rw [if_pos (show 1000 ≤ a by omega), Bool.and_eq_true, decide_eq_true_eq] at hok
    obtain ⟨⟨hn, -, -, g1, g2⟩, g3⟩ := hok
    subst hn
    unfold zstep at hs
    dsimp only at hs
    split at hs
    · rename_i h9
      have h9 : a = 1000 := h9
      subst h9
      split at hs
      · split at hs
        · rename_i na nb hTs hTd
          split at hs
          · rename_i hq
            cases hs
            exact zs_copy C (zw_in g3) ⟨g1, g2⟩ hq.2.2.2.2.2 hTs hTd hq.1 hq.2.1 hq.2.2.1 hq.2.2.2.1 hq.2.2.2.2.1 hd h
          · cases hs
        · cases hs
      · cases hs
    · skip
      split at hs
      · rename_i h9
        have h9 : a = 1001 := h9
        subst h9
        split at hs
        · split at hs
          · rename_i hq
            cases hs
            exact zs_f2i C (zw_in g3) ⟨g1, g2⟩ hq hd h
          · cases hs
        · cases hs
      · skip
        split at hs
        · rename_i h9
          have h9 : a = 1002 := h9
          subst h9
          split at hs
          · split at hs
            · rename_i hq
              cases hs
              exact zs_d2raw C (zw_in g3) ⟨g1, g2⟩ hq hd h
            · cases hs
          · cases hs
        · skip
          split at hs
          · rename_i h9
            have h9 : a = 1003 := h9
            subst h9
            split at hs
            · split at hs
              · rename_i hq
                cases hs
                exact zs_l2raw C hq.2 (zw_in g3) ⟨g1, g2⟩ hq.1 hd h
              · cases hs
            · cases hs
          · skip
            split at hs
            · rename_i h9
              have h9 : a = 1005 := h9
              subst h9
              split at hs
              · split at hs
                · rename_i hq
                  cases hs
                  exact zs_dabs C hq.2 (zw_in g3) ⟨g1, g2⟩ hq.1 hd ⟨hr3, hr4⟩ h
                · cases hs
              · cases hs
            · skip
              split at hs
              · rename_i h9
                have h9 : a = 1006 := h9
                subst h9
                split at hs
                · split at hs
                  · rename_i hq
                    cases hs
                    exact zs_dmax C hq.2.1 hq.2.2 (zw_in g3) ⟨g1, g2⟩ hq.1 hd ⟨hr3, hr4⟩ h
                  · cases hs
                · cases hs
              · skip
                cases hs
  | ireturn => cases hk
  | lreturn => cases hk
  | freturn => cases hk
  | dreturn => cases hk
  | return_ => cases hk
  | invokevirtual _ => cases hk
  | _ => exact absurd hs (by unfold zstep; exact fun q => by cases q)
end ZSTEP
end
section
section ZRUN
/-- nothing that stands is taken away -/
theorem zstep_T {I : Instr} {n : Nat} {r : zRes} {pc pc' : Nat} {L L' : zLs} {st st' : List zAV} {M M' : zM} (h : zstep I n r pc L st M = some (pc', L', st', M')) : M'.1 = M.1 ∨ ∃ d, M'.1 = M.1 ++ [d] := by
  unfold zstep at h
  cases I <;> dsimp only at h <;> (repeat' split at h) <;> first | (cases h; exact Or.inl rfl) | (cases h; exact Or.inr ⟨_, rfl⟩) | cases h
theorem zstep_mono {I : Instr} {n : Nat} {r : zRes} {pc pc' : Nat} {L L' : zLs} {st st' : List zAV} {M M' : zM} (h : zstep I n r pc L st M = some (pc', L', st', M')) : M.1.length ≤ M'.1.length ∧ zslots M.1 ≤ zslots M'.1 := by
  rcases zstep_T h with e | ⟨d, e⟩
  · rw [e]; exact ⟨Nat.le_refl _, Nat.le_refl _⟩
  · rw [e, List.length_append, zslots_app]; exact ⟨Nat.le_add_right _ _, Nat.le_add_right _ _⟩
theorem zrun_mono : ∀ (f y pc : Nat) (L : zLs) (st : List zAV) (M : zM) (v : Option zAV) (M' : zM), zrun f y pc L st M = some (v, M') → M.1.length ≤ M'.1.length ∧ zslots M.1 ≤ zslots M'.1 := by
  intro f
  induction f with
  | zero => intro y pc L st M v M' h; cases h
  | succ f ih =>
    intro y pc L st M v M' h
    unfold zrun at h
    split at h
    · cases h
    · split at h
      · split at h
        · rename_i hs
          obtain ⟨h1, h2⟩ := zstep_mono hs
          obtain ⟨h3, h4⟩ := ih _ _ _ _ _ _ _ h
          exact ⟨Nat.le_trans h1 h3, Nat.le_trans h2 h4⟩
        · cases h
      · split at h
        · cases h
          exact ⟨Nat.le_refl _, Nat.le_refl _⟩
        · cases h
      · split at h
        · split at h
          · rename_i hs
            obtain ⟨h1, h2⟩ := ih _ _ _ _ _ _ _ hs
            obtain ⟨h3, h4⟩ := ih _ _ _ _ _ _ _ h
            exact ⟨Nat.le_trans h1 h3, Nat.le_trans h2 h4⟩
          · cases h
        · cases h
/-- more fuel does no harm -/
theorem zrun_more : ∀ (f y pc : Nat) (L : zLs) (st : List zAV) (M : zM) (o : Option zAV × zM) (g : Nat), zrun f y pc L st M = some o → f ≤ g → zrun g y pc L st M = some o := by
  intro f
  induction f with
  | zero => intro y pc L st M o g h; cases h
  | succ f ih =>
    intro y pc L st M o g h hg
    obtain ⟨g', rfl⟩ : ∃ g', g = g' + 1 := ⟨g - 1, by omega⟩
    unfold zrun at h ⊢
    split at h
    · cases h
    · rename_i I n r hc
      try rw [hc]
      try dsimp only
      split at h
      · rename_i hk
        try rw [hk]
        try dsimp only
        split at h
        · rename_i hs
          try rw [hs]
          exact ih _ _ _ _ _ _ _ h (by omega)
        · cases h
      · rename_i hk
        try rw [hk]
        try dsimp only
        exact h
      · rename_i hk0 hk1
        split at h
        · rename_i hq
          split at h
          · rename_i v M1 hs
            try rw [if_pos hq]
            rw [ih _ _ _ _ _ _ _ hs (by omega : f ≤ g')]
            exact ih _ _ _ _ _ _ _ h (by omega)
          · cases h
        · cases h
end ZRUN
end
section
section ZCALL
theorem zgood {w : Cond} (h : w ∈ zall) : w ∈ zall ∧ ((w.onTables && w.keeps) = true ∨ ∃ ty, w = .arrayClass ty) := ⟨h, good_of_word (zall_good h)⟩
theorem zws_good {z : Nat} (h : Cond.code (zname z) (zbytes z) (zml z) (zret z) ∈ zall) : GoodIn zall (zws z) := by
  intro w hw
  rcases List.mem_cons.mp hw with rfl | hw
  · exact zgood h
  · exact zgood hw
/-- what the checks say of a callee -/
theorem zcal_of {z : Nat} (hz : z < 184) : (Cond.code (zname z) (zbytes z) (zml z) (zret z) ∈ zall ∧ Cond.initialized (zname z).cls ∈ zall) ∧ ((zname z).cls ≠ "java/lang/invoke/MethodHandle" ∧ (zname z).cls ≠ "java/lang/invoke/VarHandle" ∧ (parseMethodDescriptor (zname z).desc).map (fun d => d.parameters.length) = some (znarg z)) ∧ plainFor (zname z) = true ∧
    (if (zps z).2.2.2.2.2 = 1 then Cond.static (zname z) ∈ zall else Cond.instanceMethod (zname z) ∈ zall) := by
  have h := zcal_all z hz
  unfold zcal at h
  simp only [Bool.and_eq_true, decide_eq_true_eq] at h
  obtain ⟨⟨⟨⟨⟨⟨h1, h2⟩, h3⟩, h4⟩, h5⟩, h6⟩, h7⟩ := h
  refine ⟨⟨zw_in h1, zw_in h2⟩, ⟨h3, h4, h6⟩, h5, ?_⟩
  split
  · rename_i q
    rw [if_pos q] at h7
    exact zw_in h7
  · rename_i q
    rw [if_neg q] at h7
    exact zw_in h7
theorem zlv_args (AD : Nat → Nat) : ∀ (vs : List zAV) (i j : Nat) (u : zAV), (zsl vs).getD j none = some u → (i + j, zC AD u) ∈ lv_args i (vs.map (zC AD)) := by
  intro vs
  induction vs with
  | nil =>
    intro i j u h
    have e : (zsl []) = [] := rfl
    rw [e] at h
    cases h
  | cons v vs ih =>
    intro i j u h
    have e : zsl (v :: vs) = (if zcat v = 2 then [some v, none] else [some v]) ++ zsl vs := by
      unfold zsl
      rw [List.flatMap_cons]
    rw [e] at h
    show (i + j, zC AD u) ∈ (i, zC AD v) :: lv_args (if (zC AD v).category = 2 then i + 2 else i + 1) (vs.map (zC AD))
    rw [zC_cat]
    by_cases hc : zcat v = 2
    · rw [if_pos hc] at h ⊢
      rcases j with _ | _ | j
      · have h2 : v = u := by simpa using h
        subst h2
        exact List.mem_cons_self
      · have h2 : (none : Option zAV) = some u := by simpa using h
        cases h2
      · refine List.mem_cons_of_mem _ ?_
        rw [show i + (j + 1 + 1) = (i + 2) + j by omega]
        exact ih (i + 2) j u (by simpa using h)
    · rw [if_neg hc] at h ⊢
      rcases j with _ | j
      · have h2 : v = u := by simpa using h
        subst h2
        exact List.mem_cons_self
      · refine List.mem_cons_of_mem _ ?_
        rw [show i + (j + 1) = (i + 1) + j by omega]
        exact ih (i + 1) j u (by simpa using h)
theorem zsl_len (AD : Nat → Nat) (vs : List zAV) : (lg_sl (vs.map (zC AD))).length = (zsl vs).length := by
  induction vs with
  | nil => rfl
  | cons v vs ih =>
    have e1 : zsl (v :: vs) = (if zcat v = 2 then [some v, none] else [some v]) ++ zsl vs := by
      unfold zsl; rw [List.flatMap_cons]
    have e2 : lg_sl ((v :: vs).map (zC AD)) = (if (zC AD v).category = 2 then [Slot.val (zC AD v), .second] else [Slot.val (zC AD v)]) ++ lg_sl (vs.map (zC AD)) := by
      unfold lg_sl; rw [List.map_cons, List.flatMap_cons]
    rw [e1, e2, List.length_append, List.length_append, ih, zC_cat]
    by_cases hc : zcat v = 2
    · rw [if_pos hc, if_pos hc]; rfl
    · rw [if_neg hc, if_neg hc]; rfl
theorem zent_has {AD : Nat → Nat} {z : Nat} {vs : List zAV} {ls : Array Slot} (h : lv_has ls (zml z) (lv_args 0 (vs.map (zC AD)))) : lv_has ls (zml z) (zlv AD (zent z vs)) := by
  refine ⟨h.1, h.2.1, fun q hq => h.2.2 q ?_⟩
  obtain ⟨u, h1, h2⟩ := zlv_mem.mp hq
  unfold zent at h1
  rw [List.getD_eq_getElem?_getD] at h1
  rcases Nat.lt_or_ge q.1 (zsl vs).length with g | g
  · rw [List.getElem?_append_left g, ← List.getD_eq_getElem?_getD] at h1
    have h3 := zlv_args AD vs 0 q.1 u h1
    rw [Nat.zero_add] at h3
    rw [show q = (q.1, zC AD u) by rw [← h2]]
    exact h3
  · rw [List.getElem?_append_right g, List.getElem?_replicate] at h1
    split at h1 <;> cases h1
theorem zent_len {z : Nat} {vs : List zAV} (h : (zsl vs).length ≤ zml z) : (zent z vs).length = zml z := by
  unfold zent
  rw [List.length_append, List.length_replicate]
  omega
/-- a method's start, and its end -/
def zPc (base t b : Nat) (D : va_G) (dA : Nat → ClassId) (zx : Nat → Int) (Ln : Nat) (vs : List zAV) (M : zM) : Array Value → State → Prop := va_Pc (vs.map (zC (zAD base t b))) (fun U => zH base t b D dA zx Ln M U.heap ∧ zK D dA U ∧ zSt base t b zx Ln U U.heap ∧ base ≤ U.heap.size)
def zQc (base t b : Nat) (D : va_G) (dA : Nat → ClassId) (zx : Nat → Int) (Ln : Nat) (v : Option zAV) (M : zM) : Array Value → State → Outcome → State → Prop := fun _ st oc tt => oc = .returned (v.map (zC (zAD base t b))) ∧ zH base t b D dA zx Ln M tt.heap ∧ va_F (fun q => base ≤ q) st tt
theorem zK_moved {D : va_G} {dA : Nat → ClassId} {s U : State} (hW : s.WarmedH U.vm) (h : zK D dA s) : zK D dA U := by
  refine ⟨va_K.moved hW.alike h.1, fun w hw => ?_, va_AO.moved hW.alike h.2.2⟩
  have h1 := h.2.1 w hw
  unfold znest at hw
  have h2 := (List.mem_filter.mp hw).2
  revert h1 h2
  cases w <;> intro h1 h2 <;> first | exact va_Nw.warmM hW h1 | cases h2
theorem zSt_moved {base t b : Nat} {zx : Nat → Int} {Ln : Nat} {s U : State} {H : Heap} (hvm : s.vm.Alike U.vm) (h : zSt base t b zx Ln s s.heap) (hS : s.heap.size ≤ H.size ∧ ∀ q : Nat, q < s.heap.size → ¬ base ≤ q → H[q]? = s.heap[q]?) (hbs : base ≤ s.heap.size) : zSt base t b zx Ln U H := by
  obtain ⟨h1, h2, h3, h4, h5, h6⟩ := h
  have hk : ∀ a : Nat, a < s.heap.size → ¬ base ≤ a → H[a]? = s.heap[a]? := hS.2
  exact ⟨(h1.moved hvm).kept hk, (h2.moved hvm).kept hk, (h3.moved hvm).kept hk, (h4.moved hvm).kept (hk b (by omega) (by omega)), h5, h6⟩
theorem zPc_blind {base t b : Nat} {D : va_G} {dA : Nat → ClassId} {zx : Nat → Int} {Ln : Nat} {vs : List zAV} {M : zM} : FrameBlind (zPc base t b D dA zx Ln vs M) := by
  intro a U g mk h
  obtain ⟨h1, h2, h3, h4, h5⟩ := h
  refine ⟨h1, h2, ⟨va_K.moved (u := U) (U := U.calling g mk a) (Vm.Alike.refl U.vm) h3.1, fun w hw => ?_, va_AO.moved (u := U) (U := U.calling g mk a) (Vm.Alike.refl U.vm) h3.2.2⟩, ?_, h5⟩
  · have h6 := h3.2.1 w hw
    unfold znest at hw
    have h7 := (List.mem_filter.mp hw).2
    revert h6 h7
    cases w <;> intro h6 h7 <;> first | exact va_Nw.same rfl rfl h6 | cases h7
  · exact zSt_moved (s := U) (U := U.calling g mk a) (Vm.Alike.refl U.vm) h4 ⟨Nat.le_refl _, fun _ _ _ => rfl⟩ h5
variable {p : Program} {l : Launch} {e : Env} {R : Room} {s : State} {m : MethodId} {args : Array Value} {below : List Frame} {meth : Method} {c : Code} {Q : State → Prop} {base t b : Nat} {D : va_G} {dA : Nat → ClassId} {zx : Nat → Int} {Ln n0 s0 y : Nat} {pc : Nat} {L : zLs} {st : List zAV} {M : zM}
/-- behind a call -/
theorem zcall_W (C : zCtx p R s m args meth c base t b D dA zx Ln y) {v : Option zAV} {M1 : zM} {a : Array Value} {H : Heap} {locs : List Loc} {ls : Array Slot} {st0 : List Value} {rest : List zAV} (hm1 : M.1.length ≤ M1.1.length) (hm2 : zslots M.1 ≤ zslots M1.1) (h2 : va_S (fun q => base ≤ q) s.heap H locs) (h3 : lv_has ls (zml y) (zlv (zAD base t b) L)) (h4 : L.length = zml y) (h5 : n0 ≤ M.1.length) (h6 : s0 ≤ zslots M.1)
    (hr : va_Run p l e R s m args below meth c H locs (M.1.length - n0) (zslots M.1 - s0) (M1.1.length - M.1.length) (zslots M1.1 - zslots M.1) (F0 m pc ls st0) (rest.map (zC (zAD base t b))) (zQc base t b D dA zx Ln v M1 a) (fun q => base ≤ q))
    (h : zGo p l e R s m args below meth c Q base t b D dA zx Ln n0 s0 y (pc + 3) L (v.toList ++ rest) M1) : W p l e R s m args below meth c H locs (M.1.length - n0) (zslots M.1 - s0) Q (F0 m pc ls st0) := by
  intro T hT X
  obtain ⟨w, st₀, t', T', L9, g0, X', hL, e1, e2, ⟨hv, hH, hz, hk⟩, stp⟩ := hr T hT X
  cases hv
  rw [g0] at hz hk
  rw [show M.1.length - n0 + (M1.1.length - M.1.length) = M1.1.length - n0 by omega, show zslots M.1 - s0 + (zslots M1.1 - zslots M.1) = zslots M1.1 - s0 by omega] at X'
  obtain ⟨t2, a1, b1⟩ := h T'.heap (locs ++ L9) ls (by rw [e1]; exact hH) ⟨Nat.le_trans h2.1 (by rw [e1]; exact hz), fun q g1 g2 => by rw [e1, hk q (Nat.lt_of_lt_of_le g1 h2.1) g2]; exact h2.2.1 q g1 g2, fun q hq => by
      rcases List.mem_append.mp hq with g | g
      · exact h2.2.2 q g
      · exact hL q g⟩ h3 h4 (by omega) (by omega) T' rfl X'
  refine ⟨t2, stp t2 ?_, b1⟩
  have e3 : (v.map (zC (zAD base t b))).toList ++ rest.map (zC (zAD base t b)) = (v.toList ++ rest).map (zC (zAD base t b)) := by
    rw [List.map_append]
    cases v <;> rfl
  rw [e3]
  exact a1
/-- a method's leave -/
theorem zleave_W (C : zCtx p R s m args meth c base t b D dA zx Ln y) (hrt : meth.sig.returnType = zret y) (hlk : meth.locks = false) {I : Instr} {n : Nat} {r : zRes} {v : Option zAV} {mc ms : Nat} (hok : zokI y (pc, I, n, r) = true) (hl : zleave I r st = some v) (hmc : M.1.length - n0 = mc) (hms : zslots M.1 - s0 = ms) :
    zGo p l e R s m args below meth c (MQ below (zQc base t b D dA zx Ln v M) args s mc ms (fun q => base ≤ q)) base t b D dA zx Ln n0 s0 y pc L st M := by
  subst hmc
  subst hms
  intro H locs ls h1 h2 h3 h4 h5 h6
  obtain ⟨hx, hb, hml, hown, hts, hK, hS, hnm, hfr, hlo, hbs⟩ := C
  obtain ⟨a, f, w, x9⟩ := r
  unfold zokI at hok
  rw [Bool.and_eq_true, decide_eq_true_eq] at hok
  obtain ⟨hd, hok⟩ := hok
  unfold zleave at hl
  split at hl
  · split at hl
    · rename_i x hq
      cases hl
      by_cases ha : a = 0
      · dsimp only at hok
        rw [if_pos ha] at hok
        obtain ⟨hn, hr0⟩ := of_decide_eq_true hok
        subst hn
        exact W.iret hx hb (hrt.trans hr0) (fun tt ht hW => ⟨rfl, by rw [ht]; exact h1, h2.F ht⟩) h2.2.2 hd hlk
      · dsimp only at hok
        rw [if_neg ha] at hok
        obtain ⟨hn, hr0⟩ := of_decide_eq_true hok
        subst hn
        exact W.zret hx hb (hrt.trans hr0) (z1_nar (hq.resolve_left ha)).1 (fun tt ht hW => ⟨rfl, by rw [ht]; exact h1, h2.F ht⟩) h2.2.2 hd hlk
    · cases hl
  · cases hl
    obtain ⟨hn, hr0⟩ := of_decide_eq_true hok
    subst hn
    exact W.lret hx hb (hrt.trans hr0) (fun tt ht hW => ⟨rfl, by rw [ht]; exact h1, h2.F ht⟩) h2.2.2 hd hlk
  · cases hl
    obtain ⟨hn, hr0⟩ := of_decide_eq_true hok
    subst hn
    exact W.fret hx hb (hrt.trans hr0) (fun tt ht hW => ⟨rfl, by rw [ht]; exact h1, h2.F ht⟩) h2.2.2 hd hlk
  · cases hl
    obtain ⟨hn, hr0⟩ := of_decide_eq_true hok
    subst hn
    exact W.dret hx hb (hrt.trans hr0) (fun tt ht hW => ⟨rfl, by rw [ht]; exact h1, h2.F ht⟩) h2.2.2 hd hlk
  · cases hl
    obtain ⟨hn, hr0⟩ := of_decide_eq_true hok
    subst hn
    exact W.vret hx hb (hrt.trans hr0) (fun tt ht hW => ⟨rfl, by rw [ht]; exact h1, h2.F ht⟩) h2.2.2 hd hlk
  · cases hl
/-- a contract out of a walk: the plain names' law, with the table of natives asked for the rest -/
theorem zMet_of {y : MethodName} {ws ws' : List Cond} {rm : Room} {Pc : Array Value → State → Prop} {Qc : Array Value → State → Outcome → State → Prop} {mc ms : Nat} {free : Addr → Prop} {cc : ByteArray} {maxL : Nat} {ret : Option FieldType}
    (hy : plainFor y = true) (hw : ws = Cond.code y cc maxL ret :: ws')
    (body : ∀ p e s m args below meth c s₁, BodyLoose p l y (headSpec ws rm) cc maxL ret e s m args below meth c s₁ → c.maxLocals = maxL → Pc args s →
      W p l e (headSpec ws rm).room s m args below meth c s.heap [] 0 0 (MQ below Qc args s mc ms free) (entryFrame m args maxL)) : Met l y ws rm Pc Qc mc ms free := by
  refine MetFree.of_bodySF (code := cc) (maxLocals := maxL) (ret := ret) hy ?_ ?_
  · intro args s m h hn
    obtain ⟨meth, c, h1, h2, h3, h4, h5, h6, -, -⟩ := Cond.code_spec hn (atoms_spec (ws := ws) h _ (by rw [hw]; exact List.mem_cons_self))
    exact ⟨meth, c, h1, h2, h3, h4, h5, h6⟩
  · intro p e s m args below meth c s₁ B hml hP _
    have hh0 : s₁.heap = s.heap := by rw [B.state]; rfl
    obtain ⟨t, a1, o, b1, b2, b3⟩ := body p e s m args below meth c s₁ B hml hP s₁ hh0 (Stand.of_body B)
    exact ⟨t, o, a1, b1, b2, ⟨b3.1, b3.2⟩⟩
/-- the walk of a run, for all contexts: what the induction gives -/
def zWalks (f : Nat) : Prop := ∀ (p : Program) (l : Launch) (e : Env) (R : Room) (s : State) (m : MethodId) (args : Array Value) (below : List Frame) (meth : Method) (c : Code) (Q : State → Prop) (base t b : Nat) (D : va_G) (dA : Nat → ClassId) (zx : Nat → Int) (Ln n0 s0 y pc : Nat) (L : zLs) (st : List zAV) (M : zM) (v : Option zAV) (M' : zM),
  y < 185 → zrun f y pc L st M = some (v, M') → zCtx p R s m args meth c base t b D dA zx Ln y → n0 ≤ M.1.length → s0 ≤ zslots M.1 → M'.1.length - n0 ≤ R.cells → zslots M'.1 - s0 ≤ R.slots →
  (∀ (pc' : Nat) (L' : zLs) (st' : List zAV) (I : Instr) (n : Nat) (r : zRes), zokI y (pc', I, n, r) = true → zleave I r st' = some v → zGo p l e R s m args below meth c Q base t b D dA zx Ln n0 s0 y pc' L' st' M') →
  zGo p l e R s m args below meth c Q base t b D dA zx Ln n0 s0 y pc L st M
/-- a method's contract out of its run -/
theorem zMet_run {f : Nat} (ih : zWalks f) (l : Launch) {z : Nat} (hz : z < 184) {vs : List zAV} {M M' : zM} {v : Option zAV} (hl : (zsl vs).length ≤ zml z) (hrun : zrun f z 0 (zent z vs) [] M = some (v, M')) :
    Met l (zname z) (zws z) ({ frames := (zrm z).1, cells := M'.1.length - M.1.length, slots := zslots M'.1 - zslots M.1, locals := (zrm z).2 }) (zPc base t b D dA zx Ln vs M) (zQc base t b D dA zx Ln v M') (M'.1.length - M.1.length) (zslots M'.1 - zslots M.1) (fun q => base ≤ q) := by
  obtain ⟨-, -, hpl, -⟩ := zcal_of hz
  refine zMet_of (cc := zbytes z) (maxL := zml z) (ret := zret z) hpl rfl ?_
  intro p e s m args below meth c s₁ B hml hv
  obtain ⟨rfl, hH, hK, hS, hbs⟩ := hv
  have hts0 := atoms_spec (ws := zws z) B.pre
  have hts : ∀ w ∈ zall, w.before _ s = true := fun w hw => hts0 w (List.mem_cons_of_mem _ hw)
  have hown : s.vm.findClass (zname z).cls = some m.cls := findClass_of_methodNamed B.named
  have hin : meth.name = (zname z).name := (name_of_methodNamed B.named B.method).1
  have C : zCtx p (headSpec (zws z) ({ frames := (zrm z).1, cells := M'.1.length - M.1.length, slots := zslots M'.1 - zslots M.1, locals := (zrm z).2 })).room s m (vs.map (zC (zAD base t b))).toArray meth c base t b D dA zx Ln z :=
    ⟨B.exec, B.bytes, hml, hown, hts, hK, hS, fun h => hin.trans h, Nat.le_refl _, Nat.le_refl _, hbs⟩
  have hle := zsl_len (zAD base t b) vs
  have hlv := lv_entry (vs.map (zC (zAD base t b))) (n := zml z) (by omega)
  rw [lg_entry_eq]
  have g := ih p l e _ s m _ below meth c (MQ below (zQc base t b D dA zx Ln v M') (vs.map (zC (zAD base t b))).toArray s (M'.1.length - M.1.length) (zslots M'.1 - zslots M.1) (fun q => base ≤ q)) base t b D dA zx Ln M.1.length (zslots M.1) z 0 (zent z vs) [] M v M' (by omega) hrun C (Nat.le_refl _) (Nat.le_refl _) (Nat.le_refl _) (Nat.le_refl _)
    (fun pc' L' st' I n r hok hlv => zleave_W C B.returns B.notSynchronized hok hlv rfl rfl)
  have g2 := g s.heap [] _ hH va_S.rf (zent_has hlv) (zent_len hl) (Nat.le_refl _) (Nat.le_refl _)
  rw [Nat.sub_self, Nat.sub_self] at g2
  exact g2
end ZCALL
end
section
section ZMAIN
variable {p : Program} {l : Launch} {e : Env} {R : Room} {s : State} {m : MethodId} {args : Array Value} {below : List Frame} {meth : Method} {c : Code} {Q : State → Prop} {base t b : Nat} {D : va_G} {dA : Nat → ClassId} {zx : Nat → Int} {Ln n0 s0 y : Nat} {pc : Nat} {L : zLs} {M M1 : zM} {v1 : Option zAV} {a : Nat} {rest : List zAV}
theorem zlook {α : Type} {l : List (Nat × α)} {k : Nat} {v : α} (h : l.lookup k = some v) : (k, v) ∈ l := by
  induction l with
  | nil => cases h
  | cons q r ih =>
    obtain ⟨k', v'⟩ := q
    rw [List.lookup_cons] at h
    split at h
    · rename_i hk
      cases h
      have e : k = k' := by simpa using hk
      subst e
      exact List.mem_cons_self
    · exact List.mem_cons_of_mem _ (ih h)
theorem zok_at {y pc : Nat} {q : Instr × Nat × zRes} (hy : y < 185) (h : zcode y pc = some q) : zokI y (pc, q) = true := by
  have h1 := zok_all y hy
  unfold zokM at h1
  exact List.all_eq_true.mp h1 _ (zlook h)
theorem zroom_ok {x : Nat} {st : List zAV} (m : MethodId) (pc : Nat) (ls : Array Slot) (vs : List Value) (AD : Nat → Nat) (h : (st.map zcat).sum ≤ 8) : 2 * (F0 m pc ls vs).monitorRoom + ((st.map (zC AD)).map fun v => v.category).sum ≤ 8 := by
  rw [zC_sum]
  show 2 * 0 + _ ≤ 8
  omega
theorem zpre (C : zCtx p R s m args meth c base t b D dA zx Ln y) {H : Heap} {locs : List Loc} {vs : List zAV} (h1 : zH base t b D dA zx Ln M H) (h2 : va_S (fun q => base ≤ q) s.heap H locs) : ∀ U : State, U.heap = H → s.WarmedH U.vm → zPc base t b D dA zx Ln vs M (vs.map (zC (zAD base t b))).toArray U := by
  obtain ⟨hx, hb, hml, hown, hts, hK, hS, hnm, hfr, hlo, hbs⟩ := C
  intro U hU hW
  refine ⟨rfl, by rw [hU]; exact h1, zK_moved hW hK, ?_, ?_⟩
  · rw [hU]
    exact zSt_moved hW.alike hS ⟨h2.1, h2.2.1⟩ hbs
  · rw [hU]
    exact Nat.le_trans hbs h2.1
theorem zs_virt (C : zCtx p R s m args meth c base t b D dA zx Ln y) {i k0 : Nat} {as : List zAV} (hz : a < 184) (hst : (zps a).2.2.2.2.2 = 0) (hw1 : Cond.methodLink (zname y).cls i (zname a) ∈ zall) (hw2 : Cond.selects (zname a).cls (zname a) (zname a) ∈ zall) (hf : (zrm a).1 + 1 ≤ (zrm y).1) (hlc : 8 + (zml a + 11) + (zrm a).2 ≤ (zrm y).2)
    (hlen : as.length = znarg a) (hrv : zrecv a M (zR k0 :: as) = true) (hrs : (rest.map zcat).sum ≤ 8) (hm1 : M.1.length ≤ M1.1.length) (hm2 : zslots M.1 ≤ zslots M1.1) (hc1 : M1.1.length - n0 ≤ R.cells) (hc2 : zslots M1.1 - s0 ≤ R.slots)
    (hM : Met l (zname a) (zws a) ({ frames := (zrm a).1, cells := M1.1.length - M.1.length, slots := zslots M1.1 - zslots M.1, locals := (zrm a).2 }) (zPc base t b D dA zx Ln (zR k0 :: as) M) (zQc base t b D dA zx Ln v1 M1) (M1.1.length - M.1.length) (zslots M1.1 - zslots M.1) (fun q => base ≤ q))
    (hd : decode (zbytes y) pc = .ok (.invokevirtual i, 3)) (h : zGo p l e R s m args below meth c Q base t b D dA zx Ln n0 s0 y (pc + 3) L (v1.toList ++ rest) M1) : zGo p l e R s m args below meth c Q base t b D dA zx Ln n0 s0 y pc L ((zR k0 :: as).reverse ++ rest) M := by
  intro H locs ls h1 h2 h3 h4 h5 h6
  obtain ⟨⟨wc, wi⟩, hdn, -, hin⟩ := zcal_of hz
  rw [if_neg (by rw [hst]; decide)] at hin
  obtain ⟨hx, hb, hml, hown, hts, hK, hS, hnm, hfr, hlo, hbs⟩ := id C
  have hrc : ∃ cc nn, M.1[k0]? = some (cc, nn) ∧ cc < 9 ∧ (zcls cc).1 = (zname a).cls := by
    unfold zrecv at hrv
    rw [if_neg (by rw [hst]; decide)] at hrv
    dsimp only at hrv
    split at hrv
    · rename_i cc nn hk
      exact ⟨cc, nn, hk, of_decide_eq_true hrv⟩
    · cases hrv
  obtain ⟨cc, nn, hk0, hcc, hcn⟩ := hrc
  obtain ⟨hk9, hP⟩ := zH_in h1 hk0
  have hrecv := va_recv (q0 := 0) (ci := cc) (fs := zflds (zAD base t b) cc M.2.1 M.2.2 k0) hK.1 hP (zcl_at cc hcc) (by rw [zel_obj hcc]; rfl)
  rw [hcn, ← zAD_lo (base := base) (t := t) (b := b) hk9] at hrecv
  refine zcall_W C (a := (Value.ref (zAD base t b k0) :: as.map (zC (zAD base t b))).toArray) hm1 hm2 h2 h3 h4 h5 h6 ?_ h
  refine va_runV (Ts := zall) (As := as.map (zC (zAD base t b))) ⟨hx, hb, hml, hown, hts⟩ hM
    (cwV (C := (zname a).cls) (bytes := zbytes a) (maxL := zml a) (ret := zret a) (own := (zname y).cls) (znarg a) hts ?_ rfl rfl rfl ⟨rfl, hdn⟩ ⟨by show (zrm a).1 + 1 ≤ R.frames; omega, by show 8 + (zml a + 11) + (zrm a).2 ≤ R.locals; omega⟩)
    ⟨zPc_blind, hrecv, zpre C h1 h2⟩ rfl (by rw [List.length_map]; exact hlen) h3.1 ?_ (zroom_ok (x := 0) m pc ls _ _ hrs) hd ⟨by omega, by omega⟩
  · intro w hw
    unfold wsV at hw
    rcases List.mem_append.mp hw with hw | hw
    · simp only [List.mem_cons, List.not_mem_nil, or_false] at hw
      rcases hw with rfl | rfl | rfl | rfl
      · exact zgood hw1
      · exact zgood hin
      · exact zgood hw2
      · exact zgood wi
    · exact zws_good wc w hw
  · show ((zR k0 :: as).reverse ++ rest).map (zC (zAD base t b)) = _
    rw [List.map_append, List.map_reverse, List.map_cons, List.reverse_cons, List.append_assoc]
    rfl
theorem zs_stat (C : zCtx p R s m args meth c base t b D dA zx Ln y) {i : Nat} {vs : List zAV} (hz : a < 184) (hst : (zps a).2.2.2.2.2 = 1) (hw1 : Cond.methodLink (zname y).cls i (zname a) ∈ zall ∨ Cond.methodLinkNest (zname y).cls i (zname a) "EstateVessels" ∈ lw_tbl) (hf : (zrm a).1 + 1 ≤ (zrm y).1) (hlc : 8 + (zml a + 11) + (zrm a).2 ≤ (zrm y).2)
    (hlen : vs.length = znarg a) (hrs : (rest.map zcat).sum ≤ 8) (hm1 : M.1.length ≤ M1.1.length) (hm2 : zslots M.1 ≤ zslots M1.1) (hc1 : M1.1.length - n0 ≤ R.cells) (hc2 : zslots M1.1 - s0 ≤ R.slots)
    (hM : Met l (zname a) (zws a) ({ frames := (zrm a).1, cells := M1.1.length - M.1.length, slots := zslots M1.1 - zslots M.1, locals := (zrm a).2 }) (zPc base t b D dA zx Ln vs M) (zQc base t b D dA zx Ln v1 M1) (M1.1.length - M.1.length) (zslots M1.1 - zslots M.1) (fun q => base ≤ q))
    (hd : decode (zbytes y) pc = .ok (.invokestatic i, 3)) (h : zGo p l e R s m args below meth c Q base t b D dA zx Ln n0 s0 y (pc + 3) L (v1.toList ++ rest) M1) : zGo p l e R s m args below meth c Q base t b D dA zx Ln n0 s0 y pc L (vs.reverse ++ rest) M := by
  intro H locs ls h1 h2 h3 h4 h5 h6
  obtain ⟨⟨wc, wi⟩, hdn, -, hin⟩ := zcal_of hz
  rw [if_pos hst] at hin
  obtain ⟨hx, hb, hml, hown, hts, hK, hS, hnm, hfr, hlo, hbs⟩ := id C
  have hs9 : (vs.reverse ++ rest).map (zC (zAD base t b)) = (vs.map (zC (zAD base t b))).reverse ++ rest.map (zC (zAD base t b)) := by
    rw [List.map_append, List.map_reverse]
  refine zcall_W C (a := (vs.map (zC (zAD base t b))).toArray) hm1 hm2 h2 h3 h4 h5 h6 ?_ h
  rcases hw1 with hw1 | hw1
  · refine va_runS (Ts := zall) (As := vs.map (zC (zAD base t b))) ⟨hx, hb, hml, hown, hts⟩ hM
      (va_cwS (bytes := zbytes a) (maxL := zml a) (ret := zret a) (own := (zname y).cls) (znarg a) hts ?_ rfl rfl rfl hdn ⟨by show (zrm a).1 + 1 ≤ R.frames; omega, by show 8 + (zml a + 11) + (zrm a).2 ≤ R.locals; omega⟩)
      ⟨zPc_blind, zpre C h1 h2⟩ rfl (by rw [List.length_map]; exact hlen) h3.1 hs9 (zroom_ok (x := 0) m pc ls _ _ hrs) hd ⟨by omega, by omega⟩
    intro w hw
    unfold va_wsS at hw
    rcases List.mem_append.mp hw with hw | hw
    · simp only [List.mem_cons, List.not_mem_nil, or_false] at hw
      rcases hw with rfl | rfl | rfl
      · exact zgood hw1
      · exact zgood hin
      · exact zgood wi
    · exact zws_good wc w hw
  · exact va_runSN (Ts := zall) (As := vs.map (zC (zAD base t b))) ⟨hx, hb, hml, hown, hts⟩ hM
      ⟨va_cnB (host := "EstateVessels") (bytes := zbytes a) (maxL := zml a) (ret := zret a) (own := (zname y).cls) (znarg a) hts (zws_good wc) rfl rfl rfl (hK.2.1 _ (List.mem_filter.mpr ⟨hw1, rfl⟩)) (hts _ wi) hdn ⟨by show (zrm a).1 + 1 ≤ R.frames; omega, by show 8 + (zml a + 11) + (zrm a).2 ≤ R.locals; omega⟩, hts _ hin, trivial⟩
      ⟨zPc_blind, zpre C h1 h2⟩ rfl (by rw [List.length_map]; exact hlen) h3.1 hs9 (zroom_ok (x := 0) m pc ls _ _ hrs) hd ⟨by omega, by omega⟩
theorem zs_spec (C : zCtx p R s m args meth c base t b D dA zx Ln y) {i k0 : Nat} {as : List zAV} (hz : a < 184) (hst : (zname a).name = "<init>" ∧ zret a = none ∧ (zps a).2.2.2.2.2 = 0) (hw1 : Cond.methodLink (zname y).cls i (zname a) ∈ zall ∨ Cond.methodLinkNest (zname y).cls i (zname a) "EstateVessels" ∈ lw_tbl) (hf : (zrm a).1 + 1 ≤ (zrm y).1) (hlc : 8 + (zml a + 11) + (zrm a).2 ≤ (zrm y).2)
    (hlen : as.length = znarg a) (hrs : (rest.map zcat).sum ≤ 8) (hm1 : M.1.length ≤ M1.1.length) (hm2 : zslots M.1 ≤ zslots M1.1) (hc1 : M1.1.length - n0 ≤ R.cells) (hc2 : zslots M1.1 - s0 ≤ R.slots)
    (hM : Met l (zname a) (zws a) ({ frames := (zrm a).1, cells := M1.1.length - M.1.length, slots := zslots M1.1 - zslots M.1, locals := (zrm a).2 }) (zPc base t b D dA zx Ln (zR k0 :: as) M) (zQc base t b D dA zx Ln v1 M1) (M1.1.length - M.1.length) (zslots M1.1 - zslots M.1) (fun q => base ≤ q))
    (hd : decode (zbytes y) pc = .ok (.invokespecial i, 3)) (h : zGo p l e R s m args below meth c Q base t b D dA zx Ln n0 s0 y (pc + 3) L (v1.toList ++ rest) M1) : zGo p l e R s m args below meth c Q base t b D dA zx Ln n0 s0 y pc L ((zR k0 :: as).reverse ++ rest) M := by
  intro H locs ls h1 h2 h3 h4 h5 h6
  obtain ⟨hnI, hrN, hst⟩ := hst
  obtain ⟨⟨wc, wi⟩, hdn, -, hin⟩ := zcal_of hz
  rw [if_neg (by rw [hst]; decide)] at hin
  obtain ⟨hx, hb, hml, hown, hts, hK, hS, hnm, hfr, hlo, hbs⟩ := id C
  have hs9 : ((zR k0 :: as).reverse ++ rest).map (zC (zAD base t b)) = (as.map (zC (zAD base t b))).reverse ++ .ref (zAD base t b k0) :: rest.map (zC (zAD base t b)) := by
    rw [List.map_append, List.map_reverse, List.map_cons, List.reverse_cons, List.append_assoc]
    rfl
  have hws : zws a = Cond.code (zname a) (zbytes a) (zml a) none :: zall := by unfold zws; rw [hrN]
  refine zcall_W C (a := (Value.ref (zAD base t b k0) :: as.map (zC (zAD base t b))).toArray) hm1 hm2 h2 h3 h4 h5 h6 ?_ h
  rcases hw1 with hw1 | hw1
  · exact va_runI (Ts := zall) (As := as.map (zC (zAD base t b))) ⟨hx, hb, hml, hown, hts⟩ hM
      (cwI (bytes := zbytes a) (maxL := zml a) (own := (zname y).cls) (znarg a) hts (zws_good wc) hws rfl rfl (hts _ wi) (hts _ hw1) (hts _ hin) hnI hdn ⟨by show (zrm a).1 + 1 ≤ R.frames; omega, by show 8 + (zml a + 11) + (zrm a).2 ≤ R.locals; omega⟩)
      ⟨zPc_blind, zpre C h1 h2⟩ rfl (by rw [List.length_map]; exact hlen) h3.1 hs9 (zroom_ok (x := 0) m pc ls _ _ hrs) hd ⟨by omega, by omega⟩
  · exact va_runIN (Ts := zall) (As := as.map (zC (zAD base t b))) ⟨hx, hb, hml, hown, hts⟩ hM
      ⟨va_cnB (host := "EstateVessels") (bytes := zbytes a) (maxL := zml a) (ret := none) (own := (zname y).cls) (znarg a) hts (zws_good wc) hws rfl rfl (hK.2.1 _ (List.mem_filter.mpr ⟨hw1, rfl⟩)) (hts _ wi) hdn ⟨by show (zrm a).1 + 1 ≤ R.frames; omega, by show 8 + (zml a + 11) + (zrm a).2 ≤ R.locals; omega⟩, hnI, hts _ hin⟩
      ⟨zPc_blind, zpre C h1 h2⟩ rfl (by rw [List.length_map]; exact hlen) h3.1 hs9 (zroom_ok (x := 0) m pc ls _ _ hrs) hd ⟨by omega, by omega⟩
theorem zwalks : ∀ f, zWalks f := by
  intro f
  induction f with
  | zero =>
    intro p l e R s m args below meth c Q base t b D dA zx Ln n0 s0 y pc L st M v M' hy hrun
    cases hrun
  | succ f ih =>
    intro p l e R s m args below meth c Q base t b D dA zx Ln n0 s0 y pc L st M v M' hy hrun C hn0 hs0 hR1 hR2 hret
    unfold zrun at hrun
    split at hrun
    · cases hrun
    · rename_i I n r hc
      have hok := zok_at hy hc
      split at hrun
      · rename_i hk
        split at hrun
        · rename_i pc' L' st' M1 hs
          obtain ⟨g1, g2⟩ := zstep_mono hs
          obtain ⟨g3, g4⟩ := zrun_mono _ _ _ _ _ _ _ _ hrun
          exact zsim_step C hok hk hs hn0 hs0 (by omega) (by omega) (by omega) (by omega) (ih p l e R s m args below meth c Q base t b D dA zx Ln n0 s0 y pc' L' st' M1 v M' hy hrun C (by omega) (by omega) hR1 hR2 hret)
        · cases hrun
      · split at hrun
        · rename_i v' hv
          cases hrun
          exact hret pc L st I n r hok hv
        · cases hrun
      · rename_i hk0 hk1
        split at hrun
        · rename_i hq
          obtain ⟨q1, q2, q3, q4⟩ := hq
          split at hrun
          · rename_i v1 M1 hr1
            obtain ⟨g1, g2⟩ := zrun_mono _ _ _ _ _ _ _ _ hr1
            obtain ⟨g3, g4⟩ := zrun_mono _ _ _ _ _ _ _ _ hrun
            have hgo := ih p l e R s m args below meth c Q base t b D dA zx Ln n0 s0 y (pc + n) L _ M1 v M' hy hrun C (by omega) (by omega) hR1 hR2 hret
            have hvl : (st.take (ztake r.1)).reverse.length = ztake r.1 := by rw [List.length_reverse, List.length_take]; omega
            have hse : st = (st.take (ztake r.1)).reverse.reverse ++ st.drop (ztake r.1) := by rw [List.reverse_reverse, List.take_append_drop]
            generalize (st.take (ztake r.1)).reverse = vs at *
            generalize st.drop (ztake r.1) = rest at *
            subst hse
            obtain ⟨a, fl, w, x9⟩ := r
            unfold zokI at hok
            rw [Bool.and_eq_true, decide_eq_true_eq] at hok
            obtain ⟨hd, hok⟩ := hok
            cases I with
            | invokevirtual i =>
              dsimp only at hok
              simp only [Bool.and_eq_true, decide_eq_true_eq] at hok
              obtain ⟨⟨⟨⟨hn, hz, -, hf, hlc⟩, w1⟩, w2⟩, hst⟩ := hok
              subst hn
              have hM := zMet_run (base := base) (t := t) (b := b) (D := D) (dA := dA) (zx := zx) (Ln := Ln) ih l hz q3 hr1
              rcases vs with _ | ⟨u, as⟩
              · exfalso
                unfold ztake at hvl
                rw [if_neg (by rw [hst]; decide)] at hvl
                cases hvl
              · have hal : as.length = znarg a := by
                  unfold ztake at hvl
                  rw [if_neg (by rw [hst]; decide)] at hvl
                  exact Nat.succ.inj hvl
                rcases u with u | u | u | u | k0
                · exfalso; unfold zrecv at q4; rw [if_neg (by rw [hst]; decide)] at q4; cases q4
                · exfalso; unfold zrecv at q4; rw [if_neg (by rw [hst]; decide)] at q4; cases q4
                · exfalso; unfold zrecv at q4; rw [if_neg (by rw [hst]; decide)] at q4; cases q4
                · exfalso; unfold zrecv at q4; rw [if_neg (by rw [hst]; decide)] at q4; cases q4
                · exact zs_virt C hz hst (zw_in w1) (zw_in w2) hf hlc hal q4 q2 g1 g2 (by omega) (by omega) hM hd hgo
            | invokespecial i =>
              dsimp only at hok
              by_cases ha : a = 1004
              · exact absurd (if_neg (show ¬ a < 1000 by omega)) hk0
              · rw [if_neg ha] at hok
                simp only [Bool.and_eq_true, decide_eq_true_eq] at hok
                obtain ⟨⟨⟨hn, hz, hf, hlc⟩, hst⟩, w1⟩ := hok
                subst hn
                have w1' : Cond.methodLink (zname y).cls i (zname a) ∈ zall ∨ Cond.methodLinkNest (zname y).cls i (zname a) "EstateVessels" ∈ lw_tbl := by
                  split at w1
                  · exact Or.inl (zw_in w1)
                  · exact Or.inr (zwn_in w1)
                have hM := zMet_run (base := base) (t := t) (b := b) (D := D) (dA := dA) (zx := zx) (Ln := Ln) ih l hz q3 hr1
                rcases vs with _ | ⟨u, as⟩
                · exfalso
                  unfold ztake at hvl
                  rw [if_neg (by rw [hst.2.2]; decide)] at hvl
                  cases hvl
                · have hal : as.length = znarg a := by
                    unfold ztake at hvl
                    rw [if_neg (by rw [hst.2.2]; decide)] at hvl
                    exact Nat.succ.inj hvl
                  rcases u with u | u | u | u | k0
                  · exfalso; unfold zrecv at q4; rw [if_neg (by rw [hst.2.2]; decide)] at q4; cases q4
                  · exfalso; unfold zrecv at q4; rw [if_neg (by rw [hst.2.2]; decide)] at q4; cases q4
                  · exfalso; unfold zrecv at q4; rw [if_neg (by rw [hst.2.2]; decide)] at q4; cases q4
                  · exfalso; unfold zrecv at q4; rw [if_neg (by rw [hst.2.2]; decide)] at q4; cases q4
                  · exact zs_spec C hz hst w1' hf hlc hal q2 g1 g2 (by omega) (by omega) hM hd hgo
            | invokestatic i =>
              dsimp only at hok
              by_cases ha : 1000 ≤ a
              · exact absurd (if_neg (show ¬ a < 1000 by omega)) hk0
              · rw [if_neg ha] at hok
                simp only [Bool.and_eq_true, decide_eq_true_eq] at hok
                obtain ⟨⟨⟨hn, hz, hf, hlc⟩, hst⟩, w1⟩ := hok
                subst hn
                have w1' : Cond.methodLink (zname y).cls i (zname a) ∈ zall ∨ Cond.methodLinkNest (zname y).cls i (zname a) "EstateVessels" ∈ lw_tbl := by
                  split at w1
                  · exact Or.inl (zw_in w1)
                  · exact Or.inr (zwn_in w1)
                have hM := zMet_run (base := base) (t := t) (b := b) (D := D) (dA := dA) (zx := zx) (Ln := Ln) ih l hz q3 hr1
                have hal : vs.length = znarg a := by
                  unfold ztake at hvl
                  rw [if_pos hst] at hvl
                  exact hvl
                exact zs_stat C hz hst w1' hf hlc hal q2 g1 g2 (by omega) (by omega) hM hd hgo
            | ireturn => exact absurd rfl hk1
            | lreturn => exact absurd rfl hk1
            | freturn => exact absurd rfl hk1
            | dreturn => exact absurd rfl hk1
            | return_ => exact absurd rfl hk1
            | _ => exact absurd rfl hk0
          · cases hrun
        · cases hrun
end ZMAIN
end
section
/-! THE CLAIM OUT OF A RUN OF THE ABSTRACT MACHINE -/
def zini (xs : Nat → Int) (Ln : Nat) : zMem := fun k i => if k = 1001 then xs i else if k = 1002 then (Ln : Int) else 0
/-- what is left to show: on every script the abstract machine's run of the law answers 1 -/
def zGoal : Prop := ∀ (xs : Nat → Int) (Ln : Nat), Ln ≤ 3072 → (∀ j, -2147483648 ≤ xs j ∧ xs j ≤ 2147483647) → ∃ (f : Nat) (M' : zM), zrun f 184 0 [some (zR 1001), none, none, none] [] ([], [], zini xs Ln) = some (some (zI 1), M') ∧ M'.1.length ≤ 900 ∧ zslots M'.1 ≤ 7000000
def R_law : String := "EstateVesselsLaw"
def lw_P (b : Addr) (xs : List Int32) (args : Array Value) (s : State) : Prop := args = #[.ref b] ∧ s.IntsAt b xs ∧ xs.length ≤ 3072 ∧ (Jvm.Cond.and given_1 narrow_1).before args s = true
/-- what a walk over the start with the record d0 says of its end, said of the start itself -/
theorem lw_closed {s t : State} {o : Outcome} {d0 : Drawn} {L : List Loc} {k n : Nat} (hd0 : s.drawn.sameBut d0 lw_cs) (hv : ∃ v, o = .returned v) (hW : (s.setDrawn d0).WarmedH t.vm) (hs : (s.setDrawn d0).sameButNew ({ t with vm := s.vm } : State) L k n) : State.butDraws s t lw_cs (fun t1 => Framed s o t1 L k n) := by
  have h2 : t.drawn = d0 := congrArg State.drawn hs.1
  refine ⟨⟨hv, hW, State.sameButNew.setDrawn hs s.drawn⟩, ?_, by decide⟩
  rw [h2]
  exact hd0
def lw_Q (_ : Array Value) (s : State) (o : Outcome) (t : State) : Prop := o = .returned (some (.int 1)) ∧ State.butDraws s t lw_cs (fun t1 => Framed s o t1 [] 600000 7302250)
def lw_Z (below : List Frame) (a : Array Value) (s : State) : State → Prop := fun t => ∃ o, t.status = .running ∧ Ended t below o ∧ lw_Q a s o t
/-- the law's own end, with 1 on the stack, nothing written that was there before, its room as the claim has it; d0: the record of draws at this point (at the entry s.drawn: begin with 'refine W.base ?_' and 'have hd0 := Drawn.sameBut.refl s.drawn lw_cs') -/
theorem lw_ret {p : Program} {l : Launch} {e : Env} {s : State} {m : MethodId} {below : List Frame} {meth : Method} {c : Code} {b : Nat} {d0 : Drawn} (hd0 : s.drawn.sameBut d0 lw_cs) (hx : p.tables.exec = Jvm.exec) (hb : c.code = code) (hr : meth.sig.returnType = ret) (hlocks : meth.locks = false) {pc : Nat} {H : Heap} {ls : Array Slot} (hdg : decode code pc = .ok (.ireturn, 1)) : W p l e room_1 (s.setDrawn d0) m #[Value.ref b] below meth c H [] 600000 7302250 (lw_Z below #[Value.ref b] s) (F0 m pc ls [.int 1]) := by
  intro T hT X
  obtain ⟨fs, hret, hrun, hended, hW, hframe⟩ := X.leave (v := some (.int 1)) (hlocks := hlocks) (fun h => by rw [hr] at h; cases h)
  have hmeth' : T.vm.method? m = some meth := X.method'
  refine ⟨T.setFrames fs, ?_, .returned (some (.int 1)), hrun, hended, rfl, lw_closed hd0 ⟨_, rfl⟩ hW hframe⟩
  jvm_step X.here [X.here.top, hx, hb, hdg, hmeth', hr, ret, narrow_b1]
  (try refine ⟨rfl, ?_⟩); (try refine ⟨rfl, ?_⟩)
  first | (intro acts; rw [hret _ acts rfl rfl rfl]) | rw [hret _ _ rfl rfl rfl]
  exact Steps.refl _
/-- what holds at the law's entry: the machine, the code, the tables' words (any of lw_tbl by 'hts w (by decide +kernel)'), the script of L ints xs at the cell b, what the Statement gives of the start (any of its parts by flat_of_before) -/
def lw_At (p : Program) (s : State) (m : MethodId) (meth : Method) (c : Code) (b L : Nat) (xs : Nat → Int32) : Prop :=
  p.tables.exec = Jvm.exec ∧ c.code = code ∧ meth.sig.returnType = ret ∧ c.maxLocals = 4 ∧ s.vm.findClass R_law = some m.cls ∧ (∀ w ∈ lw_tbl, w.before #[Value.ref b] s = true) ∧ va_X b L xs s s.heap ∧ b < s.heap.size ∧ meth.locks = false ∧ (Jvm.Cond.and given_1 narrow_1).before #[Value.ref b] s = true
theorem zs_eqval {args : Array Value} {s : State} {a : Term} {n : Int32} (h : (Cond.eq a (.int n)).before args s = true) : a.eval args s none [] s = some (.int n) := by
  obtain ⟨y, h1, h2⟩ := Cond.eq_one (show (Cond.eq a (.int n)).holds args s none s [] = true from h)
  cases h2
  exact h1
/-- the classes' numbers, at the start -/
theorem zs_known {args : Array Value} {s : State} (hts : ∀ w ∈ lw_tbl, w.before args s = true) : ∃ (D : va_G) (dA : Nat → ClassId), zK D dA s := by
  have hall : ∀ w ∈ zall, w.before args s = true := fun w hw => hts w (zall_tbl hw)
  have hcl : ∀ a, ∃ q : ClassId × (Nat → Nat), a < 9 → u_Kn s (zcls a).1 (zcls a).2.1 (zcls a).2.2 q.1 q.2 := by
    intro a
    by_cases ha : a < 9
    · have hi : Cond.instantiable (zcls a).1 (zcls a).2.2 ∈ lw_tbl := by
        rcases (show a = 0 ∨ a = 1 ∨ a = 2 ∨ a = 3 ∨ a = 4 ∨ a = 5 ∨ a = 6 ∨ a = 7 ∨ a = 8 by omega) with rfl | rfl | rfl | rfl | rfl | rfl | rfl | rfl | rfl
        · exact zwn_in (p := (zcp.getD 0 (0, 0)).1) (by decide +kernel)
        · exact zwn_in (p := (zcp.getD 1 (0, 0)).1) (by decide +kernel)
        · exact zwn_in (p := (zcp.getD 2 (0, 0)).1) (by decide +kernel)
        · exact zwn_in (p := (zcp.getD 3 (0, 0)).1) (by decide +kernel)
        · exact zwn_in (p := (zcp.getD 4 (0, 0)).1) (by decide +kernel)
        · exact zwn_in (p := (zcp.getD 5 (0, 0)).1) (by decide +kernel)
        · exact zwn_in (p := (zcp.getD 6 (0, 0)).1) (by decide +kernel)
        · exact zwn_in (p := (zcp.getD 7 (0, 0)).1) (by decide +kernel)
        · exact zwn_in (p := (zcp.getD 8 (0, 0)).1) (by decide +kernel)
      obtain ⟨cC, iS, hk⟩ := u_known (ws := zall) hall (zcl_in ha) (hts _ hi)
      exact ⟨(cC, iS), fun _ => hk⟩
    · exact ⟨(0, fun _ => 0), fun h => absurd h ha⟩
  have har : ∀ k, ∃ q : ClassId, (10 ≤ k ∧ k ≤ 15) → ArrOfT s q (zkt k) ∧ va_RA s q (zkt k) := by
    intro k
    by_cases hk : 10 ≤ k ∧ k ≤ 15
    · rcases (show k = 10 ∨ k = 11 ∨ k = 12 ∨ k = 13 ∨ k = 14 ∨ k = 15 by omega) with rfl | rfl | rfl | rfl | rfl | rfl
      · obtain ⟨cA, kA, comp, f1, f2, f3⟩ := Cond.arrayClass_spec (hts (.arrayClass .int) (zwn_in (p := 106) (by decide +kernel)))
        exact ⟨cA, fun _ => ⟨fun N z => ⟨(fun k h => by cases h), kA, f2, comp, f3⟩, f1⟩⟩
      · obtain ⟨cA, kA, comp, f1, f2, f3⟩ := Cond.arrayClass_spec (hts (.arrayClass .long) (zwn_in (p := 125) (by decide +kernel)))
        exact ⟨cA, fun _ => ⟨fun N z => ⟨(fun k h => by cases h), kA, f2, comp, f3⟩, f1⟩⟩
      · obtain ⟨cA, kA, comp, f1, f2, f3⟩ := Cond.arrayClass_spec (hts (.arrayClass .float) (zwn_in (p := 152) (by decide +kernel)))
        exact ⟨cA, fun _ => ⟨fun N z => ⟨(fun k h => by cases h), kA, f2, comp, f3⟩, f1⟩⟩
      · obtain ⟨cA, kA, comp, f1, f2, f3⟩ := Cond.arrayClass_spec (hts (.arrayClass .byte) (zwn_in (p := 209) (by decide +kernel)))
        exact ⟨cA, fun _ => ⟨fun N z => ⟨(fun k h => by cases h), kA, f2, comp, f3⟩, f1⟩⟩
      · obtain ⟨cA, kA, comp, f1, f2, f3⟩ := Cond.arrayClass_spec (hts (.arrayClass .boolean) (zwn_in (p := 770) (by decide +kernel)))
        exact ⟨cA, fun _ => ⟨fun N z => ⟨(fun k h => by cases h), kA, f2, comp, f3⟩, f1⟩⟩
      · obtain ⟨comp, cA, kA, f1, f2, f3, f4, f5⟩ := Cond.arrayOver_spec (hts (.arrayOver (.object "EstateVessels$Tape")) (zwn_in (p := 211) (by decide +kernel)))
        exact ⟨cA, fun _ => ⟨fun N z => ⟨(fun k h => by cases h), kA, f3, comp, f4⟩, kA, comp, f3, f4, f1, f5⟩⟩
    · exact ⟨0, fun h => absurd h hk⟩
  refine ⟨(fun a => (Classical.choose (hcl a)).1, fun a => (Classical.choose (hcl a)).2), fun k => Classical.choose (har k), ⟨fun a q hq => ?_, fun k q hq => ?_⟩, fun w hw => ?_, ?_⟩
  · have ha : a < 9 := (List.getElem?_eq_some_iff.mp hq).1
    have e := (zcl_at a ha).symm.trans hq
    cases e
    exact Classical.choose_spec (hcl a) ha
  · have hk : k < 6 := (List.getElem?_eq_some_iff.mp hq).1
    rcases (show k = 0 ∨ k = 1 ∨ k = 2 ∨ k = 3 ∨ k = 4 ∨ k = 5 by omega) with rfl | rfl | rfl | rfl | rfl | rfl
    · cases hq; exact Classical.choose_spec (har 10) (by omega)
    · cases hq; exact Classical.choose_spec (har 11) (by omega)
    · cases hq; exact Classical.choose_spec (har 12) (by omega)
    · cases hq; exact Classical.choose_spec (har 13) (by omega)
    · cases hq; exact Classical.choose_spec (har 14) (by omega)
    · cases hq; exact Classical.choose_spec (har 15) (by omega)
  · unfold znest at hw
    obtain ⟨h1, h2⟩ := List.mem_filter.mp hw
    have h3 := hts w h1
    revert h2 h3
    cases w <;> intro h2 h3 <;> first | exact va_Nw.of rfl h3 | cases h2
  · exact hts (.arrayOver (.object "EstateVessels$Tape")) (zwn_in (p := 211) (by decide +kernel))
theorem zs_stat0 {s : State} {b Ln : Nat} {zx : Nat → Int} (hts : ∀ w ∈ lw_tbl, w.before #[Value.ref b] s = true) (hX : va_X b Ln (fun j => Int32.ofInt (zx j)) s s.heap) (hbl : b < s.heap.size) (hL : Ln ≤ 3072) (hgv : (Jvm.Cond.and given_1 narrow_1).before #[Value.ref b] s = true) : ∃ t, zSt s.heap.size t b zx Ln s s.heap := by
  have hs := flat_of_before _ hgv
  have hA : ∀ a : Nat, a < s.heap.size → ¬ s.heap.size ≤ a := fun a h => by omega
  have harr : (Cond.arrayOf (.static "EstateVessels$Group" "ORDERS" "[I") .int).before #[Value.ref b] s = true := hs _ (by decide +kernel)
  have hlen := zs_eqval (hs (.eq (.length (.static "EstateVessels$Group" "ORDERS" "[I")) (.int 7)) (by decide +kernel))
  have e0 := zs_eqval (hs (.eq (.elem (.static "EstateVessels$Group" "ORDERS" "[I") (.int 0)) (.int 1)) (by decide +kernel))
  have e1 := zs_eqval (hs (.eq (.elem (.static "EstateVessels$Group" "ORDERS" "[I") (.int 1)) (.int 1)) (by decide +kernel))
  have e2 := zs_eqval (hs (.eq (.elem (.static "EstateVessels$Group" "ORDERS" "[I") (.int 2)) (.int 2)) (by decide +kernel))
  have e3 := zs_eqval (hs (.eq (.elem (.static "EstateVessels$Group" "ORDERS" "[I") (.int 3)) (.int 6)) (by decide +kernel))
  have e4 := zs_eqval (hs (.eq (.elem (.static "EstateVessels$Group" "ORDERS" "[I") (.int 4)) (.int 24)) (by decide +kernel))
  have e5 := zs_eqval (hs (.eq (.elem (.static "EstateVessels$Group" "ORDERS" "[I") (.int 5)) (.int 120)) (by decide +kernel))
  have e6 := zs_eqval (hs (.eq (.elem (.static "EstateVessels$Group" "ORDERS" "[I") (.int 6)) (.int 720)) (by decide +kernel))
  obtain ⟨t, ht, hT⟩ := va_Tof (N := 7) (f := fun j => .int (Int32.ofInt (([1, 1, 2, 6, 24, 120, 720] : List Int).getD j 0))) (A := fun q => s.heap.size ≤ q) (by omega) harr hlen (fun j hj => by
    rcases (show j = 0 ∨ j = 1 ∨ j = 2 ∨ j = 3 ∨ j = 4 ∨ j = 5 ∨ j = 6 by omega) with rfl | rfl | rfl | rfl | rfl | rfl | rfl
    · exact e0
    · exact e1
    · exact e2
    · exact e3
    · exact e4
    · exact e5
    · exact e6) hA
  have hneg : (Term.static "java/lang/Math" "negativeZeroDoubleBits" "J").eval #[Value.ref b] s none [] s = some (.long (Int64.ofInt (-9223372036854775808))) := by
    have h := hs (.eq (.static "java/lang/Math" "negativeZeroDoubleBits" "J") (.long (-9223372036854775808))) (by decide +kernel)
    obtain ⟨w, h1, h2⟩ := Cond.eq_one (show (Cond.eq _ _).holds #[Value.ref b] s none s [] = true from h)
    cases h2
    exact h1
  refine ⟨t, va_Zref (hts _ (zwn_in (p := 426) (by decide +kernel))) (hts _ (zwn_in (p := 53) (by decide +kernel))) ht hA, va_Zof (hts _ (zwn_in (p := 1031) (by decide +kernel))) (hts _ (zwn_in (p := 60) (by decide +kernel))) hneg hA, hT, hX, hbl, by omega⟩
set_option maxHeartbeats 4000000 in
/-- the walk of the law's body, out of the abstract run -/
theorem zs_start (hg : zGoal) {p : Program} {e : Env} {s : State} {m : MethodId} {below : List Frame} {meth : Method} {c : Code} (l : Launch) {b L : Nat} {xs : Nat → Int32} (hL : L ≤ 3072) (C0 : lw_At p s m meth c b L xs) : W p l e room_1 s m #[Value.ref b] below meth c s.heap [] 0 0 (lw_Z below #[Value.ref b] s) (entryFrame m ([Value.ref b] : List Value).toArray 4) := by
  obtain ⟨hx, hb, hr, hml, hown, hts, hX, hbl, hlocks, hgv⟩ := id C0
  obtain ⟨f, M', hrun, hm1, hm2⟩ := hg (fun j => (xs j).toInt) L hL (fun j => ⟨Int32.le_toInt (xs j), by have := Int32.toInt_lt (xs j); omega⟩)
  have hxs : (fun j => Int32.ofInt ((xs j).toInt)) = xs := funext fun j => Int32.ofInt_toInt (xs j)
  obtain ⟨D, dA, hK⟩ := zs_known hts
  obtain ⟨t, hS⟩ := zs_stat0 (zx := fun j => (xs j).toInt) hts (by rw [hxs]; exact hX) hbl hL hgv
  have C : zCtx p room_1 s m #[Value.ref b] meth c s.heap.size t b D dA (fun j => (xs j).toInt) L 184 := by
    refine ⟨hx, hb, hml, hown, fun w hw => hts w (zall_tbl hw), hK, hS, ?_, by decide +kernel, by decide +kernel, Nat.le_refl _⟩
    intro h
    exact absurd h (by decide +kernel)
  have hl := lv_entry ([.ref b]) (n := 4) (Nat.le_of_ble_eq_true rfl)
  rw [lg_entry_eq]
  have g := zwalks f p l e room_1 s m #[Value.ref b] below meth c (lw_Z below #[Value.ref b] s) s.heap.size t b D dA (fun j => (xs j).toInt) L 0 0 184 0 _ [] _ _ M' (by omega) hrun C (Nat.zero_le _) (Nat.zero_le _) (by show M'.1.length - 0 ≤ 600000; omega) (by show zslots M'.1 - 0 ≤ 7302250; omega)
    (fun pc' L' st' I n r hok hlv => by
      intro H locs ls h1 h2 h3 h4 h5 h6
      obtain ⟨a, fl, w, v⟩ := r
      unfold zokI at hok
      rw [Bool.and_eq_true, decide_eq_true_eq] at hok
      obtain ⟨hd, hok⟩ := hok
      unfold zleave at hlv
      split at hlv
      · rename_i x
        split at hlv
        · cases hlv
          have hn : n = 1 := by
            dsimp only at hok
            split at hok <;> exact (of_decide_eq_true hok).1
          subst hn
          refine va_forget (fun q hq => h2.2.2 q hq) ?_
          refine W.widen (k := 600000) (n := 7302250) (by omega) (by omega) ?_
          refine W.base ?_
          exact lw_ret (Drawn.sameBut.refl s.drawn lw_cs) hx hb hr hlocks hd
        · cases hlv
      · cases hlv
      · cases hlv
      · cases hlv
      · cases hlv
      · cases hlv)
  refine g s.heap [] _ ⟨rfl, Nat.zero_le _, fun k d h => (by cases h), fun j => rfl, rfl⟩ va_S.rf (zent_has (z := 184) (vs := [zR 1001]) ?_) rfl (Nat.zero_le _) (Nat.zero_le _)
  exact hl
end
